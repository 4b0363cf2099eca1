section
-- ===== PART A: goes FIRST, ahead of the names: the tables' words, and 'selects' of the private methods out of them =====
/-- a private method of a class that the tables say can be made, by its rows of tables_1 -/
def lw_okq (q : MethodName × Nat) : Prop := (q.1.cls ≠ "java/lang/invoke/MethodHandle" ∧ q.1.cls ≠ "java/lang/invoke/VarHandle") ∧ Cond.instantiable q.1.cls q.2 ∈ tables_1 ∧ Cond.privateMethod q.1 ∈ tables_1 ∧ Cond.instanceMethod q.1 ∈ tables_1
theorem lw_p0 : lw_okq (⟨"PagesForAll$Parts", "add", "(II)I"⟩, 6) := ⟨⟨by decide +kernel, by decide +kernel⟩, List.mem_of_getElem? (i := 21) (by decide +kernel), List.mem_of_getElem? (i := 27) (by decide +kernel), List.mem_of_getElem? (i := 28) (by decide +kernel)⟩
theorem lw_p1 : lw_okq (⟨"PagesForAll$Parts", "insertInOrder", "(II)V"⟩, 6) := ⟨⟨by decide +kernel, by decide +kernel⟩, List.mem_of_getElem? (i := 21) (by decide +kernel), List.mem_of_getElem? (i := 31) (by decide +kernel), List.mem_of_getElem? (i := 32) (by decide +kernel)⟩
theorem lw_p2 : lw_okq (⟨"PagesForAll$Parts", "has", "(I)Z"⟩, 6) := ⟨⟨by decide +kernel, by decide +kernel⟩, List.mem_of_getElem? (i := 21) (by decide +kernel), List.mem_of_getElem? (i := 35) (by decide +kernel), List.mem_of_getElem? (i := 36) (by decide +kernel)⟩
theorem lw_p3 : lw_okq (⟨"PagesForAll$Parts", "spotInOrder", "(I)I"⟩, 6) := ⟨⟨by decide +kernel, by decide +kernel⟩, List.mem_of_getElem? (i := 21) (by decide +kernel), List.mem_of_getElem? (i := 39) (by decide +kernel), List.mem_of_getElem? (i := 40) (by decide +kernel)⟩
theorem lw_p4 : lw_okq (⟨"PagesForAll$Parts", "putFirstValues", "(III)V"⟩, 6) := ⟨⟨by decide +kernel, by decide +kernel⟩, List.mem_of_getElem? (i := 21) (by decide +kernel), List.mem_of_getElem? (i := 52) (by decide +kernel), List.mem_of_getElem? (i := 53) (by decide +kernel)⟩
theorem lw_p5 : lw_okq (⟨"PagesForAll$Parts", "put", "(III)V"⟩, 6) := ⟨⟨by decide +kernel, by decide +kernel⟩, List.mem_of_getElem? (i := 21) (by decide +kernel), List.mem_of_getElem? (i := 56) (by decide +kernel), List.mem_of_getElem? (i := 57) (by decide +kernel)⟩
theorem lw_p6 : lw_okq (⟨"PagesForAll$Parts", "isFull", "()Z"⟩, 6) := ⟨⟨by decide +kernel, by decide +kernel⟩, List.mem_of_getElem? (i := 21) (by decide +kernel), List.mem_of_getElem? (i := 266) (by decide +kernel), List.mem_of_getElem? (i := 267) (by decide +kernel)⟩
theorem lw_p7 : lw_okq (⟨"PagesForAll$Stops", "arrange", "()V"⟩, 3) := ⟨⟨by decide +kernel, by decide +kernel⟩, List.mem_of_getElem? (i := 139) (by decide +kernel), List.mem_of_getElem? (i := 271) (by decide +kernel), List.mem_of_getElem? (i := 272) (by decide +kernel)⟩
theorem lw_p8 : lw_okq (⟨"PagesForAll$Parts", "get", "(II)I"⟩, 6) := ⟨⟨by decide +kernel, by decide +kernel⟩, List.mem_of_getElem? (i := 21) (by decide +kernel), List.mem_of_getElem? (i := 275) (by decide +kernel), List.mem_of_getElem? (i := 276) (by decide +kernel)⟩
theorem lw_p9 : lw_okq (⟨"PagesForAll$Stops", "insert", "(I)V"⟩, 3) := ⟨⟨by decide +kernel, by decide +kernel⟩, List.mem_of_getElem? (i := 139) (by decide +kernel), List.mem_of_getElem? (i := 279) (by decide +kernel), List.mem_of_getElem? (i := 280) (by decide +kernel)⟩
theorem lw_p10 : lw_okq (⟨"PagesForAll$Stops", "rank", "(I)I"⟩, 3) := ⟨⟨by decide +kernel, by decide +kernel⟩, List.mem_of_getElem? (i := 139) (by decide +kernel), List.mem_of_getElem? (i := 283) (by decide +kernel), List.mem_of_getElem? (i := 284) (by decide +kernel)⟩
theorem lw_p11 : lw_okq (⟨"PagesForAll$Parts", "allows", "(II)Z"⟩, 6) := ⟨⟨by decide +kernel, by decide +kernel⟩, List.mem_of_getElem? (i := 21) (by decide +kernel), List.mem_of_getElem? (i := 291) (by decide +kernel), List.mem_of_getElem? (i := 292) (by decide +kernel)⟩
theorem lw_p12 : lw_okq (⟨"PagesForAll", "opensTooMany", "(II)Z"⟩, 8) := ⟨⟨by decide +kernel, by decide +kernel⟩, List.mem_of_getElem? (i := 13) (by decide +kernel), List.mem_of_getElem? (i := 295) (by decide +kernel), List.mem_of_getElem? (i := 296) (by decide +kernel)⟩
theorem lw_p13 : lw_okq (⟨"PagesForAll$Parts", "openedBesides", "(I)I"⟩, 6) := ⟨⟨by decide +kernel, by decide +kernel⟩, List.mem_of_getElem? (i := 21) (by decide +kernel), List.mem_of_getElem? (i := 299) (by decide +kernel), List.mem_of_getElem? (i := 300) (by decide +kernel)⟩
theorem lw_p14 : lw_okq (⟨"PagesForAll", "change", "(III)I"⟩, 8) := ⟨⟨by decide +kernel, by decide +kernel⟩, List.mem_of_getElem? (i := 13) (by decide +kernel), List.mem_of_getElem? (i := 306) (by decide +kernel), List.mem_of_getElem? (i := 307) (by decide +kernel)⟩
theorem lw_p15 : lw_okq (⟨"PagesForAll", "speakOf", "(I)V"⟩, 8) := ⟨⟨by decide +kernel, by decide +kernel⟩, List.mem_of_getElem? (i := 13) (by decide +kernel), List.mem_of_getElem? (i := 312) (by decide +kernel), List.mem_of_getElem? (i := 313) (by decide +kernel)⟩
def lw_privs_1 : List (MethodName × Nat) := [(⟨"PagesForAll$Parts", "add", "(II)I"⟩, 6), (⟨"PagesForAll$Parts", "insertInOrder", "(II)V"⟩, 6), (⟨"PagesForAll$Parts", "has", "(I)Z"⟩, 6), (⟨"PagesForAll$Parts", "spotInOrder", "(I)I"⟩, 6), (⟨"PagesForAll$Parts", "putFirstValues", "(III)V"⟩, 6), (⟨"PagesForAll$Parts", "put", "(III)V"⟩, 6), (⟨"PagesForAll$Parts", "isFull", "()Z"⟩, 6), (⟨"PagesForAll$Stops", "arrange", "()V"⟩, 3), (⟨"PagesForAll$Parts", "get", "(II)I"⟩, 6), (⟨"PagesForAll$Stops", "insert", "(I)V"⟩, 3), (⟨"PagesForAll$Stops", "rank", "(I)I"⟩, 3), (⟨"PagesForAll$Parts", "allows", "(II)Z"⟩, 6), (⟨"PagesForAll", "opensTooMany", "(II)Z"⟩, 8), (⟨"PagesForAll$Parts", "openedBesides", "(I)I"⟩, 6), (⟨"PagesForAll", "change", "(III)I"⟩, 8), (⟨"PagesForAll", "speakOf", "(I)V"⟩, 8)]
theorem lw_r1 : ∀ q ∈ lw_privs_1, lw_okq q := List.forall_mem_cons.mpr ⟨lw_p0, List.forall_mem_cons.mpr ⟨lw_p1, List.forall_mem_cons.mpr ⟨lw_p2, List.forall_mem_cons.mpr ⟨lw_p3, List.forall_mem_cons.mpr ⟨lw_p4, List.forall_mem_cons.mpr ⟨lw_p5, List.forall_mem_cons.mpr ⟨lw_p6, List.forall_mem_cons.mpr ⟨lw_p7, List.forall_mem_cons.mpr ⟨lw_p8, List.forall_mem_cons.mpr ⟨lw_p9, List.forall_mem_cons.mpr ⟨lw_p10, List.forall_mem_cons.mpr ⟨lw_p11, List.forall_mem_cons.mpr ⟨lw_p12, List.forall_mem_cons.mpr ⟨lw_p13, List.forall_mem_cons.mpr ⟨lw_p14, List.forall_mem_cons.mpr ⟨lw_p15, fun _ h => absurd h List.not_mem_nil⟩⟩⟩⟩⟩⟩⟩⟩⟩⟩⟩⟩⟩⟩⟩⟩
theorem lw_p16 : lw_okq (⟨"PagesForAll$Parts", "liveAround", "(I)I"⟩, 6) := ⟨⟨by decide +kernel, by decide +kernel⟩, List.mem_of_getElem? (i := 21) (by decide +kernel), List.mem_of_getElem? (i := 316) (by decide +kernel), List.mem_of_getElem? (i := 317) (by decide +kernel)⟩
theorem lw_p17 : lw_okq (⟨"PagesForAll$Parts", "shownNow", "()I"⟩, 6) := ⟨⟨by decide +kernel, by decide +kernel⟩, List.mem_of_getElem? (i := 21) (by decide +kernel), List.mem_of_getElem? (i := 323) (by decide +kernel), List.mem_of_getElem? (i := 324) (by decide +kernel)⟩
theorem lw_p18 : lw_okq (⟨"PagesForAll$Parts", "hiddenNow", "()I"⟩, 6) := ⟨⟨by decide +kernel, by decide +kernel⟩, List.mem_of_getElem? (i := 21) (by decide +kernel), List.mem_of_getElem? (i := 327) (by decide +kernel), List.mem_of_getElem? (i := 328) (by decide +kernel)⟩
theorem lw_p19 : lw_okq (⟨"PagesForAll$Parts", "shownUnder", "(I)I"⟩, 6) := ⟨⟨by decide +kernel, by decide +kernel⟩, List.mem_of_getElem? (i := 21) (by decide +kernel), List.mem_of_getElem? (i := 331) (by decide +kernel), List.mem_of_getElem? (i := 332) (by decide +kernel)⟩
theorem lw_p20 : lw_okq (⟨"PagesForAll$Spoken", "add", "(I)V"⟩, 2) := ⟨⟨by decide +kernel, by decide +kernel⟩, List.mem_of_getElem? (i := 221) (by decide +kernel), List.mem_of_getElem? (i := 335) (by decide +kernel), List.mem_of_getElem? (i := 336) (by decide +kernel)⟩
theorem lw_p21 : lw_okq (⟨"PagesForAll$Parts", "contrastOf", "(I)I"⟩, 6) := ⟨⟨by decide +kernel, by decide +kernel⟩, List.mem_of_getElem? (i := 21) (by decide +kernel), List.mem_of_getElem? (i := 358) (by decide +kernel), List.mem_of_getElem? (i := 359) (by decide +kernel)⟩
theorem lw_p22 : lw_okq (⟨"PagesForAll$Names", "compose", "(II)V"⟩, 3) := ⟨⟨by decide +kernel, by decide +kernel⟩, List.mem_of_getElem? (i := 98) (by decide +kernel), List.mem_of_getElem? (i := 384) (by decide +kernel), List.mem_of_getElem? (i := 385) (by decide +kernel)⟩
theorem lw_p23 : lw_okq (⟨"PagesForAll$Names", "addOwnOf", "(II)V"⟩, 3) := ⟨⟨by decide +kernel, by decide +kernel⟩, List.mem_of_getElem? (i := 98) (by decide +kernel), List.mem_of_getElem? (i := 389) (by decide +kernel), List.mem_of_getElem? (i := 390) (by decide +kernel)⟩
theorem lw_p24 : lw_okq (⟨"PagesForAll$Names", "add", "(II)V"⟩, 3) := ⟨⟨by decide +kernel, by decide +kernel⟩, List.mem_of_getElem? (i := 98) (by decide +kernel), List.mem_of_getElem? (i := 394) (by decide +kernel), List.mem_of_getElem? (i := 395) (by decide +kernel)⟩
theorem lw_p25 : lw_okq (⟨"PagesForAll$Names", "addTextsIn", "(II)V"⟩, 3) := ⟨⟨by decide +kernel, by decide +kernel⟩, List.mem_of_getElem? (i := 98) (by decide +kernel), List.mem_of_getElem? (i := 398) (by decide +kernel), List.mem_of_getElem? (i := 399) (by decide +kernel)⟩
theorem lw_p26 : lw_okq (⟨"PagesForAll$Names", "lengthOf", "(I)I"⟩, 3) := ⟨⟨by decide +kernel, by decide +kernel⟩, List.mem_of_getElem? (i := 98) (by decide +kernel), List.mem_of_getElem? (i := 403) (by decide +kernel), List.mem_of_getElem? (i := 404) (by decide +kernel)⟩
theorem lw_p27 : lw_okq (⟨"PagesForAll$Names", "wordOf", "(II)I"⟩, 3) := ⟨⟨by decide +kernel, by decide +kernel⟩, List.mem_of_getElem? (i := 98) (by decide +kernel), List.mem_of_getElem? (i := 411) (by decide +kernel), List.mem_of_getElem? (i := 412) (by decide +kernel)⟩
theorem lw_p28 : lw_okq (⟨"PagesForAll$Reading", "gather", "(I)V"⟩, 5) := ⟨⟨by decide +kernel, by decide +kernel⟩, List.mem_of_getElem? (i := 114) (by decide +kernel), List.mem_of_getElem? (i := 419) (by decide +kernel), List.mem_of_getElem? (i := 420) (by decide +kernel)⟩
theorem lw_p29 : lw_okq (⟨"PagesForAll$Reading", "isToBeSaid", "(I)Z"⟩, 5) := ⟨⟨by decide +kernel, by decide +kernel⟩, List.mem_of_getElem? (i := 114) (by decide +kernel), List.mem_of_getElem? (i := 424) (by decide +kernel), List.mem_of_getElem? (i := 425) (by decide +kernel)⟩
theorem lw_p30 : lw_okq (⟨"PagesForAll$Reading", "at", "(I)I"⟩, 5) := ⟨⟨by decide +kernel, by decide +kernel⟩, List.mem_of_getElem? (i := 114) (by decide +kernel), List.mem_of_getElem? (i := 429) (by decide +kernel), List.mem_of_getElem? (i := 430) (by decide +kernel)⟩
theorem lw_p31 : lw_okq (⟨"PagesForAll$Reading", "compare", "()V"⟩, 5) := ⟨⟨by decide +kernel, by decide +kernel⟩, List.mem_of_getElem? (i := 114) (by decide +kernel), List.mem_of_getElem? (i := 437) (by decide +kernel), List.mem_of_getElem? (i := 438) (by decide +kernel)⟩
def lw_privs_2 : List (MethodName × Nat) := [(⟨"PagesForAll$Parts", "liveAround", "(I)I"⟩, 6), (⟨"PagesForAll$Parts", "shownNow", "()I"⟩, 6), (⟨"PagesForAll$Parts", "hiddenNow", "()I"⟩, 6), (⟨"PagesForAll$Parts", "shownUnder", "(I)I"⟩, 6), (⟨"PagesForAll$Spoken", "add", "(I)V"⟩, 2), (⟨"PagesForAll$Parts", "contrastOf", "(I)I"⟩, 6), (⟨"PagesForAll$Names", "compose", "(II)V"⟩, 3), (⟨"PagesForAll$Names", "addOwnOf", "(II)V"⟩, 3), (⟨"PagesForAll$Names", "add", "(II)V"⟩, 3), (⟨"PagesForAll$Names", "addTextsIn", "(II)V"⟩, 3), (⟨"PagesForAll$Names", "lengthOf", "(I)I"⟩, 3), (⟨"PagesForAll$Names", "wordOf", "(II)I"⟩, 3), (⟨"PagesForAll$Reading", "gather", "(I)V"⟩, 5), (⟨"PagesForAll$Reading", "isToBeSaid", "(I)Z"⟩, 5), (⟨"PagesForAll$Reading", "at", "(I)I"⟩, 5), (⟨"PagesForAll$Reading", "compare", "()V"⟩, 5)]
theorem lw_r2 : ∀ q ∈ lw_privs_2, lw_okq q := List.forall_mem_cons.mpr ⟨lw_p16, List.forall_mem_cons.mpr ⟨lw_p17, List.forall_mem_cons.mpr ⟨lw_p18, List.forall_mem_cons.mpr ⟨lw_p19, List.forall_mem_cons.mpr ⟨lw_p20, List.forall_mem_cons.mpr ⟨lw_p21, List.forall_mem_cons.mpr ⟨lw_p22, List.forall_mem_cons.mpr ⟨lw_p23, List.forall_mem_cons.mpr ⟨lw_p24, List.forall_mem_cons.mpr ⟨lw_p25, List.forall_mem_cons.mpr ⟨lw_p26, List.forall_mem_cons.mpr ⟨lw_p27, List.forall_mem_cons.mpr ⟨lw_p28, List.forall_mem_cons.mpr ⟨lw_p29, List.forall_mem_cons.mpr ⟨lw_p30, List.forall_mem_cons.mpr ⟨lw_p31, fun _ h => absurd h List.not_mem_nil⟩⟩⟩⟩⟩⟩⟩⟩⟩⟩⟩⟩⟩⟩⟩⟩
theorem lw_p32 : lw_okq (⟨"PagesForAll$Reading", "isAstray", "(II)Z"⟩, 5) := ⟨⟨by decide +kernel, by decide +kernel⟩, List.mem_of_getElem? (i := 114) (by decide +kernel), List.mem_of_getElem? (i := 441) (by decide +kernel), List.mem_of_getElem? (i := 442) (by decide +kernel)⟩
theorem lw_p33 : lw_okq (⟨"PagesForAll$Reading", "hasArea", "(I)Z"⟩, 5) := ⟨⟨by decide +kernel, by decide +kernel⟩, List.mem_of_getElem? (i := 114) (by decide +kernel), List.mem_of_getElem? (i := 445) (by decide +kernel), List.mem_of_getElem? (i := 446) (by decide +kernel)⟩
theorem lw_p34 : lw_okq (⟨"PagesForAll$Reading", "isAbove", "(II)Z"⟩, 5) := ⟨⟨by decide +kernel, by decide +kernel⟩, List.mem_of_getElem? (i := 114) (by decide +kernel), List.mem_of_getElem? (i := 449) (by decide +kernel), List.mem_of_getElem? (i := 450) (by decide +kernel)⟩
theorem lw_p35 : lw_okq (⟨"PagesForAll$Reading", "isLeftOf", "(II)Z"⟩, 5) := ⟨⟨by decide +kernel, by decide +kernel⟩, List.mem_of_getElem? (i := 114) (by decide +kernel), List.mem_of_getElem? (i := 453) (by decide +kernel), List.mem_of_getElem? (i := 454) (by decide +kernel)⟩
theorem lw_p36 : lw_okq (⟨"PagesForAll$Stops", "at", "(II)I"⟩, 3) := ⟨⟨by decide +kernel, by decide +kernel⟩, List.mem_of_getElem? (i := 139) (by decide +kernel), List.mem_of_getElem? (i := 461) (by decide +kernel), List.mem_of_getElem? (i := 462) (by decide +kernel)⟩
theorem lw_p37 : lw_okq (⟨"PagesForAll", "enter", "()V"⟩, 8) := ⟨⟨by decide +kernel, by decide +kernel⟩, List.mem_of_getElem? (i := 13) (by decide +kernel), List.mem_of_getElem? (i := 470) (by decide +kernel), List.mem_of_getElem? (i := 471) (by decide +kernel)⟩
theorem lw_p38 : lw_okq (⟨"PagesForAll$Parts", "openedByButton", "(I)I"⟩, 6) := ⟨⟨by decide +kernel, by decide +kernel⟩, List.mem_of_getElem? (i := 21) (by decide +kernel), List.mem_of_getElem? (i := 474) (by decide +kernel), List.mem_of_getElem? (i := 475) (by decide +kernel)⟩
theorem lw_p39 : lw_okq (⟨"PagesForAll$Stops", "turn", "(III)I"⟩, 3) := ⟨⟨by decide +kernel, by decide +kernel⟩, List.mem_of_getElem? (i := 139) (by decide +kernel), List.mem_of_getElem? (i := 478) (by decide +kernel), List.mem_of_getElem? (i := 479) (by decide +kernel)⟩
theorem lw_p40 : lw_okq (⟨"PagesForAll$Parts", "trapAround", "(II)I"⟩, 6) := ⟨⟨by decide +kernel, by decide +kernel⟩, List.mem_of_getElem? (i := 21) (by decide +kernel), List.mem_of_getElem? (i := 482) (by decide +kernel), List.mem_of_getElem? (i := 483) (by decide +kernel)⟩
theorem lw_p41 : lw_okq (⟨"PagesForAll$Stops", "spotOf", "(I)I"⟩, 3) := ⟨⟨by decide +kernel, by decide +kernel⟩, List.mem_of_getElem? (i := 139) (by decide +kernel), List.mem_of_getElem? (i := 486) (by decide +kernel), List.mem_of_getElem? (i := 487) (by decide +kernel)⟩
theorem lw_p42 : lw_okq (⟨"PagesForAll$Stops", "spotBehind", "(I)I"⟩, 3) := ⟨⟨by decide +kernel, by decide +kernel⟩, List.mem_of_getElem? (i := 139) (by decide +kernel), List.mem_of_getElem? (i := 490) (by decide +kernel), List.mem_of_getElem? (i := 491) (by decide +kernel)⟩
theorem lw_p43 : lw_okq (⟨"PagesForAll$Stops", "spotAhead", "(I)I"⟩, 3) := ⟨⟨by decide +kernel, by decide +kernel⟩, List.mem_of_getElem? (i := 139) (by decide +kernel), List.mem_of_getElem? (i := 494) (by decide +kernel), List.mem_of_getElem? (i := 495) (by decide +kernel)⟩
theorem lw_p44 : lw_okq (⟨"PagesForAll$Walks", "lengthTo", "(II)I"⟩, 11) := ⟨⟨by decide +kernel, by decide +kernel⟩, List.mem_of_getElem? (i := 155) (by decide +kernel), List.mem_of_getElem? (i := 515) (by decide +kernel), List.mem_of_getElem? (i := 516) (by decide +kernel)⟩
theorem lw_p45 : lw_okq (⟨"PagesForAll$Walks", "find", "(II)I"⟩, 11) := ⟨⟨by decide +kernel, by decide +kernel⟩, List.mem_of_getElem? (i := 155) (by decide +kernel), List.mem_of_getElem? (i := 519) (by decide +kernel), List.mem_of_getElem? (i := 520) (by decide +kernel)⟩
theorem lw_p46 : lw_okq (⟨"PagesForAll$Walks", "takeDoors", "()V"⟩, 11) := ⟨⟨by decide +kernel, by decide +kernel⟩, List.mem_of_getElem? (i := 155) (by decide +kernel), List.mem_of_getElem? (i := 523) (by decide +kernel), List.mem_of_getElem? (i := 524) (by decide +kernel)⟩
theorem lw_p47 : lw_okq (⟨"PagesForAll$Walks", "doorsShutNow", "()I"⟩, 11) := ⟨⟨by decide +kernel, by decide +kernel⟩, List.mem_of_getElem? (i := 155) (by decide +kernel), List.mem_of_getElem? (i := 530) (by decide +kernel), List.mem_of_getElem? (i := 531) (by decide +kernel)⟩
def lw_privs_3 : List (MethodName × Nat) := [(⟨"PagesForAll$Reading", "isAstray", "(II)Z"⟩, 5), (⟨"PagesForAll$Reading", "hasArea", "(I)Z"⟩, 5), (⟨"PagesForAll$Reading", "isAbove", "(II)Z"⟩, 5), (⟨"PagesForAll$Reading", "isLeftOf", "(II)Z"⟩, 5), (⟨"PagesForAll$Stops", "at", "(II)I"⟩, 3), (⟨"PagesForAll", "enter", "()V"⟩, 8), (⟨"PagesForAll$Parts", "openedByButton", "(I)I"⟩, 6), (⟨"PagesForAll$Stops", "turn", "(III)I"⟩, 3), (⟨"PagesForAll$Parts", "trapAround", "(II)I"⟩, 6), (⟨"PagesForAll$Stops", "spotOf", "(I)I"⟩, 3), (⟨"PagesForAll$Stops", "spotBehind", "(I)I"⟩, 3), (⟨"PagesForAll$Stops", "spotAhead", "(I)I"⟩, 3), (⟨"PagesForAll$Walks", "lengthTo", "(II)I"⟩, 11), (⟨"PagesForAll$Walks", "find", "(II)I"⟩, 11), (⟨"PagesForAll$Walks", "takeDoors", "()V"⟩, 11), (⟨"PagesForAll$Walks", "doorsShutNow", "()I"⟩, 11)]
theorem lw_r3 : ∀ q ∈ lw_privs_3, lw_okq q := List.forall_mem_cons.mpr ⟨lw_p32, List.forall_mem_cons.mpr ⟨lw_p33, List.forall_mem_cons.mpr ⟨lw_p34, List.forall_mem_cons.mpr ⟨lw_p35, List.forall_mem_cons.mpr ⟨lw_p36, List.forall_mem_cons.mpr ⟨lw_p37, List.forall_mem_cons.mpr ⟨lw_p38, List.forall_mem_cons.mpr ⟨lw_p39, List.forall_mem_cons.mpr ⟨lw_p40, List.forall_mem_cons.mpr ⟨lw_p41, List.forall_mem_cons.mpr ⟨lw_p42, List.forall_mem_cons.mpr ⟨lw_p43, List.forall_mem_cons.mpr ⟨lw_p44, List.forall_mem_cons.mpr ⟨lw_p45, List.forall_mem_cons.mpr ⟨lw_p46, List.forall_mem_cons.mpr ⟨lw_p47, fun _ h => absurd h List.not_mem_nil⟩⟩⟩⟩⟩⟩⟩⟩⟩⟩⟩⟩⟩⟩⟩⟩
theorem lw_p48 : lw_okq (⟨"PagesForAll$Walks", "come", "(IIII)V"⟩, 11) := ⟨⟨by decide +kernel, by decide +kernel⟩, List.mem_of_getElem? (i := 155) (by decide +kernel), List.mem_of_getElem? (i := 535) (by decide +kernel), List.mem_of_getElem? (i := 536) (by decide +kernel)⟩
theorem lw_p49 : lw_okq (⟨"PagesForAll$Walks", "pressAllKeys", "(I)V"⟩, 11) := ⟨⟨by decide +kernel, by decide +kernel⟩, List.mem_of_getElem? (i := 155) (by decide +kernel), List.mem_of_getElem? (i := 542) (by decide +kernel), List.mem_of_getElem? (i := 543) (by decide +kernel)⟩
theorem lw_p50 : lw_okq (⟨"PagesForAll$Walks", "shownIf", "(I)I"⟩, 11) := ⟨⟨by decide +kernel, by decide +kernel⟩, List.mem_of_getElem? (i := 155) (by decide +kernel), List.mem_of_getElem? (i := 546) (by decide +kernel), List.mem_of_getElem? (i := 547) (by decide +kernel)⟩
theorem lw_p51 : lw_okq (⟨"PagesForAll$Walks", "comeFrom", "(IIII)V"⟩, 11) := ⟨⟨by decide +kernel, by decide +kernel⟩, List.mem_of_getElem? (i := 155) (by decide +kernel), List.mem_of_getElem? (i := 552) (by decide +kernel), List.mem_of_getElem? (i := 553) (by decide +kernel)⟩
theorem lw_p52 : lw_okq (⟨"PagesForAll$Walks", "doorOf", "(I)I"⟩, 11) := ⟨⟨by decide +kernel, by decide +kernel⟩, List.mem_of_getElem? (i := 155) (by decide +kernel), List.mem_of_getElem? (i := 556) (by decide +kernel), List.mem_of_getElem? (i := 557) (by decide +kernel)⟩
theorem lw_p53 : lw_okq (⟨"PagesForAll$Walks", "firstKeyTo", "(II)I"⟩, 11) := ⟨⟨by decide +kernel, by decide +kernel⟩, List.mem_of_getElem? (i := 155) (by decide +kernel), List.mem_of_getElem? (i := 565) (by decide +kernel), List.mem_of_getElem? (i := 566) (by decide +kernel)⟩
theorem lw_p54 : lw_okq (⟨"PagesForAll$Walks", "leadOutOf", "(II)Z"⟩, 11) := ⟨⟨by decide +kernel, by decide +kernel⟩, List.mem_of_getElem? (i := 155) (by decide +kernel), List.mem_of_getElem? (i := 573) (by decide +kernel), List.mem_of_getElem? (i := 574) (by decide +kernel)⟩
theorem lw_p55 : lw_okq (⟨"PagesForAll$Spoken", "takeFirst", "()I"⟩, 2) := ⟨⟨by decide +kernel, by decide +kernel⟩, List.mem_of_getElem? (i := 221) (by decide +kernel), List.mem_of_getElem? (i := 581) (by decide +kernel), List.mem_of_getElem? (i := 582) (by decide +kernel)⟩
theorem lw_p56 : lw_okq (⟨"PagesForAll$Faults", "gather", "()V"⟩, 6) := ⟨⟨by decide +kernel, by decide +kernel⟩, List.mem_of_getElem? (i := 195) (by decide +kernel), List.mem_of_getElem? (i := 589) (by decide +kernel), List.mem_of_getElem? (i := 590) (by decide +kernel)⟩
theorem lw_p57 : lw_okq (⟨"PagesForAll$Faults", "hasFault", "(III)Z"⟩, 6) := ⟨⟨by decide +kernel, by decide +kernel⟩, List.mem_of_getElem? (i := 195) (by decide +kernel), List.mem_of_getElem? (i := 598) (by decide +kernel), List.mem_of_getElem? (i := 599) (by decide +kernel)⟩
theorem lw_p58 : lw_okq (⟨"PagesForAll$Faults", "isNameless", "(I)Z"⟩, 6) := ⟨⟨by decide +kernel, by decide +kernel⟩, List.mem_of_getElem? (i := 195) (by decide +kernel), List.mem_of_getElem? (i := 602) (by decide +kernel), List.mem_of_getElem? (i := 603) (by decide +kernel)⟩
theorem lw_p59 : lw_okq (⟨"PagesForAll$Faults", "isTwin", "(II)Z"⟩, 6) := ⟨⟨by decide +kernel, by decide +kernel⟩, List.mem_of_getElem? (i := 195) (by decide +kernel), List.mem_of_getElem? (i := 608) (by decide +kernel), List.mem_of_getElem? (i := 609) (by decide +kernel)⟩
theorem lw_p60 : lw_okq (⟨"PagesForAll$Parts", "stopsAmong", "(I)I"⟩, 6) := ⟨⟨by decide +kernel, by decide +kernel⟩, List.mem_of_getElem? (i := 21) (by decide +kernel), List.mem_of_getElem? (i := 612) (by decide +kernel), List.mem_of_getElem? (i := 613) (by decide +kernel)⟩
theorem lw_p61 : lw_okq (⟨"PagesForAll$Names", "areAlike", "(II)Z"⟩, 3) := ⟨⟨by decide +kernel, by decide +kernel⟩, List.mem_of_getElem? (i := 98) (by decide +kernel), List.mem_of_getElem? (i := 616) (by decide +kernel), List.mem_of_getElem? (i := 617) (by decide +kernel)⟩
theorem lw_p62 : lw_okq (⟨"PagesForAll$Faults", "isPale", "(I)Z"⟩, 6) := ⟨⟨by decide +kernel, by decide +kernel⟩, List.mem_of_getElem? (i := 195) (by decide +kernel), List.mem_of_getElem? (i := 621) (by decide +kernel), List.mem_of_getElem? (i := 622) (by decide +kernel)⟩
theorem lw_p63 : lw_okq (⟨"PagesForAll$Faults", "isClosed", "(II)Z"⟩, 6) := ⟨⟨by decide +kernel, by decide +kernel⟩, List.mem_of_getElem? (i := 195) (by decide +kernel), List.mem_of_getElem? (i := 626) (by decide +kernel), List.mem_of_getElem? (i := 627) (by decide +kernel)⟩
def lw_privs_4 : List (MethodName × Nat) := [(⟨"PagesForAll$Walks", "come", "(IIII)V"⟩, 11), (⟨"PagesForAll$Walks", "pressAllKeys", "(I)V"⟩, 11), (⟨"PagesForAll$Walks", "shownIf", "(I)I"⟩, 11), (⟨"PagesForAll$Walks", "comeFrom", "(IIII)V"⟩, 11), (⟨"PagesForAll$Walks", "doorOf", "(I)I"⟩, 11), (⟨"PagesForAll$Walks", "firstKeyTo", "(II)I"⟩, 11), (⟨"PagesForAll$Walks", "leadOutOf", "(II)Z"⟩, 11), (⟨"PagesForAll$Spoken", "takeFirst", "()I"⟩, 2), (⟨"PagesForAll$Faults", "gather", "()V"⟩, 6), (⟨"PagesForAll$Faults", "hasFault", "(III)Z"⟩, 6), (⟨"PagesForAll$Faults", "isNameless", "(I)Z"⟩, 6), (⟨"PagesForAll$Faults", "isTwin", "(II)Z"⟩, 6), (⟨"PagesForAll$Parts", "stopsAmong", "(I)I"⟩, 6), (⟨"PagesForAll$Names", "areAlike", "(II)Z"⟩, 3), (⟨"PagesForAll$Faults", "isPale", "(I)Z"⟩, 6), (⟨"PagesForAll$Faults", "isClosed", "(II)Z"⟩, 6)]
theorem lw_r4 : ∀ q ∈ lw_privs_4, lw_okq q := List.forall_mem_cons.mpr ⟨lw_p48, List.forall_mem_cons.mpr ⟨lw_p49, List.forall_mem_cons.mpr ⟨lw_p50, List.forall_mem_cons.mpr ⟨lw_p51, List.forall_mem_cons.mpr ⟨lw_p52, List.forall_mem_cons.mpr ⟨lw_p53, List.forall_mem_cons.mpr ⟨lw_p54, List.forall_mem_cons.mpr ⟨lw_p55, List.forall_mem_cons.mpr ⟨lw_p56, List.forall_mem_cons.mpr ⟨lw_p57, List.forall_mem_cons.mpr ⟨lw_p58, List.forall_mem_cons.mpr ⟨lw_p59, List.forall_mem_cons.mpr ⟨lw_p60, List.forall_mem_cons.mpr ⟨lw_p61, List.forall_mem_cons.mpr ⟨lw_p62, List.forall_mem_cons.mpr ⟨lw_p63, fun _ h => absurd h List.not_mem_nil⟩⟩⟩⟩⟩⟩⟩⟩⟩⟩⟩⟩⟩⟩⟩⟩
theorem lw_p64 : lw_okq (⟨"PagesForAll$Faults", "isShort", "(I)Z"⟩, 6) := ⟨⟨by decide +kernel, by decide +kernel⟩, List.mem_of_getElem? (i := 195) (by decide +kernel), List.mem_of_getElem? (i := 631) (by decide +kernel), List.mem_of_getElem? (i := 632) (by decide +kernel)⟩
theorem lw_p65 : lw_okq (⟨"PagesForAll$Faults", "partAt", "(I)I"⟩, 6) := ⟨⟨by decide +kernel, by decide +kernel⟩, List.mem_of_getElem? (i := 195) (by decide +kernel), List.mem_of_getElem? (i := 639) (by decide +kernel), List.mem_of_getElem? (i := 640) (by decide +kernel)⟩
theorem lw_p66 : lw_okq (⟨"PagesForAll$Faults", "sortAt", "(I)I"⟩, 6) := ⟨⟨by decide +kernel, by decide +kernel⟩, List.mem_of_getElem? (i := 195) (by decide +kernel), List.mem_of_getElem? (i := 643) (by decide +kernel), List.mem_of_getElem? (i := 644) (by decide +kernel)⟩
theorem lw_p67 : lw_okq (⟨"PagesForAll$Faults", "mendAt", "(II)V"⟩, 6) := ⟨⟨by decide +kernel, by decide +kernel⟩, List.mem_of_getElem? (i := 195) (by decide +kernel), List.mem_of_getElem? (i := 651) (by decide +kernel), List.mem_of_getElem? (i := 652) (by decide +kernel)⟩
theorem lw_p68 : lw_okq (⟨"PagesForAllModel", "begin", "(III)V"⟩, 21) := ⟨⟨by decide +kernel, by decide +kernel⟩, List.mem_of_getElem? (i := 670) (by decide +kernel), List.mem_of_getElem? (i := 676) (by decide +kernel), List.mem_of_getElem? (i := 677) (by decide +kernel)⟩
theorem lw_p69 : lw_okq (⟨"PagesForAllModel", "put", "(III)V"⟩, 21) := ⟨⟨by decide +kernel, by decide +kernel⟩, List.mem_of_getElem? (i := 670) (by decide +kernel), List.mem_of_getElem? (i := 680) (by decide +kernel), List.mem_of_getElem? (i := 681) (by decide +kernel)⟩
theorem lw_p70 : lw_okq (⟨"PagesForAllModel", "isPart", "(I)Z"⟩, 21) := ⟨⟨by decide +kernel, by decide +kernel⟩, List.mem_of_getElem? (i := 670) (by decide +kernel), List.mem_of_getElem? (i := 753) (by decide +kernel), List.mem_of_getElem? (i := 754) (by decide +kernel)⟩
theorem lw_p71 : lw_okq (⟨"PagesForAllModel", "isFor", "(II)Z"⟩, 21) := ⟨⟨by decide +kernel, by decide +kernel⟩, List.mem_of_getElem? (i := 670) (by decide +kernel), List.mem_of_getElem? (i := 766) (by decide +kernel), List.mem_of_getElem? (i := 767) (by decide +kernel)⟩
theorem lw_p72 : lw_okq (⟨"PagesForAllModel", "isOpenedBy", "(II)Z"⟩, 21) := ⟨⟨by decide +kernel, by decide +kernel⟩, List.mem_of_getElem? (i := 670) (by decide +kernel), List.mem_of_getElem? (i := 772) (by decide +kernel), List.mem_of_getElem? (i := 773) (by decide +kernel)⟩
theorem lw_p73 : lw_okq (⟨"PagesForAllModel", "get", "(II)I"⟩, 21) := ⟨⟨by decide +kernel, by decide +kernel⟩, List.mem_of_getElem? (i := 670) (by decide +kernel), List.mem_of_getElem? (i := 776) (by decide +kernel), List.mem_of_getElem? (i := 777) (by decide +kernel)⟩
theorem lw_p74 : lw_okq (⟨"PagesForAllModel", "speak", "(I)V"⟩, 21) := ⟨⟨by decide +kernel, by decide +kernel⟩, List.mem_of_getElem? (i := 670) (by decide +kernel), List.mem_of_getElem? (i := 780) (by decide +kernel), List.mem_of_getElem? (i := 781) (by decide +kernel)⟩
theorem lw_p75 : lw_okq (⟨"PagesForAllModel", "innermost", "(II)I"⟩, 21) := ⟨⟨by decide +kernel, by decide +kernel⟩, List.mem_of_getElem? (i := 670) (by decide +kernel), List.mem_of_getElem? (i := 784) (by decide +kernel), List.mem_of_getElem? (i := 785) (by decide +kernel)⟩
theorem lw_p76 : lw_okq (⟨"PagesForAllModel", "isShown", "(I)Z"⟩, 21) := ⟨⟨by decide +kernel, by decide +kernel⟩, List.mem_of_getElem? (i := 670) (by decide +kernel), List.mem_of_getElem? (i := 788) (by decide +kernel), List.mem_of_getElem? (i := 789) (by decide +kernel)⟩
theorem lw_p77 : lw_okq (⟨"PagesForAllModel", "lookAtFocus", "()V"⟩, 21) := ⟨⟨by decide +kernel, by decide +kernel⟩, List.mem_of_getElem? (i := 670) (by decide +kernel), List.mem_of_getElem? (i := 792) (by decide +kernel), List.mem_of_getElem? (i := 793) (by decide +kernel)⟩
theorem lw_p78 : lw_okq (⟨"PagesForAllModel", "findName", "(I)V"⟩, 21) := ⟨⟨by decide +kernel, by decide +kernel⟩, List.mem_of_getElem? (i := 670) (by decide +kernel), List.mem_of_getElem? (i := 829) (by decide +kernel), List.mem_of_getElem? (i := 830) (by decide +kernel)⟩
theorem lw_p79 : lw_okq (⟨"PagesForAllModel", "addWord", "(II)V"⟩, 21) := ⟨⟨by decide +kernel, by decide +kernel⟩, List.mem_of_getElem? (i := 670) (by decide +kernel), List.mem_of_getElem? (i := 833) (by decide +kernel), List.mem_of_getElem? (i := 834) (by decide +kernel)⟩
def lw_privs_5 : List (MethodName × Nat) := [(⟨"PagesForAll$Faults", "isShort", "(I)Z"⟩, 6), (⟨"PagesForAll$Faults", "partAt", "(I)I"⟩, 6), (⟨"PagesForAll$Faults", "sortAt", "(I)I"⟩, 6), (⟨"PagesForAll$Faults", "mendAt", "(II)V"⟩, 6), (⟨"PagesForAllModel", "begin", "(III)V"⟩, 21), (⟨"PagesForAllModel", "put", "(III)V"⟩, 21), (⟨"PagesForAllModel", "isPart", "(I)Z"⟩, 21), (⟨"PagesForAllModel", "isFor", "(II)Z"⟩, 21), (⟨"PagesForAllModel", "isOpenedBy", "(II)Z"⟩, 21), (⟨"PagesForAllModel", "get", "(II)I"⟩, 21), (⟨"PagesForAllModel", "speak", "(I)V"⟩, 21), (⟨"PagesForAllModel", "innermost", "(II)I"⟩, 21), (⟨"PagesForAllModel", "isShown", "(I)Z"⟩, 21), (⟨"PagesForAllModel", "lookAtFocus", "()V"⟩, 21), (⟨"PagesForAllModel", "findName", "(I)V"⟩, 21), (⟨"PagesForAllModel", "addWord", "(II)V"⟩, 21)]
theorem lw_r5 : ∀ q ∈ lw_privs_5, lw_okq q := List.forall_mem_cons.mpr ⟨lw_p64, List.forall_mem_cons.mpr ⟨lw_p65, List.forall_mem_cons.mpr ⟨lw_p66, List.forall_mem_cons.mpr ⟨lw_p67, List.forall_mem_cons.mpr ⟨lw_p68, List.forall_mem_cons.mpr ⟨lw_p69, List.forall_mem_cons.mpr ⟨lw_p70, List.forall_mem_cons.mpr ⟨lw_p71, List.forall_mem_cons.mpr ⟨lw_p72, List.forall_mem_cons.mpr ⟨lw_p73, List.forall_mem_cons.mpr ⟨lw_p74, List.forall_mem_cons.mpr ⟨lw_p75, List.forall_mem_cons.mpr ⟨lw_p76, List.forall_mem_cons.mpr ⟨lw_p77, List.forall_mem_cons.mpr ⟨lw_p78, List.forall_mem_cons.mpr ⟨lw_p79, fun _ h => absurd h List.not_mem_nil⟩⟩⟩⟩⟩⟩⟩⟩⟩⟩⟩⟩⟩⟩⟩⟩
theorem lw_p80 : lw_okq (⟨"PagesForAllModel", "line", "()V"⟩, 21) := ⟨⟨by decide +kernel, by decide +kernel⟩, List.mem_of_getElem? (i := 670) (by decide +kernel), List.mem_of_getElem? (i := 837) (by decide +kernel), List.mem_of_getElem? (i := 838) (by decide +kernel)⟩
theorem lw_p81 : lw_okq (⟨"PagesForAllModel", "lies", "(II)Z"⟩, 21) := ⟨⟨by decide +kernel, by decide +kernel⟩, List.mem_of_getElem? (i := 670) (by decide +kernel), List.mem_of_getElem? (i := 841) (by decide +kernel), List.mem_of_getElem? (i := 842) (by decide +kernel)⟩
theorem lw_p82 : lw_okq (⟨"PagesForAllModel", "findSaid", "()V"⟩, 21) := ⟨⟨by decide +kernel, by decide +kernel⟩, List.mem_of_getElem? (i := 670) (by decide +kernel), List.mem_of_getElem? (i := 853) (by decide +kernel), List.mem_of_getElem? (i := 854) (by decide +kernel)⟩
theorem lw_p83 : lw_okq (⟨"PagesForAllModel", "isAstray", "(II)Z"⟩, 21) := ⟨⟨by decide +kernel, by decide +kernel⟩, List.mem_of_getElem? (i := 670) (by decide +kernel), List.mem_of_getElem? (i := 861) (by decide +kernel), List.mem_of_getElem? (i := 862) (by decide +kernel)⟩
theorem lw_p84 : lw_okq (⟨"PagesForAllModel", "hasBox", "(I)Z"⟩, 21) := ⟨⟨by decide +kernel, by decide +kernel⟩, List.mem_of_getElem? (i := 670) (by decide +kernel), List.mem_of_getElem? (i := 865) (by decide +kernel), List.mem_of_getElem? (i := 866) (by decide +kernel)⟩
theorem lw_p85 : lw_okq (⟨"PagesForAllModel", "isAbove", "(II)Z"⟩, 21) := ⟨⟨by decide +kernel, by decide +kernel⟩, List.mem_of_getElem? (i := 670) (by decide +kernel), List.mem_of_getElem? (i := 869) (by decide +kernel), List.mem_of_getElem? (i := 870) (by decide +kernel)⟩
theorem lw_p86 : lw_okq (⟨"PagesForAllModel", "findStops", "(I)V"⟩, 21) := ⟨⟨by decide +kernel, by decide +kernel⟩, List.mem_of_getElem? (i := 670) (by decide +kernel), List.mem_of_getElem? (i := 877) (by decide +kernel), List.mem_of_getElem? (i := 878) (by decide +kernel)⟩
theorem lw_p87 : lw_okq (⟨"PagesForAllModel", "isStop", "(I)Z"⟩, 21) := ⟨⟨by decide +kernel, by decide +kernel⟩, List.mem_of_getElem? (i := 670) (by decide +kernel), List.mem_of_getElem? (i := 881) (by decide +kernel), List.mem_of_getElem? (i := 882) (by decide +kernel)⟩
theorem lw_p88 : lw_okq (⟨"PagesForAllModel", "pressed", "(IZ)V"⟩, 21) := ⟨⟨by decide +kernel, by decide +kernel⟩, List.mem_of_getElem? (i := 670) (by decide +kernel), List.mem_of_getElem? (i := 890) (by decide +kernel), List.mem_of_getElem? (i := 891) (by decide +kernel)⟩
theorem lw_p89 : lw_okq (⟨"PagesForAllModel", "trapOf", "(I)I"⟩, 21) := ⟨⟨by decide +kernel, by decide +kernel⟩, List.mem_of_getElem? (i := 670) (by decide +kernel), List.mem_of_getElem? (i := 894) (by decide +kernel), List.mem_of_getElem? (i := 895) (by decide +kernel)⟩
theorem lw_p90 : lw_okq (⟨"PagesForAllModel", "spread", "()V"⟩, 21) := ⟨⟨by decide +kernel, by decide +kernel⟩, List.mem_of_getElem? (i := 670) (by decide +kernel), List.mem_of_getElem? (i := 914) (by decide +kernel), List.mem_of_getElem? (i := 915) (by decide +kernel)⟩
theorem lw_p91 : lw_okq (⟨"PagesForAllModel", "findDoors", "()V"⟩, 21) := ⟨⟨by decide +kernel, by decide +kernel⟩, List.mem_of_getElem? (i := 670) (by decide +kernel), List.mem_of_getElem? (i := 918) (by decide +kernel), List.mem_of_getElem? (i := 919) (by decide +kernel)⟩
theorem lw_p92 : lw_okq (⟨"PagesForAllModel", "state", "()I"⟩, 21) := ⟨⟨by decide +kernel, by decide +kernel⟩, List.mem_of_getElem? (i := 670) (by decide +kernel), List.mem_of_getElem? (i := 922) (by decide +kernel), List.mem_of_getElem? (i := 923) (by decide +kernel)⟩
theorem lw_p93 : lw_okq (⟨"PagesForAllModel", "come", "(I)V"⟩, 21) := ⟨⟨by decide +kernel, by decide +kernel⟩, List.mem_of_getElem? (i := 670) (by decide +kernel), List.mem_of_getElem? (i := 926) (by decide +kernel), List.mem_of_getElem? (i := 927) (by decide +kernel)⟩
theorem lw_p94 : lw_okq (⟨"PagesForAllModel", "leastTo", "(I)I"⟩, 21) := ⟨⟨by decide +kernel, by decide +kernel⟩, List.mem_of_getElem? (i := 670) (by decide +kernel), List.mem_of_getElem? (i := 930) (by decide +kernel), List.mem_of_getElem? (i := 931) (by decide +kernel)⟩
theorem lw_p95 : lw_okq (⟨"PagesForAllModel", "findWrongs", "()V"⟩, 21) := ⟨⟨by decide +kernel, by decide +kernel⟩, List.mem_of_getElem? (i := 670) (by decide +kernel), List.mem_of_getElem? (i := 950) (by decide +kernel), List.mem_of_getElem? (i := 951) (by decide +kernel)⟩
def lw_privs_6 : List (MethodName × Nat) := [(⟨"PagesForAllModel", "line", "()V"⟩, 21), (⟨"PagesForAllModel", "lies", "(II)Z"⟩, 21), (⟨"PagesForAllModel", "findSaid", "()V"⟩, 21), (⟨"PagesForAllModel", "isAstray", "(II)Z"⟩, 21), (⟨"PagesForAllModel", "hasBox", "(I)Z"⟩, 21), (⟨"PagesForAllModel", "isAbove", "(II)Z"⟩, 21), (⟨"PagesForAllModel", "findStops", "(I)V"⟩, 21), (⟨"PagesForAllModel", "isStop", "(I)Z"⟩, 21), (⟨"PagesForAllModel", "pressed", "(IZ)V"⟩, 21), (⟨"PagesForAllModel", "trapOf", "(I)I"⟩, 21), (⟨"PagesForAllModel", "spread", "()V"⟩, 21), (⟨"PagesForAllModel", "findDoors", "()V"⟩, 21), (⟨"PagesForAllModel", "state", "()I"⟩, 21), (⟨"PagesForAllModel", "come", "(I)V"⟩, 21), (⟨"PagesForAllModel", "leastTo", "(I)I"⟩, 21), (⟨"PagesForAllModel", "findWrongs", "()V"⟩, 21)]
theorem lw_r6 : ∀ q ∈ lw_privs_6, lw_okq q := List.forall_mem_cons.mpr ⟨lw_p80, List.forall_mem_cons.mpr ⟨lw_p81, List.forall_mem_cons.mpr ⟨lw_p82, List.forall_mem_cons.mpr ⟨lw_p83, List.forall_mem_cons.mpr ⟨lw_p84, List.forall_mem_cons.mpr ⟨lw_p85, List.forall_mem_cons.mpr ⟨lw_p86, List.forall_mem_cons.mpr ⟨lw_p87, List.forall_mem_cons.mpr ⟨lw_p88, List.forall_mem_cons.mpr ⟨lw_p89, List.forall_mem_cons.mpr ⟨lw_p90, List.forall_mem_cons.mpr ⟨lw_p91, List.forall_mem_cons.mpr ⟨lw_p92, List.forall_mem_cons.mpr ⟨lw_p93, List.forall_mem_cons.mpr ⟨lw_p94, List.forall_mem_cons.mpr ⟨lw_p95, fun _ h => absurd h List.not_mem_nil⟩⟩⟩⟩⟩⟩⟩⟩⟩⟩⟩⟩⟩⟩⟩⟩
theorem lw_p96 : lw_okq (⟨"PagesForAllModel", "isWrong", "(II)Z"⟩, 21) := ⟨⟨by decide +kernel, by decide +kernel⟩, List.mem_of_getElem? (i := 670) (by decide +kernel), List.mem_of_getElem? (i := 954) (by decide +kernel), List.mem_of_getElem? (i := 955) (by decide +kernel)⟩
theorem lw_p97 : lw_okq (⟨"PagesForAllModel", "isTwin", "(I)Z"⟩, 21) := ⟨⟨by decide +kernel, by decide +kernel⟩, List.mem_of_getElem? (i := 670) (by decide +kernel), List.mem_of_getElem? (i := 958) (by decide +kernel), List.mem_of_getElem? (i := 959) (by decide +kernel)⟩
theorem lw_p98 : lw_okq (⟨"PagesForAllModel", "isClosed", "(I)Z"⟩, 21) := ⟨⟨by decide +kernel, by decide +kernel⟩, List.mem_of_getElem? (i := 670) (by decide +kernel), List.mem_of_getElem? (i := 963) (by decide +kernel), List.mem_of_getElem? (i := 964) (by decide +kernel)⟩
theorem lw_p99 : lw_okq (⟨"PagesForAllModel", "isAhead", "(I)Z"⟩, 21) := ⟨⟨by decide +kernel, by decide +kernel⟩, List.mem_of_getElem? (i := 670) (by decide +kernel), List.mem_of_getElem? (i := 967) (by decide +kernel), List.mem_of_getElem? (i := 968) (by decide +kernel)⟩
theorem lw_p100 : lw_okq (⟨"PagesForAllModel", "opened", "()I"⟩, 21) := ⟨⟨by decide +kernel, by decide +kernel⟩, List.mem_of_getElem? (i := 670) (by decide +kernel), List.mem_of_getElem? (i := 986) (by decide +kernel), List.mem_of_getElem? (i := 987) (by decide +kernel)⟩
def lw_privs_7 : List (MethodName × Nat) := [(⟨"PagesForAllModel", "isWrong", "(II)Z"⟩, 21), (⟨"PagesForAllModel", "isTwin", "(I)Z"⟩, 21), (⟨"PagesForAllModel", "isClosed", "(I)Z"⟩, 21), (⟨"PagesForAllModel", "isAhead", "(I)Z"⟩, 21), (⟨"PagesForAllModel", "opened", "()I"⟩, 21)]
theorem lw_r7 : ∀ q ∈ lw_privs_7, lw_okq q := List.forall_mem_cons.mpr ⟨lw_p96, List.forall_mem_cons.mpr ⟨lw_p97, List.forall_mem_cons.mpr ⟨lw_p98, List.forall_mem_cons.mpr ⟨lw_p99, List.forall_mem_cons.mpr ⟨lw_p100, fun _ h => absurd h List.not_mem_nil⟩⟩⟩⟩⟩
def lw_privs : List (MethodName × Nat) := lw_privs_1 ++ (lw_privs_2 ++ (lw_privs_3 ++ (lw_privs_4 ++ (lw_privs_5 ++ (lw_privs_6 ++ (lw_privs_7))))))
def lw_tbl : List Cond := k2_sels lw_privs ++ tables_1
theorem lw_privs_ok : ∀ q ∈ lw_privs, lw_okq q := by
  show ∀ q ∈ lw_privs_1 ++ (lw_privs_2 ++ (lw_privs_3 ++ (lw_privs_4 ++ (lw_privs_5 ++ (lw_privs_6 ++ (lw_privs_7)))))), lw_okq q
  exact List.forall_mem_append.mpr ⟨lw_r1, List.forall_mem_append.mpr ⟨lw_r2, List.forall_mem_append.mpr ⟨lw_r3, List.forall_mem_append.mpr ⟨lw_r4, List.forall_mem_append.mpr ⟨lw_r5, List.forall_mem_append.mpr ⟨lw_r6, lw_r7⟩⟩⟩⟩⟩⟩
-- ===== end of PART A; then your names; then what follows =====
end
section
/-! ===== BEGIN words of one list among another's, by their places ===== -/
theorem goodIn_r {big : List Cond} (ws : List Cond) (ps : List Nat) (hp : ws = ps.filterMap (fun i => big[i]?)) (h : ws.all goodWord = true) : GoodIn big ws := by
  intro w hw
  have h1 := List.all_eq_true.mp h w hw
  rw [hp] at hw
  obtain ⟨i, -, hi⟩ := List.mem_filterMap.mp hw
  have hm : w ∈ big := by first | exact List.mem_of_getElem? hi | exact List.getElem?_mem hi
  exact ⟨hm, good_of_word h1⟩
theorem goodIn_app {big a b : List Cond} (ha : GoodIn big a) (hb : GoodIn big b) : GoodIn big (a ++ b) := fun w h => (List.mem_append.mp h).elim (ha w) (hb w)
theorem goodIn_ca {big a b : List Cond} {c : Cond} (ha : GoodIn big (c :: a)) (hb : GoodIn big b) : GoodIn big (c :: (a ++ b)) := fun w h => (List.mem_cons.mp h).elim (fun e => ha w (List.mem_cons.mpr (Or.inl e))) (fun h => (List.mem_append.mp h).elim (fun h => ha w (List.mem_cons.mpr (Or.inr h))) (hb w))
theorem goodIn_sub {big ws : List Cond} (hm : ∀ w ∈ ws, w ∈ big) (h : ws.all goodWord = true) : GoodIn big ws := fun w hw => ⟨hm w hw, good_of_word (List.all_eq_true.mp h w hw)⟩
/-! ===== END ===== -/

/-! ===== BEGIN printed: names, fields, word lists, decode rows ===== -/
def RX0 : String := "PagesForAll$Faults"
def TX0 : u_T := fun k => match k with
  | 0 => ("PagesForAll$Faults", "parts", "LPagesForAll$Parts;", true)
  | 1 => ("PagesForAll$Faults", "names", "LPagesForAll$Names;", true)
  | 2 => ("PagesForAll$Faults", "reading", "LPagesForAll$Reading;", true)
  | 3 => ("PagesForAll$Faults", "partRow", "[I", true)
  | 4 => ("PagesForAll$Faults", "sortRow", "[I", true)
  | _ => ("PagesForAll$Faults", "size", "I", false)
def tyX0 : Nat → FieldType := fun k => match k with
  | 0 => .object "PagesForAll$Parts"
  | 1 => .object "PagesForAll$Names"
  | 2 => .object "PagesForAll$Reading"
  | 3 => .array .int
  | 4 => .array .int
  | _ => .int
abbrev wsX00 : List Cond := u_ws RX0 TX0 6
theorem nmX0 : ∀ a, a < 6 → ∀ b, b < 6 → a ≠ b → (TX0 a).2.1 ≠ (TX0 b).2.1 := by decide +kernel
theorem tyX0_ok : ∀ k, k < 6 → parseFieldDescriptor (TX0 k).2.2.1 = some (tyX0 k) := by decide +kernel
abbrev cX0_init : ByteArray := prog_2_method_1_code
def yX0_init : MethodName := ⟨RX0, "<init>", "(LPagesForAll$Parts;LPagesForAll$Names;LPagesForAll$Reading;)V"⟩
abbrev cX0_gather : ByteArray := prog_2_method_2_code
def yX0_gather : MethodName := ⟨RX0, "gather", "()V"⟩
abbrev cX0_hasFault : ByteArray := prog_2_method_3_code
def yX0_hasFault : MethodName := ⟨RX0, "hasFault", "(III)Z"⟩
abbrev cX0_isNameless : ByteArray := prog_2_method_4_code
def yX0_isNameless : MethodName := ⟨RX0, "isNameless", "(I)Z"⟩
abbrev cX0_isTwin : ByteArray := prog_2_method_5_code
def yX0_isTwin : MethodName := ⟨RX0, "isTwin", "(II)Z"⟩
abbrev cX0_isPale : ByteArray := prog_2_method_6_code
def yX0_isPale : MethodName := ⟨RX0, "isPale", "(I)Z"⟩
abbrev cX0_isClosed : ByteArray := prog_2_method_7_code
def yX0_isClosed : MethodName := ⟨RX0, "isClosed", "(II)Z"⟩
abbrev cX0_isShort : ByteArray := prog_2_method_8_code
def yX0_isShort : MethodName := ⟨RX0, "isShort", "(I)Z"⟩
abbrev cX0_partAt : ByteArray := prog_2_method_9_code
def yX0_partAt : MethodName := ⟨RX0, "partAt", "(I)I"⟩
abbrev cX0_sortAt : ByteArray := prog_2_method_10_code
def yX0_sortAt : MethodName := ⟨RX0, "sortAt", "(I)I"⟩
abbrev cX0_mendAt : ByteArray := prog_2_method_11_code
def yX0_mendAt : MethodName := ⟨RX0, "mendAt", "(II)V"⟩
def RX1 : String := "PagesForAll$Names"
def TX1 : u_T := fun k => match k with
  | 0 => ("PagesForAll$Names", "parts", "LPagesForAll$Parts;", true)
  | 1 => ("PagesForAll$Names", "words", "[I", true)
  | _ => ("PagesForAll$Names", "lengths", "[I", true)
def tyX1 : Nat → FieldType := fun k => match k with
  | 0 => .object "PagesForAll$Parts"
  | 1 => .array .int
  | _ => .array .int
abbrev wsX10 : List Cond := u_ws RX1 TX1 3
theorem nmX1 : ∀ a, a < 3 → ∀ b, b < 3 → a ≠ b → (TX1 a).2.1 ≠ (TX1 b).2.1 := by decide +kernel
theorem tyX1_ok : ∀ k, k < 3 → parseFieldDescriptor (TX1 k).2.2.1 = some (tyX1 k) := by decide +kernel
abbrev cX1_init : ByteArray := prog_3_method_1_code
def yX1_init : MethodName := ⟨RX1, "<init>", "(LPagesForAll$Parts;)V"⟩
abbrev cX1_compose : ByteArray := prog_3_method_2_code
def yX1_compose : MethodName := ⟨RX1, "compose", "(II)V"⟩
abbrev cX1_addTextsIn : ByteArray := prog_3_method_3_code
def yX1_addTextsIn : MethodName := ⟨RX1, "addTextsIn", "(II)V"⟩
abbrev cX1_addOwnOf : ByteArray := prog_3_method_4_code
def yX1_addOwnOf : MethodName := ⟨RX1, "addOwnOf", "(II)V"⟩
abbrev cX1_add : ByteArray := prog_3_method_5_code
def yX1_add : MethodName := ⟨RX1, "add", "(II)V"⟩
abbrev cX1_lengthOf : ByteArray := prog_3_method_6_code
def yX1_lengthOf : MethodName := ⟨RX1, "lengthOf", "(I)I"⟩
abbrev cX1_wordOf : ByteArray := prog_3_method_7_code
def yX1_wordOf : MethodName := ⟨RX1, "wordOf", "(II)I"⟩
abbrev cX1_areAlike : ByteArray := prog_3_method_8_code
def yX1_areAlike : MethodName := ⟨RX1, "areAlike", "(II)Z"⟩
def RX2 : String := "PagesForAll$Parts"
def TX2 : u_T := fun k => match k with
  | 0 => ("PagesForAll$Parts", "held", "[I", true)
  | 1 => ("PagesForAll$Parts", "around", "[I", true)
  | 2 => ("PagesForAll$Parts", "within", "[I", true)
  | 3 => ("PagesForAll$Parts", "ofKind", "[I", true)
  | 4 => ("PagesForAll$Parts", "order", "[I", true)
  | _ => ("PagesForAll$Parts", "size", "I", false)
def tyX2 : Nat → FieldType := fun k => match k with
  | 0 => .array .int
  | 1 => .array .int
  | 2 => .array .int
  | 3 => .array .int
  | 4 => .array .int
  | _ => .int
abbrev wsX20 : List Cond := u_ws RX2 TX2 6
theorem nmX2 : ∀ a, a < 6 → ∀ b, b < 6 → a ≠ b → (TX2 a).2.1 ≠ (TX2 b).2.1 := by decide +kernel
theorem tyX2_ok : ∀ k, k < 6 → parseFieldDescriptor (TX2 k).2.2.1 = some (tyX2 k) := by decide +kernel
abbrev cX2_init : ByteArray := prog_4_method_1_code
def yX2_init : MethodName := ⟨RX2, "<init>", "()V"⟩
abbrev cX2_has : ByteArray := prog_4_method_2_code
def yX2_has : MethodName := ⟨RX2, "has", "(I)Z"⟩
abbrev cX2_isFull : ByteArray := prog_4_method_3_code
def yX2_isFull : MethodName := ⟨RX2, "isFull", "()Z"⟩
abbrev cX2_get : ByteArray := prog_4_method_4_code
def yX2_get : MethodName := ⟨RX2, "get", "(II)I"⟩
abbrev cX2_put : ByteArray := prog_4_method_5_code
def yX2_put : MethodName := ⟨RX2, "put", "(III)V"⟩
abbrev cX2_add : ByteArray := prog_4_method_6_code
def yX2_add : MethodName := ⟨RX2, "add", "(II)I"⟩
abbrev cX2_insertInOrder : ByteArray := prog_4_method_7_code
def yX2_insertInOrder : MethodName := ⟨RX2, "insertInOrder", "(II)V"⟩
abbrev cX2_spotInOrder : ByteArray := prog_4_method_8_code
def yX2_spotInOrder : MethodName := ⟨RX2, "spotInOrder", "(I)I"⟩
abbrev cX2_putFirstValues : ByteArray := prog_4_method_9_code
def yX2_putFirstValues : MethodName := ⟨RX2, "putFirstValues", "(III)V"⟩
abbrev cX2_allows : ByteArray := prog_4_method_10_code
def yX2_allows : MethodName := ⟨RX2, "allows", "(II)Z"⟩
abbrev cX2_hiddenNow : ByteArray := prog_4_method_11_code
def yX2_hiddenNow : MethodName := ⟨RX2, "hiddenNow", "()I"⟩
abbrev cX2_shownNow : ByteArray := prog_4_method_12_code
def yX2_shownNow : MethodName := ⟨RX2, "shownNow", "()I"⟩
abbrev cX2_shownUnder : ByteArray := prog_4_method_13_code
def yX2_shownUnder : MethodName := ⟨RX2, "shownUnder", "(I)I"⟩
abbrev cX2_stopsAmong : ByteArray := prog_4_method_14_code
def yX2_stopsAmong : MethodName := ⟨RX2, "stopsAmong", "(I)I"⟩
abbrev cX2_openedBesides : ByteArray := prog_4_method_15_code
def yX2_openedBesides : MethodName := ⟨RX2, "openedBesides", "(I)I"⟩
abbrev cX2_openedByButton : ByteArray := prog_4_method_16_code
def yX2_openedByButton : MethodName := ⟨RX2, "openedByButton", "(I)I"⟩
abbrev cX2_trapAround : ByteArray := prog_4_method_17_code
def yX2_trapAround : MethodName := ⟨RX2, "trapAround", "(II)I"⟩
abbrev cX2_liveAround : ByteArray := prog_4_method_18_code
def yX2_liveAround : MethodName := ⟨RX2, "liveAround", "(I)I"⟩
abbrev cX2_contrastOf : ByteArray := prog_4_method_19_code
def yX2_contrastOf : MethodName := ⟨RX2, "contrastOf", "(I)I"⟩
def RX3 : String := "PagesForAll$Reading"
def TX3 : u_T := fun k => match k with
  | 0 => ("PagesForAll$Reading", "parts", "LPagesForAll$Parts;", true)
  | 1 => ("PagesForAll$Reading", "row", "[I", true)
  | 2 => ("PagesForAll$Reading", "size", "I", false)
  | 3 => ("PagesForAll$Reading", "astray", "I", false)
  | _ => ("PagesForAll$Reading", "astrayPairs", "I", false)
def tyX3 : Nat → FieldType := fun k => match k with
  | 0 => .object "PagesForAll$Parts"
  | 1 => .array .int
  | 2 => .int
  | 3 => .int
  | _ => .int
abbrev wsX30 : List Cond := u_ws RX3 TX3 5
theorem nmX3 : ∀ a, a < 5 → ∀ b, b < 5 → a ≠ b → (TX3 a).2.1 ≠ (TX3 b).2.1 := by decide +kernel
theorem tyX3_ok : ∀ k, k < 5 → parseFieldDescriptor (TX3 k).2.2.1 = some (tyX3 k) := by decide +kernel
abbrev cX3_init : ByteArray := prog_5_method_1_code
def yX3_init : MethodName := ⟨RX3, "<init>", "(LPagesForAll$Parts;)V"⟩
abbrev cX3_gather : ByteArray := prog_5_method_2_code
def yX3_gather : MethodName := ⟨RX3, "gather", "(I)V"⟩
abbrev cX3_isToBeSaid : ByteArray := prog_5_method_3_code
def yX3_isToBeSaid : MethodName := ⟨RX3, "isToBeSaid", "(I)Z"⟩
abbrev cX3_at : ByteArray := prog_5_method_4_code
def yX3_at : MethodName := ⟨RX3, "at", "(I)I"⟩
abbrev cX3_compare : ByteArray := prog_5_method_5_code
def yX3_compare : MethodName := ⟨RX3, "compare", "()V"⟩
abbrev cX3_isAstray : ByteArray := prog_5_method_6_code
def yX3_isAstray : MethodName := ⟨RX3, "isAstray", "(II)Z"⟩
abbrev cX3_hasArea : ByteArray := prog_5_method_7_code
def yX3_hasArea : MethodName := ⟨RX3, "hasArea", "(I)Z"⟩
abbrev cX3_isAbove : ByteArray := prog_5_method_8_code
def yX3_isAbove : MethodName := ⟨RX3, "isAbove", "(II)Z"⟩
abbrev cX3_isLeftOf : ByteArray := prog_5_method_9_code
def yX3_isLeftOf : MethodName := ⟨RX3, "isLeftOf", "(II)Z"⟩
def RX4 : String := "PagesForAll$Spoken"
def TX4 : u_T := fun k => match k with
  | 0 => ("PagesForAll$Spoken", "row", "[I", true)
  | _ => ("PagesForAll$Spoken", "size", "I", false)
def tyX4 : Nat → FieldType := fun k => match k with
  | 0 => .array .int
  | _ => .int
abbrev wsX40 : List Cond := u_ws RX4 TX4 2
theorem nmX4 : ∀ a, a < 2 → ∀ b, b < 2 → a ≠ b → (TX4 a).2.1 ≠ (TX4 b).2.1 := by decide +kernel
theorem tyX4_ok : ∀ k, k < 2 → parseFieldDescriptor (TX4 k).2.2.1 = some (tyX4 k) := by decide +kernel
abbrev cX4_init : ByteArray := prog_6_method_1_code
def yX4_init : MethodName := ⟨RX4, "<init>", "()V"⟩
abbrev cX4_add : ByteArray := prog_6_method_2_code
def yX4_add : MethodName := ⟨RX4, "add", "(I)V"⟩
abbrev cX4_takeFirst : ByteArray := prog_6_method_3_code
def yX4_takeFirst : MethodName := ⟨RX4, "takeFirst", "()I"⟩
def RX5 : String := "PagesForAll$Stops"
def TX5 : u_T := fun k => match k with
  | 0 => ("PagesForAll$Stops", "parts", "LPagesForAll$Parts;", true)
  | 1 => ("PagesForAll$Stops", "row", "[I", true)
  | _ => ("PagesForAll$Stops", "size", "I", false)
def tyX5 : Nat → FieldType := fun k => match k with
  | 0 => .object "PagesForAll$Parts"
  | 1 => .array .int
  | _ => .int
abbrev wsX50 : List Cond := u_ws RX5 TX5 3
theorem nmX5 : ∀ a, a < 3 → ∀ b, b < 3 → a ≠ b → (TX5 a).2.1 ≠ (TX5 b).2.1 := by decide +kernel
theorem tyX5_ok : ∀ k, k < 3 → parseFieldDescriptor (TX5 k).2.2.1 = some (tyX5 k) := by decide +kernel
abbrev cX5_init : ByteArray := prog_7_method_1_code
def yX5_init : MethodName := ⟨RX5, "<init>", "(LPagesForAll$Parts;)V"⟩
abbrev cX5_arrange : ByteArray := prog_7_method_2_code
def yX5_arrange : MethodName := ⟨RX5, "arrange", "()V"⟩
abbrev cX5_insert : ByteArray := prog_7_method_3_code
def yX5_insert : MethodName := ⟨RX5, "insert", "(I)V"⟩
abbrev cX5_rank : ByteArray := prog_7_method_4_code
def yX5_rank : MethodName := ⟨RX5, "rank", "(I)I"⟩
abbrev cX5_at : ByteArray := prog_7_method_5_code
def yX5_at : MethodName := ⟨RX5, "at", "(II)I"⟩
abbrev cX5_turn : ByteArray := prog_7_method_6_code
def yX5_turn : MethodName := ⟨RX5, "turn", "(III)I"⟩
abbrev cX5_spotBehind : ByteArray := prog_7_method_7_code
def yX5_spotBehind : MethodName := ⟨RX5, "spotBehind", "(I)I"⟩
abbrev cX5_spotAhead : ByteArray := prog_7_method_8_code
def yX5_spotAhead : MethodName := ⟨RX5, "spotAhead", "(I)I"⟩
abbrev cX5_spotOf : ByteArray := prog_7_method_9_code
def yX5_spotOf : MethodName := ⟨RX5, "spotOf", "(I)I"⟩
def RX6 : String := "PagesForAll$Walks"
def TX6 : u_T := fun k => match k with
  | 0 => ("PagesForAll$Walks", "parts", "LPagesForAll$Parts;", true)
  | 1 => ("PagesForAll$Walks", "stops", "LPagesForAll$Stops;", true)
  | 2 => ("PagesForAll$Walks", "doors", "[I", true)
  | 3 => ("PagesForAll$Walks", "doorCount", "I", false)
  | 4 => ("PagesForAll$Walks", "hiddenForGood", "I", false)
  | 5 => ("PagesForAll$Walks", "states", "[I", true)
  | 6 => ("PagesForAll$Walks", "lengths", "[I", true)
  | 7 => ("PagesForAll$Walks", "firstKeys", "[I", true)
  | 8 => ("PagesForAll$Walks", "found", "I", false)
  | 9 => ("PagesForAll$Walks", "foundIn", "[I", true)
  | _ => ("PagesForAll$Walks", "look", "I", false)
def tyX6 : Nat → FieldType := fun k => match k with
  | 0 => .object "PagesForAll$Parts"
  | 1 => .object "PagesForAll$Stops"
  | 2 => .array .int
  | 3 => .int
  | 4 => .int
  | 5 => .array .int
  | 6 => .array .int
  | 7 => .array .int
  | 8 => .int
  | 9 => .array .int
  | _ => .int
abbrev wsX60 : List Cond := u_ws RX6 TX6 11
theorem nmX6 : ∀ a, a < 11 → ∀ b, b < 11 → a ≠ b → (TX6 a).2.1 ≠ (TX6 b).2.1 := by decide +kernel
theorem tyX6_ok : ∀ k, k < 11 → parseFieldDescriptor (TX6 k).2.2.1 = some (tyX6 k) := by decide +kernel
abbrev cX6_init : ByteArray := prog_8_method_1_code
def yX6_init : MethodName := ⟨RX6, "<init>", "(LPagesForAll$Parts;LPagesForAll$Stops;)V"⟩
abbrev cX6_lengthTo : ByteArray := prog_8_method_2_code
def yX6_lengthTo : MethodName := ⟨RX6, "lengthTo", "(II)I"⟩
abbrev cX6_firstKeyTo : ByteArray := prog_8_method_3_code
def yX6_firstKeyTo : MethodName := ⟨RX6, "firstKeyTo", "(II)I"⟩
abbrev cX6_leadOutOf : ByteArray := prog_8_method_4_code
def yX6_leadOutOf : MethodName := ⟨RX6, "leadOutOf", "(II)Z"⟩
abbrev cX6_find : ByteArray := prog_8_method_5_code
def yX6_find : MethodName := ⟨RX6, "find", "(II)I"⟩
abbrev cX6_takeDoors : ByteArray := prog_8_method_6_code
def yX6_takeDoors : MethodName := ⟨RX6, "takeDoors", "()V"⟩
abbrev cX6_doorsShutNow : ByteArray := prog_8_method_7_code
def yX6_doorsShutNow : MethodName := ⟨RX6, "doorsShutNow", "()I"⟩
abbrev cX6_shownIf : ByteArray := prog_8_method_8_code
def yX6_shownIf : MethodName := ⟨RX6, "shownIf", "(I)I"⟩
abbrev cX6_focusIn : ByteArray := prog_8_method_9_code
def yX6_focusIn : MethodName := ⟨RX6, "focusIn", "(I)I"⟩
abbrev cX6_pressAllKeys : ByteArray := prog_8_method_10_code
def yX6_pressAllKeys : MethodName := ⟨RX6, "pressAllKeys", "(I)V"⟩
abbrev cX6_doorOf : ByteArray := prog_8_method_11_code
def yX6_doorOf : MethodName := ⟨RX6, "doorOf", "(I)I"⟩
abbrev cX6_comeFrom : ByteArray := prog_8_method_12_code
def yX6_comeFrom : MethodName := ⟨RX6, "comeFrom", "(IIII)V"⟩
abbrev cX6_come : ByteArray := prog_8_method_13_code
def yX6_come : MethodName := ⟨RX6, "come", "(IIII)V"⟩
def RX7 : String := "PagesForAll"
def TX7 : u_T := fun k => match k with
  | 0 => ("PagesForAll", "parts", "LPagesForAll$Parts;", true)
  | 1 => ("PagesForAll", "names", "LPagesForAll$Names;", true)
  | 2 => ("PagesForAll", "reading", "LPagesForAll$Reading;", true)
  | 3 => ("PagesForAll", "stops", "LPagesForAll$Stops;", true)
  | 4 => ("PagesForAll", "walks", "LPagesForAll$Walks;", true)
  | 5 => ("PagesForAll", "faults", "LPagesForAll$Faults;", true)
  | 6 => ("PagesForAll", "spoken", "LPagesForAll$Spoken;", true)
  | _ => ("PagesForAll", "focus", "I", false)
def tyX7 : Nat → FieldType := fun k => match k with
  | 0 => .object "PagesForAll$Parts"
  | 1 => .object "PagesForAll$Names"
  | 2 => .object "PagesForAll$Reading"
  | 3 => .object "PagesForAll$Stops"
  | 4 => .object "PagesForAll$Walks"
  | 5 => .object "PagesForAll$Faults"
  | 6 => .object "PagesForAll$Spoken"
  | _ => .int
abbrev wsX70 : List Cond := u_ws RX7 TX7 8
theorem nmX7 : ∀ a, a < 8 → ∀ b, b < 8 → a ≠ b → (TX7 a).2.1 ≠ (TX7 b).2.1 := by decide +kernel
theorem tyX7_ok : ∀ k, k < 8 → parseFieldDescriptor (TX7 k).2.2.1 = some (tyX7 k) := by decide +kernel
abbrev cX7_init : ByteArray := prog_1_method_1_code
def yX7_init : MethodName := ⟨RX7, "<init>", "()V"⟩
abbrev cX7_part : ByteArray := prog_1_method_2_code
def yX7_part : MethodName := ⟨RX7, "part", "(II)I"⟩
abbrev cX7_set : ByteArray := prog_1_method_3_code
def yX7_set : MethodName := ⟨RX7, "set", "(III)I"⟩
abbrev cX7_told : ByteArray := prog_1_method_4_code
def yX7_told : MethodName := ⟨RX7, "told", "(II)I"⟩
abbrev cX7_box : ByteArray := prog_1_method_5_code
def yX7_box : MethodName := ⟨RX7, "box", "(IIIII)I"⟩
abbrev cX7_colours : ByteArray := prog_1_method_6_code
def yX7_colours : MethodName := ⟨RX7, "colours", "(III)I"⟩
abbrev cX7_contrast : ByteArray := prog_1_method_7_code
def yX7_contrast : MethodName := ⟨RX7, "contrast", "(I)I"⟩
abbrev cX7_name : ByteArray := prog_1_method_8_code
def yX7_name : MethodName := ⟨RX7, "name", "(I)I"⟩
abbrev cX7_word : ByteArray := prog_1_method_9_code
def yX7_word : MethodName := ⟨RX7, "word", "(II)I"⟩
abbrev cX7_said : ByteArray := prog_1_method_10_code
def yX7_said : MethodName := ⟨RX7, "said", "(I)I"⟩
abbrev cX7_pairs : ByteArray := prog_1_method_11_code
def yX7_pairs : MethodName := ⟨RX7, "pairs", "()I"⟩
abbrev cX7_stop : ByteArray := prog_1_method_12_code
def yX7_stop : MethodName := ⟨RX7, "stop", "(I)I"⟩
abbrev cX7_press : ByteArray := prog_1_method_13_code
def yX7_press : MethodName := ⟨RX7, "press", "(I)I"⟩
abbrev cX7_focus : ByteArray := prog_1_method_14_code
def yX7_focus : MethodName := ⟨RX7, "focus", "()I"⟩
abbrev cX7_caught : ByteArray := prog_1_method_15_code
def yX7_caught : MethodName := ⟨RX7, "caught", "()I"⟩
abbrev cX7_leave : ByteArray := prog_1_method_16_code
def yX7_leave : MethodName := ⟨RX7, "leave", "()I"⟩
abbrev cX7_walk : ByteArray := prog_1_method_17_code
def yX7_walk : MethodName := ⟨RX7, "walk", "(I)I"⟩
abbrev cX7_key : ByteArray := prog_1_method_18_code
def yX7_key : MethodName := ⟨RX7, "key", "(I)I"⟩
abbrev cX7_keeper : ByteArray := prog_1_method_19_code
def yX7_keeper : MethodName := ⟨RX7, "keeper", "()I"⟩
abbrev cX7_hear : ByteArray := prog_1_method_20_code
def yX7_hear : MethodName := ⟨RX7, "hear", "()I"⟩
abbrev cX7_wrongs : ByteArray := prog_1_method_21_code
def yX7_wrongs : MethodName := ⟨RX7, "wrongs", "()I"⟩
abbrev cX7_wrong : ByteArray := prog_1_method_22_code
def yX7_wrong : MethodName := ⟨RX7, "wrong", "(II)I"⟩
abbrev cX7_mend : ByteArray := prog_1_method_23_code
def yX7_mend : MethodName := ⟨RX7, "mend", "(I)I"⟩
abbrev cX7_count : ByteArray := prog_1_method_24_code
def yX7_count : MethodName := ⟨RX7, "count", "(I)I"⟩
abbrev cX7_digest : ByteArray := prog_1_method_25_code
def yX7_digest : MethodName := ⟨RX7, "digest", "()J"⟩
abbrev cX7_opensTooMany : ByteArray := prog_1_method_26_code
def yX7_opensTooMany : MethodName := ⟨RX7, "opensTooMany", "(II)Z"⟩
abbrev cX7_change : ByteArray := prog_1_method_27_code
def yX7_change : MethodName := ⟨RX7, "change", "(III)I"⟩
abbrev cX7_enter : ByteArray := prog_1_method_28_code
def yX7_enter : MethodName := ⟨RX7, "enter", "()V"⟩
abbrev cX7_speakOf : ByteArray := prog_1_method_29_code
def yX7_speakOf : MethodName := ⟨RX7, "speakOf", "(I)V"⟩
abbrev cX7_isLength : ByteArray := prog_1_method_30_code
def yX7_isLength : MethodName := ⟨RX7, "isLength", "(I)Z"⟩
abbrev cX7_isColour : ByteArray := prog_1_method_31_code
def yX7_isColour : MethodName := ⟨RX7, "isColour", "(I)Z"⟩
abbrev cX7_holds : ByteArray := prog_1_method_32_code
def yX7_holds : MethodName := ⟨RX7, "holds", "(II)Z"⟩
abbrev cX7_lastOf : ByteArray := prog_1_method_33_code
def yX7_lastOf : MethodName := ⟨RX7, "lastOf", "(I)I"⟩
abbrev cX7_light : ByteArray := prog_1_method_34_code
def yX7_light : MethodName := ⟨RX7, "light", "(I)I"⟩
abbrev cX7_contrastBetween : ByteArray := prog_1_method_35_code
def yX7_contrastBetween : MethodName := ⟨RX7, "contrastBetween", "(II)I"⟩
def RX8 : String := "PagesForAllModel"
def TX8 : u_T := fun k => match k with
  | 0 => ("PagesForAllModel", "many", "I", false)
  | 1 => ("PagesForAllModel", "data", "[I", true)
  | 2 => ("PagesForAllModel", "focus", "I", false)
  | 3 => ("PagesForAllModel", "spokenMany", "I", false)
  | 4 => ("PagesForAllModel", "spoken", "[I", true)
  | 5 => ("PagesForAllModel", "row", "[I", true)
  | 6 => ("PagesForAllModel", "pile", "[I", true)
  | 7 => ("PagesForAllModel", "names", "[I", true)
  | 8 => ("PagesForAllModel", "nameMany", "[I", true)
  | 9 => ("PagesForAllModel", "saidRow", "[I", true)
  | 10 => ("PagesForAllModel", "saidMany", "I", false)
  | 11 => ("PagesForAllModel", "stops", "[I", true)
  | 12 => ("PagesForAllModel", "stopMany", "I", false)
  | 13 => ("PagesForAllModel", "doors", "[I", true)
  | 14 => ("PagesForAllModel", "doorMany", "I", false)
  | 15 => ("PagesForAllModel", "far", "[I", true)
  | 16 => ("PagesForAllModel", "queue", "[I", true)
  | 17 => ("PagesForAllModel", "met", "I", false)
  | 18 => ("PagesForAllModel", "wrongPart", "[I", true)
  | 19 => ("PagesForAllModel", "wrongSort", "[I", true)
  | _ => ("PagesForAllModel", "wrongMany", "I", false)
def tyX8 : Nat → FieldType := fun k => match k with
  | 0 => .int
  | 1 => .array .int
  | 2 => .int
  | 3 => .int
  | 4 => .array .int
  | 5 => .array .int
  | 6 => .array .int
  | 7 => .array .int
  | 8 => .array .int
  | 9 => .array .int
  | 10 => .int
  | 11 => .array .int
  | 12 => .int
  | 13 => .array .int
  | 14 => .int
  | 15 => .array .int
  | 16 => .array .int
  | 17 => .int
  | 18 => .array .int
  | 19 => .array .int
  | _ => .int
abbrev wsX80 : List Cond := u_ws RX8 TX8 21
theorem nmX8 : ∀ a, a < 21 → ∀ b, b < 21 → a ≠ b → (TX8 a).2.1 ≠ (TX8 b).2.1 := by decide +kernel
theorem tyX8_ok : ∀ k, k < 21 → parseFieldDescriptor (TX8 k).2.2.1 = some (tyX8 k) := by decide +kernel
abbrev cX8_init : ByteArray := prog_10_method_1_code
def yX8_init : MethodName := ⟨RX8, "<init>", "()V"⟩
abbrev cX8_in : ByteArray := prog_10_method_2_code
def yX8_in : MethodName := ⟨RX8, "in", "(JJJ)Z"⟩
abbrev cX8_get : ByteArray := prog_10_method_3_code
def yX8_get : MethodName := ⟨RX8, "get", "(II)I"⟩
abbrev cX8_put : ByteArray := prog_10_method_4_code
def yX8_put : MethodName := ⟨RX8, "put", "(III)V"⟩
abbrev cX8_begin : ByteArray := prog_10_method_5_code
def yX8_begin : MethodName := ⟨RX8, "begin", "(III)V"⟩
abbrev cX8_isPart : ByteArray := prog_10_method_6_code
def yX8_isPart : MethodName := ⟨RX8, "isPart", "(I)Z"⟩
abbrev cX8_part : ByteArray := prog_10_method_7_code
def yX8_part : MethodName := ⟨RX8, "part", "(II)I"⟩
abbrev cX8_isShown : ByteArray := prog_10_method_8_code
def yX8_isShown : MethodName := ⟨RX8, "isShown", "(I)Z"⟩
abbrev cX8_lies : ByteArray := prog_10_method_9_code
def yX8_lies : MethodName := ⟨RX8, "lies", "(II)Z"⟩
abbrev cX8_innermost : ByteArray := prog_10_method_10_code
def yX8_innermost : MethodName := ⟨RX8, "innermost", "(II)I"⟩
abbrev cX8_line : ByteArray := prog_10_method_11_code
def yX8_line : MethodName := ⟨RX8, "line", "()V"⟩
abbrev cX8_opened : ByteArray := prog_10_method_12_code
def yX8_opened : MethodName := ⟨RX8, "opened", "()I"⟩
abbrev cX8_isOpenedBy : ByteArray := prog_10_method_13_code
def yX8_isOpenedBy : MethodName := ⟨RX8, "isOpenedBy", "(II)Z"⟩
abbrev cX8_isFor : ByteArray := prog_10_method_14_code
def yX8_isFor : MethodName := ⟨RX8, "isFor", "(II)Z"⟩
abbrev cX8_speak : ByteArray := prog_10_method_15_code
def yX8_speak : MethodName := ⟨RX8, "speak", "(I)V"⟩
abbrev cX8_lookAtFocus : ByteArray := prog_10_method_16_code
def yX8_lookAtFocus : MethodName := ⟨RX8, "lookAtFocus", "()V"⟩
abbrev cX8_set : ByteArray := prog_10_method_17_code
def yX8_set : MethodName := ⟨RX8, "set", "(III)I"⟩
abbrev cX8_told : ByteArray := prog_10_method_18_code
def yX8_told : MethodName := ⟨RX8, "told", "(II)I"⟩
abbrev cX8_box : ByteArray := prog_10_method_19_code
def yX8_box : MethodName := ⟨RX8, "box", "(IIIII)I"⟩
abbrev cX8_light : ByteArray := prog_10_method_20_code
def yX8_light : MethodName := ⟨RX8, "light", "(I)J"⟩
abbrev cX8_contrastOf : ByteArray := prog_10_method_21_code
def yX8_contrastOf : MethodName := ⟨RX8, "contrastOf", "(II)I"⟩
abbrev cX8_colours : ByteArray := prog_10_method_22_code
def yX8_colours : MethodName := ⟨RX8, "colours", "(III)I"⟩
abbrev cX8_contrast : ByteArray := prog_10_method_23_code
def yX8_contrast : MethodName := ⟨RX8, "contrast", "(I)I"⟩
abbrev cX8_addWord : ByteArray := prog_10_method_24_code
def yX8_addWord : MethodName := ⟨RX8, "addWord", "(II)V"⟩
abbrev cX8_findName : ByteArray := prog_10_method_25_code
def yX8_findName : MethodName := ⟨RX8, "findName", "(I)V"⟩
abbrev cX8_name : ByteArray := prog_10_method_26_code
def yX8_name : MethodName := ⟨RX8, "name", "(I)I"⟩
abbrev cX8_word : ByteArray := prog_10_method_27_code
def yX8_word : MethodName := ⟨RX8, "word", "(II)I"⟩
abbrev cX8_findSaid : ByteArray := prog_10_method_28_code
def yX8_findSaid : MethodName := ⟨RX8, "findSaid", "()V"⟩
abbrev cX8_said : ByteArray := prog_10_method_29_code
def yX8_said : MethodName := ⟨RX8, "said", "(I)I"⟩
abbrev cX8_hasBox : ByteArray := prog_10_method_30_code
def yX8_hasBox : MethodName := ⟨RX8, "hasBox", "(I)Z"⟩
abbrev cX8_isAbove : ByteArray := prog_10_method_31_code
def yX8_isAbove : MethodName := ⟨RX8, "isAbove", "(II)Z"⟩
abbrev cX8_isAstray : ByteArray := prog_10_method_32_code
def yX8_isAstray : MethodName := ⟨RX8, "isAstray", "(II)Z"⟩
abbrev cX8_pairs : ByteArray := prog_10_method_33_code
def yX8_pairs : MethodName := ⟨RX8, "pairs", "()I"⟩
abbrev cX8_isStop : ByteArray := prog_10_method_34_code
def yX8_isStop : MethodName := ⟨RX8, "isStop", "(I)Z"⟩
abbrev cX8_findStops : ByteArray := prog_10_method_35_code
def yX8_findStops : MethodName := ⟨RX8, "findStops", "(I)V"⟩
abbrev cX8_stop : ByteArray := prog_10_method_36_code
def yX8_stop : MethodName := ⟨RX8, "stop", "(I)I"⟩
abbrev cX8_trapOf : ByteArray := prog_10_method_37_code
def yX8_trapOf : MethodName := ⟨RX8, "trapOf", "(I)I"⟩
abbrev cX8_pressed : ByteArray := prog_10_method_38_code
def yX8_pressed : MethodName := ⟨RX8, "pressed", "(IZ)V"⟩
abbrev cX8_press : ByteArray := prog_10_method_39_code
def yX8_press : MethodName := ⟨RX8, "press", "(I)I"⟩
abbrev cX8_focus : ByteArray := prog_10_method_40_code
def yX8_focus : MethodName := ⟨RX8, "focus", "()I"⟩
abbrev cX8_caught : ByteArray := prog_10_method_41_code
def yX8_caught : MethodName := ⟨RX8, "caught", "()I"⟩
abbrev cX8_leave : ByteArray := prog_10_method_42_code
def yX8_leave : MethodName := ⟨RX8, "leave", "()I"⟩
abbrev cX8_findDoors : ByteArray := prog_10_method_43_code
def yX8_findDoors : MethodName := ⟨RX8, "findDoors", "()V"⟩
abbrev cX8_state : ByteArray := prog_10_method_44_code
def yX8_state : MethodName := ⟨RX8, "state", "()I"⟩
abbrev cX8_come : ByteArray := prog_10_method_45_code
def yX8_come : MethodName := ⟨RX8, "come", "(I)V"⟩
abbrev cX8_spread : ByteArray := prog_10_method_46_code
def yX8_spread : MethodName := ⟨RX8, "spread", "()V"⟩
abbrev cX8_leastTo : ByteArray := prog_10_method_47_code
def yX8_leastTo : MethodName := ⟨RX8, "leastTo", "(I)I"⟩
abbrev cX8_walk : ByteArray := prog_10_method_48_code
def yX8_walk : MethodName := ⟨RX8, "walk", "(I)I"⟩
abbrev cX8_key : ByteArray := prog_10_method_49_code
def yX8_key : MethodName := ⟨RX8, "key", "(I)I"⟩
abbrev cX8_keeper : ByteArray := prog_10_method_50_code
def yX8_keeper : MethodName := ⟨RX8, "keeper", "()I"⟩
abbrev cX8_hear : ByteArray := prog_10_method_51_code
def yX8_hear : MethodName := ⟨RX8, "hear", "()I"⟩
abbrev cX8_isTwin : ByteArray := prog_10_method_52_code
def yX8_isTwin : MethodName := ⟨RX8, "isTwin", "(I)Z"⟩
abbrev cX8_isClosed : ByteArray := prog_10_method_53_code
def yX8_isClosed : MethodName := ⟨RX8, "isClosed", "(I)Z"⟩
abbrev cX8_isAhead : ByteArray := prog_10_method_54_code
def yX8_isAhead : MethodName := ⟨RX8, "isAhead", "(I)Z"⟩
abbrev cX8_isWrong : ByteArray := prog_10_method_55_code
def yX8_isWrong : MethodName := ⟨RX8, "isWrong", "(II)Z"⟩
abbrev cX8_findWrongs : ByteArray := prog_10_method_56_code
def yX8_findWrongs : MethodName := ⟨RX8, "findWrongs", "()V"⟩
abbrev cX8_wrongs : ByteArray := prog_10_method_57_code
def yX8_wrongs : MethodName := ⟨RX8, "wrongs", "()I"⟩
abbrev cX8_wrong : ByteArray := prog_10_method_58_code
def yX8_wrong : MethodName := ⟨RX8, "wrong", "(II)I"⟩
abbrev cX8_mend : ByteArray := prog_10_method_59_code
def yX8_mend : MethodName := ⟨RX8, "mend", "(I)I"⟩
abbrev cX8_count : ByteArray := prog_10_method_60_code
def yX8_count : MethodName := ⟨RX8, "count", "(I)I"⟩
abbrev cX8_digest : ByteArray := prog_10_method_61_code
def yX8_digest : MethodName := ⟨RX8, "digest", "()J"⟩
def RJ6 : String := "java/lang/Integer"
def TJ6 : u_T := fun k => match k with
  | _ => ("", "", "", false)
def tyJ6 : Nat → FieldType := fun k => match k with
  | _ => .int
abbrev wsJ60 : List Cond := u_ws RJ6 TJ6 0
theorem nmJ6 : ∀ a, a < 0 → ∀ b, b < 0 → a ≠ b → (TJ6 a).2.1 ≠ (TJ6 b).2.1 := by decide +kernel
theorem tyJ6_ok : ∀ k, k < 0 → parseFieldDescriptor (TJ6 k).2.2.1 = some (tyJ6 k) := by decide +kernel
abbrev cJ6_bitCount_0f7a4 : ByteArray := prog_11_method_49_code
def yJ6_bitCount_0f7a4 : MethodName := ⟨RJ6, "bitCount", "(I)I"⟩
def RJ9 : String := "java/lang/Math"
def TJ9 : u_T := fun k => match k with
  | _ => ("", "", "", false)
def tyJ9 : Nat → FieldType := fun k => match k with
  | _ => .int
abbrev wsJ90 : List Cond := u_ws RJ9 TJ9 0
theorem nmJ9 : ∀ a, a < 0 → ∀ b, b < 0 → a ≠ b → (TJ9 a).2.1 ≠ (TJ9 b).2.1 := by decide +kernel
theorem tyJ9_ok : ∀ k, k < 0 → parseFieldDescriptor (TJ9 k).2.2.1 = some (tyJ9 k) := by decide +kernel
abbrev cJ9_max_7cf53 : ByteArray := prog_12_method_65_code
def yJ9_max_7cf53 : MethodName := ⟨RJ9, "max", "(II)I"⟩
abbrev cJ9_min_7cf53 : ByteArray := prog_12_method_69_code
def yJ9_min_7cf53 : MethodName := ⟨RJ9, "min", "(II)I"⟩
def RL : String := "PagesForAllLaw"
abbrev cL_law : ByteArray := code
def yL_law : MethodName := ⟨RL, "law", "([I)Z"⟩
abbrev vwCl : List vw_C := [(RX0, TX0, 6), (RX1, TX1, 3), (RX2, TX2, 6), (RX3, TX3, 5), (RX4, TX4, 2), (RX5, TX5, 3), (RX6, TX6, 11), (RX7, TX7, 8), (RX8, TX8, 21)]
def wAll : List Cond := lw_tbl.filter goodWord
theorem wAll_good {w : Cond} (h : w ∈ wAll) : w ∈ lw_tbl ∧ ((w.onTables && w.keeps) = true ∨ ∃ ty, w = .arrayClass ty) := ⟨(List.mem_filter.mp h).1, good_of_word (List.mem_filter.mp h).2⟩
theorem wTb {w : Cond} (h : w ∈ tables_1) (g : goodWord w = true) : w ∈ wAll := List.mem_filter.mpr ⟨List.mem_append_right _ h, g⟩
theorem wT1 {w : Cond} (i : Nat) (h : tables_1_1[i]? = some w) (g : goodWord w = true) : w ∈ wAll := wTb (List.mem_append_left _ (List.mem_of_getElem? h)) g
theorem wT2 {w : Cond} (i : Nat) (h : tables_1_2[i]? = some w) (g : goodWord w = true) : w ∈ wAll := wTb (List.mem_append_right _ (List.mem_append_left _ (List.mem_of_getElem? h))) g
theorem wT3 {w : Cond} (i : Nat) (h : tables_1_3[i]? = some w) (g : goodWord w = true) : w ∈ wAll := wTb (List.mem_append_right _ (List.mem_append_right _ (List.mem_append_left _ (List.mem_of_getElem? h)))) g
theorem wT4 {w : Cond} (i : Nat) (h : tables_1_4[i]? = some w) (g : goodWord w = true) : w ∈ wAll := wTb (List.mem_append_right _ (List.mem_append_right _ (List.mem_append_right _ (List.mem_append_left _ (List.mem_of_getElem? h))))) g
theorem wT5 {w : Cond} (i : Nat) (h : tables_1_5[i]? = some w) (g : goodWord w = true) : w ∈ wAll := wTb (List.mem_append_right _ (List.mem_append_right _ (List.mem_append_right _ (List.mem_append_right _ (List.mem_of_getElem? h))))) g
theorem wSl {w : Cond} (i : Nat) (h : (k2_sels lw_privs)[i]? = some w) (g : goodWord w = true) : w ∈ wAll := List.mem_filter.mpr ⟨List.mem_append_left _ (List.mem_of_getElem? h), g⟩
theorem u_inA {C : String} {T : u_T} {N : Nat} (h : ∀ k, k < N → u_lay C T k ∈ wAll) : ∀ w ∈ u_ws C T N, w ∈ wAll := fun w hw => by
  obtain ⟨k, hk, rfl⟩ := List.mem_map.mp hw
  exact h k (List.mem_range.mp hk)
theorem inlX0 : ∀ w ∈ wsX00, w ∈ wAll := u_inA (fun k hk => match k, hk with
  | 0, _ => wT1 207 rfl rfl
  | 1, _ => wT1 209 rfl rfl
  | 2, _ => wT1 211 rfl rfl
  | 3, _ => wT1 213 rfl rfl
  | 4, _ => wT1 215 rfl rfl
  | 5, _ => wT1 217 rfl rfl
  | n + 6, hk => absurd hk (by omega))
theorem inlX1 : ∀ w ∈ wsX10, w ∈ wAll := u_inA (fun k hk => match k, hk with
  | 0, _ => wT1 106 rfl rfl
  | 1, _ => wT1 108 rfl rfl
  | 2, _ => wT1 110 rfl rfl
  | n + 3, hk => absurd hk (by omega))
theorem inlX2 : ∀ w ∈ wsX20, w ∈ wAll := u_inA (fun k hk => match k, hk with
  | 0, _ => wT1 83 rfl rfl
  | 1, _ => wT1 85 rfl rfl
  | 2, _ => wT1 87 rfl rfl
  | 3, _ => wT1 89 rfl rfl
  | 4, _ => wT1 91 rfl rfl
  | 5, _ => wT1 93 rfl rfl
  | n + 6, hk => absurd hk (by omega))
theorem inlX3 : ∀ w ∈ wsX30, w ∈ wAll := u_inA (fun k hk => match k, hk with
  | 0, _ => wT1 127 rfl rfl
  | 1, _ => wT1 129 rfl rfl
  | 2, _ => wT1 131 rfl rfl
  | 3, _ => wT1 133 rfl rfl
  | 4, _ => wT1 135 rfl rfl
  | n + 5, hk => absurd hk (by omega))
theorem inlX4 : ∀ w ∈ wsX40, w ∈ wAll := u_inA (fun k hk => match k, hk with
  | 0, _ => wT1 230 rfl rfl
  | 1, _ => wT1 232 rfl rfl
  | n + 2, hk => absurd hk (by omega))
theorem inlX5 : ∀ w ∈ wsX50, w ∈ wAll := u_inA (fun k hk => match k, hk with
  | 0, _ => wT1 147 rfl rfl
  | 1, _ => wT1 149 rfl rfl
  | 2, _ => wT1 151 rfl rfl
  | n + 3, hk => absurd hk (by omega))
theorem inlX6 : ∀ w ∈ wsX60, w ∈ wAll := u_inA (fun k hk => match k, hk with
  | 0, _ => wT1 171 rfl rfl
  | 1, _ => wT1 173 rfl rfl
  | 2, _ => wT1 175 rfl rfl
  | 3, _ => wT1 177 rfl rfl
  | 4, _ => wT1 179 rfl rfl
  | 5, _ => wT1 181 rfl rfl
  | 6, _ => wT1 183 rfl rfl
  | 7, _ => wT1 185 rfl rfl
  | 8, _ => wT1 187 rfl rfl
  | 9, _ => wT1 189 rfl rfl
  | 10, _ => wT1 191 rfl rfl
  | n + 11, hk => absurd hk (by omega))
theorem inlX7 : ∀ w ∈ wsX70, w ∈ wAll := u_inA (fun k hk => match k, hk with
  | 0, _ => wT2 3 rfl rfl
  | 1, _ => wT2 5 rfl rfl
  | 2, _ => wT2 7 rfl rfl
  | 3, _ => wT2 9 rfl rfl
  | 4, _ => wT2 11 rfl rfl
  | 5, _ => wT2 13 rfl rfl
  | 6, _ => wT2 15 rfl rfl
  | 7, _ => wT2 17 rfl rfl
  | n + 8, hk => absurd hk (by omega))
theorem inlX8 : ∀ w ∈ wsX80, w ∈ wAll := u_inA (fun k hk => match k, hk with
  | 0, _ => wT3 225 rfl rfl
  | 1, _ => wT3 227 rfl rfl
  | 2, _ => wT3 229 rfl rfl
  | 3, _ => wT3 231 rfl rfl
  | 4, _ => wT3 233 rfl rfl
  | 5, _ => wT3 235 rfl rfl
  | 6, _ => wT3 237 rfl rfl
  | 7, _ => wT3 239 rfl rfl
  | 8, _ => wT4 1 rfl rfl
  | 9, _ => wT4 3 rfl rfl
  | 10, _ => wT4 5 rfl rfl
  | 11, _ => wT4 7 rfl rfl
  | 12, _ => wT4 9 rfl rfl
  | 13, _ => wT4 11 rfl rfl
  | 14, _ => wT4 13 rfl rfl
  | 15, _ => wT4 15 rfl rfl
  | 16, _ => wT4 17 rfl rfl
  | 17, _ => wT4 19 rfl rfl
  | 18, _ => wT4 21 rfl rfl
  | 19, _ => wT4 23 rfl rfl
  | 20, _ => wT4 25 rfl rfl
  | n + 21, hk => absurd hk (by omega))
end
section
/-! the links between nest mates -/
def NST : List Cond := [(Cond.methodLinkNest "PagesForAll" (9) (⟨"PagesForAll$Parts", "<init>", "()V"⟩ : MethodName) "PagesForAll"),
  (Cond.methodLinkNest "PagesForAll$Parts" (43) (⟨"PagesForAll", "holds", "(II)Z"⟩ : MethodName) "PagesForAll"),
  (Cond.fieldLinkNest "PagesForAll$Reading" (47) "PagesForAll$Parts" "around" "[I" "PagesForAll"),
  (Cond.fieldLinkNest "PagesForAll$Faults" (103) "PagesForAll$Parts" "around" "[I" "PagesForAll"),
  (Cond.fieldLinkNest "PagesForAll$Names" (38) "PagesForAll$Parts" "within" "[I" "PagesForAll"),
  (Cond.fieldLinkNest "PagesForAll$Walks" (52) "PagesForAll$Parts" "within" "[I" "PagesForAll"),
  (Cond.fieldLinkNest "PagesForAll$Stops" (48) "PagesForAll$Parts" "within" "[I" "PagesForAll"),
  (Cond.fieldLinkNest "PagesForAll$Faults" (100) "PagesForAll$Parts" "within" "[I" "PagesForAll"),
  (Cond.fieldLinkNest "PagesForAll$Names" (41) "PagesForAll$Parts" "ofKind" "[I" "PagesForAll"),
  (Cond.fieldLinkNest "PagesForAll$Reading" (50) "PagesForAll$Parts" "ofKind" "[I" "PagesForAll"),
  (Cond.fieldLinkNest "PagesForAll$Stops" (26) "PagesForAll$Parts" "order" "[I" "PagesForAll"),
  (Cond.fieldLinkNest "PagesForAll$Reading" (32) "PagesForAll$Parts" "order" "[I" "PagesForAll"),
  (Cond.fieldLinkNest "PagesForAll$Names" (48) "PagesForAll$Parts" "order" "[I" "PagesForAll"),
  (Cond.fieldLinkNest "PagesForAll$Stops" (23) "PagesForAll$Parts" "size" "I" "PagesForAll"),
  (Cond.fieldLinkNest "PagesForAll$Reading" (29) "PagesForAll$Parts" "size" "I" "PagesForAll"),
  (Cond.fieldLinkNest "PagesForAll$Faults" (49) "PagesForAll$Parts" "size" "I" "PagesForAll"),
  (Cond.fieldLinkNest "PagesForAll$Names" (44) "PagesForAll$Parts" "size" "I" "PagesForAll"),
  (Cond.fieldLinkNest "PagesForAll$Walks" (83) "PagesForAll$Parts" "size" "I" "PagesForAll"),
  (Cond.fieldLinkNest "PagesForAll" (178) "PagesForAll$Parts" "size" "I" "PagesForAll"),
  (Cond.methodLinkNest "PagesForAll" (18) (⟨"PagesForAll$Names", "<init>", "(LPagesForAll$Parts;)V"⟩ : MethodName) "PagesForAll"),
  (Cond.methodLinkNest "PagesForAll" (27) (⟨"PagesForAll$Reading", "<init>", "(LPagesForAll$Parts;)V"⟩ : MethodName) "PagesForAll"),
  (Cond.fieldLinkNest "PagesForAll" (187) "PagesForAll$Reading" "size" "I" "PagesForAll"),
  (Cond.fieldLinkNest "PagesForAll$Faults" (81) "PagesForAll$Reading" "astray" "I" "PagesForAll"),
  (Cond.fieldLinkNest "PagesForAll" (138) "PagesForAll$Reading" "astrayPairs" "I" "PagesForAll"),
  (Cond.methodLinkNest "PagesForAll" (34) (⟨"PagesForAll$Stops", "<init>", "(LPagesForAll$Parts;)V"⟩ : MethodName) "PagesForAll"),
  (Cond.methodLinkNest "PagesForAll" (41) (⟨"PagesForAll$Walks", "<init>", "(LPagesForAll$Parts;LPagesForAll$Stops;)V"⟩ : MethodName) "PagesForAll"),
  (Cond.methodLinkNest "PagesForAll" (50) (⟨"PagesForAll$Faults", "<init>", "(LPagesForAll$Parts;LPagesForAll$Names;LPagesForAll$Reading;)V"⟩ : MethodName) "PagesForAll"),
  (Cond.fieldLinkNest "PagesForAll" (166) "PagesForAll$Faults" "size" "I" "PagesForAll"),
  (Cond.methodLinkNest "PagesForAll" (59) (⟨"PagesForAll$Spoken", "<init>", "()V"⟩ : MethodName) "PagesForAll"),
  (Cond.fieldLinkNest "PagesForAll" (196) "PagesForAll$Spoken" "row" "[I" "PagesForAll"),
  (Cond.fieldLinkNest "PagesForAll" (188) "PagesForAll$Spoken" "size" "I" "PagesForAll"),
  (Cond.methodLinkNest "PagesForAll" (68) (⟨"PagesForAll$Parts", "has", "(I)Z"⟩ : MethodName) "PagesForAll"),
  (Cond.methodLinkNest "PagesForAll" (72) (⟨"PagesForAll$Parts", "isFull", "()Z"⟩ : MethodName) "PagesForAll"),
  (Cond.methodLinkNest "PagesForAll" (76) (⟨"PagesForAll$Parts", "add", "(II)I"⟩ : MethodName) "PagesForAll"),
  (Cond.methodLinkNest "PagesForAll" (80) (⟨"PagesForAll$Stops", "arrange", "()V"⟩ : MethodName) "PagesForAll"),
  (Cond.methodLinkNest "PagesForAll$Stops" (29) (⟨"PagesForAll$Parts", "get", "(II)I"⟩ : MethodName) "PagesForAll"),
  (Cond.methodLinkNest "PagesForAll" (83) (⟨"PagesForAll$Parts", "allows", "(II)Z"⟩ : MethodName) "PagesForAll"),
  (Cond.methodLinkNest "PagesForAll" (189) (⟨"PagesForAll$Parts", "openedBesides", "(I)I"⟩ : MethodName) "PagesForAll"),
  (Cond.methodLinkNest "PagesForAll" (101) (⟨"PagesForAll$Parts", "get", "(II)I"⟩ : MethodName) "PagesForAll"),
  (Cond.methodLinkNest "PagesForAll" (107) (⟨"PagesForAll$Parts", "put", "(III)V"⟩ : MethodName) "PagesForAll"),
  (Cond.methodLinkNest "PagesForAll" (206) (⟨"PagesForAll$Parts", "liveAround", "(I)I"⟩ : MethodName) "PagesForAll"),
  (Cond.methodLinkNest "PagesForAll$Parts" (74) (⟨"PagesForAll", "lastOf", "(I)I"⟩ : MethodName) "PagesForAll"),
  (Cond.methodLinkNest "PagesForAll" (94) (⟨"PagesForAll$Parts", "shownNow", "()I"⟩ : MethodName) "PagesForAll"),
  (Cond.methodLinkNest "PagesForAll" (209) (⟨"PagesForAll$Spoken", "add", "(I)V"⟩ : MethodName) "PagesForAll"),
  (Cond.methodLinkNest "PagesForAll" (114) (⟨"PagesForAll$Parts", "contrastOf", "(I)I"⟩ : MethodName) "PagesForAll"),
  (Cond.methodLinkNest "PagesForAll$Parts" (77) (⟨"PagesForAll", "contrastBetween", "(II)I"⟩ : MethodName) "PagesForAll"),
  (Cond.methodLinkNest "PagesForAll" (118) (⟨"PagesForAll$Names", "compose", "(II)V"⟩ : MethodName) "PagesForAll"),
  (Cond.methodLinkNest "PagesForAll$Names" (22) (⟨"PagesForAll$Parts", "get", "(II)I"⟩ : MethodName) "PagesForAll"),
  (Cond.methodLinkNest "PagesForAll$Names" (55) (⟨"PagesForAll$Parts", "has", "(I)Z"⟩ : MethodName) "PagesForAll"),
  (Cond.methodLinkNest "PagesForAll$Names" (51) (⟨"PagesForAll", "holds", "(II)Z"⟩ : MethodName) "PagesForAll"),
  (Cond.methodLinkNest "PagesForAll" (122) (⟨"PagesForAll$Names", "lengthOf", "(I)I"⟩ : MethodName) "PagesForAll"),
  (Cond.methodLinkNest "PagesForAll" (125) (⟨"PagesForAll$Names", "wordOf", "(II)I"⟩ : MethodName) "PagesForAll"),
  (Cond.methodLinkNest "PagesForAll" (128) (⟨"PagesForAll$Reading", "gather", "(I)V"⟩ : MethodName) "PagesForAll"),
  (Cond.methodLinkNest "PagesForAll$Reading" (35) (⟨"PagesForAll", "holds", "(II)Z"⟩ : MethodName) "PagesForAll"),
  (Cond.methodLinkNest "PagesForAll$Reading" (43) (⟨"PagesForAll$Parts", "get", "(II)I"⟩ : MethodName) "PagesForAll"),
  (Cond.methodLinkNest "PagesForAll" (132) (⟨"PagesForAll$Reading", "at", "(I)I"⟩ : MethodName) "PagesForAll"),
  (Cond.methodLinkNest "PagesForAll" (135) (⟨"PagesForAll$Reading", "compare", "()V"⟩ : MethodName) "PagesForAll"),
  (Cond.methodLinkNest "PagesForAll" (141) (⟨"PagesForAll$Stops", "at", "(II)I"⟩ : MethodName) "PagesForAll"),
  (Cond.methodLinkNest "PagesForAll$Stops" (41) (⟨"PagesForAll", "holds", "(II)Z"⟩ : MethodName) "PagesForAll"),
  (Cond.methodLinkNest "PagesForAll" (203) (⟨"PagesForAll$Parts", "openedByButton", "(I)I"⟩ : MethodName) "PagesForAll"),
  (Cond.methodLinkNest "PagesForAll" (146) (⟨"PagesForAll$Stops", "turn", "(III)I"⟩ : MethodName) "PagesForAll"),
  (Cond.methodLinkNest "PagesForAll$Stops" (45) (⟨"PagesForAll$Parts", "trapAround", "(II)I"⟩ : MethodName) "PagesForAll"),
  (Cond.methodLinkNest "PagesForAll" (149) (⟨"PagesForAll$Parts", "trapAround", "(II)I"⟩ : MethodName) "PagesForAll"),
  (Cond.methodLinkNest "PagesForAll" (152) (⟨"PagesForAll$Walks", "lengthTo", "(II)I"⟩ : MethodName) "PagesForAll"),
  (Cond.methodLinkNest "PagesForAll$Walks" (80) (⟨"PagesForAll$Parts", "openedBesides", "(I)I"⟩ : MethodName) "PagesForAll"),
  (Cond.methodLinkNest "PagesForAll$Walks" (72) (⟨"PagesForAll", "holds", "(II)Z"⟩ : MethodName) "PagesForAll"),
  (Cond.methodLinkNest "PagesForAll$Walks" (86) (⟨"PagesForAll$Parts", "hiddenNow", "()I"⟩ : MethodName) "PagesForAll"),
  (Cond.methodLinkNest "PagesForAll$Walks" (89) (⟨"PagesForAll$Parts", "get", "(II)I"⟩ : MethodName) "PagesForAll"),
  (Cond.methodLinkNest "PagesForAll$Walks" (92) (⟨"PagesForAll$Parts", "shownUnder", "(I)I"⟩ : MethodName) "PagesForAll"),
  (Cond.methodLinkNest "PagesForAll$Walks" (98) (⟨"PagesForAll$Stops", "turn", "(III)I"⟩ : MethodName) "PagesForAll"),
  (Cond.methodLinkNest "PagesForAll$Walks" (110) (⟨"PagesForAll$Parts", "openedByButton", "(I)I"⟩ : MethodName) "PagesForAll"),
  (Cond.methodLinkNest "PagesForAll" (155) (⟨"PagesForAll$Walks", "firstKeyTo", "(II)I"⟩ : MethodName) "PagesForAll"),
  (Cond.methodLinkNest "PagesForAll" (158) (⟨"PagesForAll$Walks", "leadOutOf", "(II)Z"⟩ : MethodName) "PagesForAll"),
  (Cond.methodLinkNest "PagesForAll" (161) (⟨"PagesForAll$Spoken", "takeFirst", "()I"⟩ : MethodName) "PagesForAll"),
  (Cond.methodLinkNest "PagesForAll" (164) (⟨"PagesForAll$Faults", "gather", "()V"⟩ : MethodName) "PagesForAll"),
  (Cond.methodLinkNest "PagesForAll$Faults" (34) (⟨"PagesForAll$Parts", "shownNow", "()I"⟩ : MethodName) "PagesForAll"),
  (Cond.methodLinkNest "PagesForAll$Faults" (40) (⟨"PagesForAll$Reading", "gather", "(I)V"⟩ : MethodName) "PagesForAll"),
  (Cond.methodLinkNest "PagesForAll$Faults" (46) (⟨"PagesForAll$Reading", "compare", "()V"⟩ : MethodName) "PagesForAll"),
  (Cond.methodLinkNest "PagesForAll$Faults" (50) (⟨"PagesForAll$Names", "compose", "(II)V"⟩ : MethodName) "PagesForAll"),
  (Cond.methodLinkNest "PagesForAll$Faults" (56) (⟨"PagesForAll", "holds", "(II)Z"⟩ : MethodName) "PagesForAll"),
  (Cond.methodLinkNest "PagesForAll$Faults" (74) (⟨"PagesForAll$Parts", "get", "(II)I"⟩ : MethodName) "PagesForAll"),
  (Cond.methodLinkNest "PagesForAll$Faults" (87) (⟨"PagesForAll$Names", "lengthOf", "(I)I"⟩ : MethodName) "PagesForAll"),
  (Cond.methodLinkNest "PagesForAll$Faults" (91) (⟨"PagesForAll$Parts", "stopsAmong", "(I)I"⟩ : MethodName) "PagesForAll"),
  (Cond.methodLinkNest "PagesForAll$Faults" (94) (⟨"PagesForAll$Names", "areAlike", "(II)Z"⟩ : MethodName) "PagesForAll"),
  (Cond.methodLinkNest "PagesForAll$Faults" (97) (⟨"PagesForAll$Parts", "contrastOf", "(I)I"⟩ : MethodName) "PagesForAll"),
  (Cond.methodLinkNest "PagesForAll$Faults" (106) (⟨"PagesForAll$Parts", "openedByButton", "(I)I"⟩ : MethodName) "PagesForAll"),
  (Cond.methodLinkNest "PagesForAll" (169) (⟨"PagesForAll$Faults", "partAt", "(I)I"⟩ : MethodName) "PagesForAll"),
  (Cond.methodLinkNest "PagesForAll" (172) (⟨"PagesForAll$Faults", "sortAt", "(I)I"⟩ : MethodName) "PagesForAll"),
  (Cond.methodLinkNest "PagesForAll" (175) (⟨"PagesForAll$Faults", "mendAt", "(II)V"⟩ : MethodName) "PagesForAll"),
  (Cond.methodLinkNest "PagesForAll$Faults" (109) (⟨"PagesForAll$Parts", "put", "(III)V"⟩ : MethodName) "PagesForAll"),
  (Cond.methodLinkNest "PagesForAll$Faults" (115) (⟨"PagesForAll", "contrastBetween", "(II)I"⟩ : MethodName) "PagesForAll"),
  (Cond.methodLinkNest "PagesForAll" (184) (⟨"PagesForAll$Parts", "stopsAmong", "(I)I"⟩ : MethodName) "PagesForAll")]
def NST_isn : Cond → Bool
  | .fieldLinkNest _ _ _ _ _ _ => true
  | .methodLinkNest _ _ _ _ => true
  | _ => false
theorem NST_all : NST.all (fun w => NST_isn w && w.onTables) = true := by decide +kernel
theorem NST_on : ∀ w ∈ NST, w.onTables = true := fun w h => by
  have h1 := List.all_eq_true.mp NST_all w h
  simp only [Bool.and_eq_true] at h1
  exact h1.2
theorem NST_form : ∀ w ∈ NST, NST_isn w = true := fun w h => by
  have h1 := List.all_eq_true.mp NST_all w h
  simp only [Bool.and_eq_true] at h1
  exact h1.1
theorem NST_at : NST = [22, 48, 62, 63, 65, 66, 67, 68, 70, 71, 73, 74, 75, 77, 78, 79, 80, 81, 82, 99, 115, 122, 124, 126, 140, 156, 196, 206, 222, 227, 229, 264, 265, 269, 270, 274, 290, 298, 309, 310, 315, 319, 322, 334, 357, 361, 383, 387, 392, 401, 402, 410, 418, 422, 427, 428, 436, 460, 464, 473, 477, 481, 505, 514, 526, 527, 528, 533, 549, 550, 559, 564, 572, 580, 588, 592, 593, 594, 595, 596, 605, 606, 611, 615, 624, 629, 638, 642, 650, 654, 657, 662].filterMap (fun i => tables_1[i]?) := by decide +kernel
theorem NST_in : ∀ w ∈ NST, w ∈ tables_1 := fun w h => by
  rw [NST_at] at h
  obtain ⟨i, -, hi⟩ := List.mem_filterMap.mp h
  exact List.mem_of_getElem? hi
end
section
/-! the abstract layer: a world of fixed shape, its memory, and walks over it -/
abbrev Shp : Type := List (Nat ⊕ (Nat × List (Option Nat)))
abbrev Mm : Type := Nat → Nat → Int32
abbrev MI : Type := MethodName × ByteArray × Nat × Option FieldType × Nat × Nat
abbrev Pst : Type := Option Value → Mm → Prop
def ab_cv (ad : Nat → Nat) (v : Value) : Value := match v with
  | .ref k => .ref (ad k)
  | v => v
def ab_flds (ad : Nat → Nat) (f : Nat → Int32) (fs : List (Option Nat)) : List Value := fs.mapIdx (fun j o => match o with
  | some r => Value.ref (ad r)
  | none => .int (f j))
def ab_cell (cy : ClassId) (ad : Nat → Nat) (f : Nat → Int32) (h : Nat ⊕ (Nat × List (Option Nat))) : va_E := match h with
  | .inl n => .inl (cy, n, .inl f)
  | .inr q => .inr (q.1, ab_flds ad f q.2)
def ab_ws (cy : ClassId) (Sh : Shp) (ad : Nat → Nat) (M : Mm) : va_W := Sh.mapIdx (fun k h => (ad k, ab_cell cy ad (M k) h))
def mst (M : Mm) (k j : Nat) (x : Int32) : Mm := fun a => if a = k then upd (M k) j x else M a
def ab_AD (Sh : Shp) (ad : Nat → Nat) : Nat → Prop := fun q => ∃ k, k < Sh.length ∧ ad k = q
theorem mst_same (M : Mm) (k j : Nat) (x : Int32) : mst M k j x k = upd (M k) j x := by simp [mst]
theorem mst_other (M : Mm) {k a : Nat} (j : Nat) (x : Int32) (h : a ≠ k) : mst M k j x a = M a := by simp [mst, h]
theorem ab_get (cy : ClassId) (Sh : Shp) (ad : Nat → Nat) (M : Mm) (k : Nat) : (ab_ws cy Sh ad M)[k]? = (Sh[k]?).map (fun h => (ad k, ab_cell cy ad (M k) h)) := by
  simp [ab_ws, List.getElem?_mapIdx]
theorem ab_setA {cy : ClassId} {Sh : Shp} {ad : Nat → Nat} {M : Mm} {k n : Nat} (h : Sh[k]? = some (.inl n)) (j : Nat) (x : Int32) :
    (ab_ws cy Sh ad M).set k (ad k, .inl (cy, n, .inl (upd (M k) j x))) = ab_ws cy Sh ad (mst M k j x) := by
  apply List.ext_getElem?
  intro i
  rw [List.getElem?_set, ab_get, ab_get]
  by_cases hi : k = i
  · subst hi
    have hl : k < (ab_ws cy Sh ad M).length := by
      have := (List.getElem?_eq_some_iff.mp h).1
      simpa [ab_ws] using this
    simp [hl, h, ab_cell, mst_same]
  · simp [hi, mst_other M j x (Ne.symm hi)]
theorem ab_fset {ad : Nat → Nat} {f : Nat → Int32} {fs : List (Option Nat)} {j : Nat} (h : fs[j]? = some none) (x : Int32) : (ab_flds ad f fs).set j (.int x) = ab_flds ad (upd f j x) fs := by
  apply List.ext_getElem?
  intro i
  rw [List.getElem?_set]
  have hl : j < (ab_flds ad f fs).length := by
    have := (List.getElem?_eq_some_iff.mp h).1
    simpa [ab_flds] using this
  by_cases hi : j = i
  · subst hi
    simp [ab_flds, List.getElem?_mapIdx, h, upd]
    simpa [ab_flds] using hl
  · simp only [hi, if_false]
    simp only [ab_flds, List.getElem?_mapIdx]
    congr 1
    funext o
    cases o with
    | none => simp [upd, Ne.symm hi]
    | some r => rfl
theorem ab_setF {cy : ClassId} {Sh : Shp} {ad : Nat → Nat} {M : Mm} {k j : Nat} {q : Nat × List (Option Nat)} (h : Sh[k]? = some (.inr q)) (hj : q.2[j]? = some none) (x : Int32) :
    (ab_ws cy Sh ad M).set k (ad k, .inr (q.1, (ab_flds ad (M k) q.2).set j (.int x))) = ab_ws cy Sh ad (mst M k j x) := by
  rw [ab_fset hj]
  apply List.ext_getElem?
  intro i
  rw [List.getElem?_set, ab_get, ab_get]
  by_cases hi : k = i
  · subst hi
    have hl : k < (ab_ws cy Sh ad M).length := by
      have := (List.getElem?_eq_some_iff.mp h).1
      simpa [ab_ws] using this
    simp [hl, h, ab_cell, mst_same]
  · simp [hi, mst_other M j x (Ne.symm hi)]
theorem ab_cat (ad : Nat → Nat) (v : Value) : (ab_cv ad v).category = v.category := by cases v <;> rfl
theorem ab_catS (ad : Nat → Nat) (st : List Value) : ((st.map (ab_cv ad)).map fun v => v.category).sum = (st.map fun v => v.category).sum := by
  rw [List.map_map]
  congr 2
  funext v
  exact ab_cat ad v
theorem ab_null {ad : Nat → Nat} {v : Value} (h : v ≠ .null) : ab_cv ad v ≠ .null := by cases v <;> simp_all [ab_cv]
-- locals
def ab_LR (ad : Nat → Nat) (n : Nat) (lsM : Array Slot) (ls : List Value) : Prop := lsM.size = n ∧ lv_wf lsM ∧ ∀ (i : Nat) (v : Value), ls[i]? = some v → v ≠ .null → lsM[i]? = some (.val (ab_cv ad v))
def ab_asc (ad : Nat → Nat) (ls : List Value) : List (Nat × Value) := (List.range ls.length).filterMap (fun i => match ls[i]? with
  | some v => if v = .null then none else some (i, ab_cv ad v)
  | none => none)
theorem ab_asc_mem {ad : Nat → Nat} {ls : List Value} {q : Nat × Value} : q ∈ ab_asc ad ls ↔ ∃ v, ls[q.1]? = some v ∧ v ≠ .null ∧ q.2 = ab_cv ad v := by
  obtain ⟨i, w⟩ := q
  simp only [ab_asc, List.mem_filterMap, List.mem_range]
  constructor
  · rintro ⟨j, hj, h⟩
    rw [List.getElem?_eq_getElem hj] at h
    dsimp only at h
    split at h
    · cases h
    · rename_i hn
      cases h
      exact ⟨_, List.getElem?_eq_getElem hj, hn, rfl⟩
  · rintro ⟨v, hv, hn, e⟩
    refine ⟨i, (List.getElem?_eq_some_iff.mp hv).1, ?_⟩
    rw [hv]
    simp [hn, e]
theorem ab_LR.has {ad : Nat → Nat} {n : Nat} {lsM : Array Slot} {ls : List Value} (h : ab_LR ad n lsM ls) : lv_has lsM n (ab_asc ad ls) := by
  refine ⟨h.1, h.2.1, ?_⟩
  rintro ⟨i, w⟩ hq
  obtain ⟨v, hv, hn, e⟩ := ab_asc_mem.mp hq
  dsimp only at hv e ⊢
  rw [e]
  exact h.2.2 i v hv hn
def ab_ok (ls : List Value) (i : Nat) : Bool := match i with
  | 0 => true
  | j + 1 => match ls[j]? with
    | some (.long _) => false
    | some (.double _) => false
    | _ => true
theorem ab_ok_spec {ls : List Value} {j : Nat} {v : Value} (h : ab_ok ls (j + 1) = true) (hv : ls[j]? = some v) : v.category = 1 := by
  simp only [ab_ok, hv] at h
  cases v <;> first | rfl | (simp at h)
theorem ab_st1 {ad : Nat → Nat} {n i : Nat} {ls : List Value} {v : Value} (ho : ab_ok ls i = true) {ls' : Array Slot}
    (h : lv_has ls' n ((i, ab_cv ad v) :: (ab_asc ad ls).filter (fun q => !(q.1 == i) && !(q.1 + 1 == i && q.2.category == 2)))) : ab_LR ad n ls' (ls.set i v) := by
  refine ⟨h.1, h.2.1, fun j w hj hw => ?_⟩
  rw [List.getElem?_set] at hj
  by_cases e : i = j
  · subst e
    rw [if_pos rfl] at hj
    split at hj
    · cases hj
      exact h.2.2 _ List.mem_cons_self
    · cases hj
  · rw [if_neg e] at hj
    refine h.2.2 (j, ab_cv ad w) (List.mem_cons_of_mem _ (List.mem_filter.mpr ⟨ab_asc_mem.mpr ⟨w, hj, hw, rfl⟩, ?_⟩))
    have e2 : ¬ j = i := fun q => e q.symm
    by_cases e3 : j + 1 = i
    · subst e3
      have := ab_ok_spec ho hj
      simp [ab_cat, this]
    · simp [e2, e3]
theorem ab_st2 {ad : Nat → Nat} {n i : Nat} {ls : List Value} {v : Value} (ho : ab_ok ls i = true) {ls' : Array Slot}
    (h : lv_has ls' n ((i, ab_cv ad v) :: (ab_asc ad ls).filter (fun q => !(q.1 == i) && (!(q.1 == i + 1) && !(q.1 + 1 == i && q.2.category == 2))))) : ab_LR ad n ls' ((ls.set i v).set (i + 1) .null) := by
  refine ⟨h.1, h.2.1, fun j w hj hw => ?_⟩
  rw [List.getElem?_set] at hj
  by_cases e0 : i + 1 = j
  · subst e0
    rw [if_pos rfl] at hj
    split at hj
    · cases hj
      exact absurd rfl hw
    · cases hj
  rw [if_neg e0, List.getElem?_set] at hj
  by_cases e : i = j
  · subst e
    rw [if_pos rfl] at hj
    split at hj
    · cases hj
      exact h.2.2 _ List.mem_cons_self
    · cases hj
  · rw [if_neg e] at hj
    refine h.2.2 (j, ab_cv ad w) (List.mem_cons_of_mem _ (List.mem_filter.mpr ⟨ab_asc_mem.mpr ⟨w, hj, hw, rfl⟩, ?_⟩))
    have e2 : ¬ j = i := fun q => e q.symm
    have e4 : ¬ j = i + 1 := fun q => e0 q.symm
    by_cases e3 : j + 1 = i
    · subst e3
      have := ab_ok_spec ho hj
      simp [ab_cat, this, e4]
    · simp [e2, e3, e4]
def ab_ent0 (vs : List Value) : List Value := vs.flatMap (fun v => if v.category = 2 then [v, .null] else [v])
def ab_ent (n : Nat) (vs : List Value) : List Value := ab_ent0 vs ++ List.replicate (n - (ab_ent0 vs).length) .null
theorem ab_ent_get (ad : Nat → Nat) : ∀ (vs : List Value) (pre : List Value) (preM : List Slot), pre.length = preM.length → (∀ (i : Nat) (v : Value), pre[i]? = some v → v ≠ .null → preM[i]? = some (.val (ab_cv ad v))) →
    ∀ (i : Nat) (v : Value), (pre ++ ab_ent0 vs)[i]? = some v → v ≠ .null → (preM ++ lg_sl (vs.map (ab_cv ad)))[i]? = some (.val (ab_cv ad v))
  | [], pre, preM, _, h, i, v, hi, hn => by
    simp only [ab_ent0, lg_sl, List.flatMap_nil, List.map_nil, List.append_nil] at hi ⊢
    exact h i v hi hn
  | a :: vs, pre, preM, hl, h, i, v, hi, hn => by
    by_cases hc : a.category = 2
    · have hi' : ((pre ++ [a, .null]) ++ ab_ent0 vs)[i]? = some v := by
        rw [List.append_assoc]; simpa [ab_ent0, hc] using hi
      have := ab_ent_get ad vs (pre ++ [a, .null]) (preM ++ [.val (ab_cv ad a), .second]) (by simp [hl]) (fun j w hj hw => by
        rcases Nat.lt_or_ge j pre.length with q | q
        · rw [List.getElem?_append_left q] at hj
          rw [List.getElem?_append_left (by omega)]
          exact h j w hj hw
        · rw [List.getElem?_append_right q] at hj
          rw [List.getElem?_append_right (by omega), ← hl]
          match h2 : j - pre.length, hj with
          | 0, hj => cases hj; rfl
          | 1, hj => cases hj; exact absurd rfl hw
          | k + 2, hj => simp at hj) i v hi' hn
      rw [List.append_assoc] at this
      simpa [lg_sl, ab_cat, hc] using this
    · have hi' : ((pre ++ [a]) ++ ab_ent0 vs)[i]? = some v := by
        rw [List.append_assoc]; simpa [ab_ent0, hc] using hi
      have := ab_ent_get ad vs (pre ++ [a]) (preM ++ [.val (ab_cv ad a)]) (by simp [hl]) (fun j w hj hw => by
        rcases Nat.lt_or_ge j pre.length with q | q
        · rw [List.getElem?_append_left q] at hj
          rw [List.getElem?_append_left (by omega)]
          exact h j w hj hw
        · rw [List.getElem?_append_right q] at hj
          rw [List.getElem?_append_right (by omega), ← hl]
          match h2 : j - pre.length, hj with
          | 0, hj => cases hj; rfl
          | k + 1, hj => simp at hj) i v hi' hn
      rw [List.append_assoc] at this
      simpa [lg_sl, ab_cat, hc] using this
theorem ab_entL (ad : Nat → Nat) (vs : List Value) : (lg_sl (vs.map (ab_cv ad))).length = (ab_ent0 vs).length := by
  induction vs with
  | nil => rfl
  | cons a vs ih =>
    simp only [lg_sl, ab_ent0, List.map_cons, List.flatMap_cons, List.length_append] at ih ⊢
    rw [ih, ab_cat]
    split <;> rfl
theorem ab_LR_ent (ad : Nat → Nat) (vs : List Value) {n : Nat} (h : (ab_ent0 vs).length ≤ n) :
    ab_LR ad n ((lg_sl (vs.map (ab_cv ad)) ++ List.replicate (n - (lg_sl (vs.map (ab_cv ad))).length) Slot.unset).toArray) (ab_ent n vs) := by
  obtain ⟨h1, h2, -⟩ := lv_entry (vs.map (ab_cv ad)) (n := n) (by rw [ab_entL]; exact h)
  refine ⟨h1, h2, fun i v hi hn => ?_⟩
  rw [List.getElem?_toArray]
  rcases Nat.lt_or_ge i (ab_ent0 vs).length with q | q
  · rw [ab_ent, List.getElem?_append_left q] at hi
    rw [List.getElem?_append_left (by rw [ab_entL]; exact q)]
    have := ab_ent_get ad vs [] [] rfl (fun i v h => by simp at h) i v (by simpa using hi) hn
    simpa using this
  · rw [ab_ent, List.getElem?_append_right q, List.getElem?_replicate] at hi
    split at hi
    · cases hi; exact absurd rfl hn
    · cases hi
-- machine contexts
def ab_rm (m : MI) : Room := { frames := m.2.2.2.2.1, cells := 0, slots := 0, locals := m.2.2.2.2.2 }
def ab_wm (m : MI) : List Cond := Cond.code m.1 m.2.1 m.2.2.1 m.2.2.2.1 :: wAll
def ab_nst (U : State) : Prop := ∀ w ∈ NST, va_Nw w U
def ab_CX (m : MI) (D : va_G) (cy : ClassId) (p : Program) (s : State) (mid : MethodId) (args : Array Value) (meth : Method) (c : Code) : Prop :=
  p.tables.exec = Jvm.exec ∧ c.code = m.2.1 ∧ meth.sig.returnType = m.2.2.2.1 ∧ c.maxLocals = m.2.2.1 ∧ s.vm.findClass m.1.cls = some mid.cls ∧ meth.locks = false ∧ (∀ w ∈ wAll, w.before args s = true) ∧ ab_nst s ∧ va_K D vwCl [(cy, .int)] s
def ab_Q (Sh : Shp) (D : va_G) (cy : ClassId) (ad : Nat → Nat) (Q : Pst) : Array Value → State → Outcome → State → Prop := fun _ st oc t =>
  (∃ (r : Option Value) (M' : Mm), oc = .returned (r.map (ab_cv ad)) ∧ Q r M' ∧ va_P D vwCl (ab_ws cy Sh ad M') t.heap ∧ va_D (ab_AD Sh ad) (ab_ws cy Sh ad M')) ∧ va_F (ab_AD Sh ad) st t
abbrev PT : Type := Shp → MI → Nat → List Value → List Value → Mm → Pst → Prop
def ab_W : PT := fun Sh m pc ls st M Q => ∀ (l : Launch) (p : Program) (e : Env) (s : State) (mid : MethodId) (args : Array Value) (below : List Frame) (meth : Method) (c : Code) (D : va_G) (cy : ClassId) (ad : Nat → Nat), ab_CX m D cy p s mid args meth c →
  ∀ (H : Heap) (locs : List Loc) (lsM : Array Slot), va_P D vwCl (ab_ws cy Sh ad M) H → va_D (ab_AD Sh ad) (ab_ws cy Sh ad M) → va_S (ab_AD Sh ad) s.heap H locs → ab_LR ad m.2.2.1 lsM ls →
  W p l e (ab_rm m) s mid args below meth c H locs 0 0 (MQ below (ab_Q Sh D cy ad Q) args s 0 0 (ab_AD Sh ad)) (F0 mid pc lsM (st.map (ab_cv ad)))
/-- a field's link: the instruction 'index' of the class 'own' names the slot j of the class number ci -/
def ab_FL (own : String) (index ci j : Nat) : Prop := ∃ (C : String) (T : u_T) (N : Nat) (ty0 : Nat → FieldType), vwCl[ci]? = some (C, T, N) ∧ j < N ∧ (∀ w ∈ u_ws C T N, w ∈ wAll) ∧ (∀ k, k < N → parseFieldDescriptor (T k).2.2.1 = some (ty0 k)) ∧ (∀ a, a < N → ∀ b, b < N → a ≠ b → (T a).2.1 ≠ (T b).2.1) ∧
  (Cond.fieldLink own index (T j).1 (T j).2.1 (T j).2.2.1 ∈ wAll ∨ ∃ host, Cond.fieldLinkNest own index (T j).1 (T j).2.1 (T j).2.2.1 host ∈ NST)
def ab_FI (ci j : Nat) : Prop := ∃ (C : String) (T : u_T) (N : Nat), vwCl[ci]? = some (C, T, N) ∧ (T j).2.2.2 = false ∧ parseFieldDescriptor (T j).2.2.1 = some .int
/-- a method that may be called -/
def ab_MO (m : MI) (n : Nat) : Prop := Cond.code m.1 m.2.1 m.2.2.1 m.2.2.2.1 ∈ wAll ∧ Cond.initialized m.1.cls ∈ wAll ∧ m.1.cls ≠ "java/lang/invoke/MethodHandle" ∧ m.1.cls ≠ "java/lang/invoke/VarHandle" ∧ (parseMethodDescriptor m.1.desc).map (fun d => d.parameters.length) = some n ∧ plainName m.1.cls = true
def ab_IM (m : MI) : Prop := Cond.instanceMethod m.1 ∈ wAll ∧ Cond.selects m.1.cls m.1 m.1 ∈ wAll
def ab_SM (m : MI) : Prop := Cond.static m.1 ∈ wAll
def ab_ML (own : String) (index : Nat) (m : MI) : Prop := Cond.methodLink own index m.1 ∈ wAll ∨ ∃ host, Cond.methodLinkNest own index m.1 host ∈ NST
def ab_RM (m m' : MI) : Bool := Nat.ble (m'.2.2.2.2.1 + 1) m.2.2.2.2.1 && Nat.ble (8 + (m'.2.2.1 + 11) + m'.2.2.2.2.2) m.2.2.2.2.2
def ab_obj (Sh : Shp) (k : Nat) (C : String) : Prop := ∃ (q : Nat × List (Option Nat)) (r : vw_C), Sh[k]? = some (.inr q) ∧ vwCl[q.1]? = some r ∧ r.1 = C

theorem ab_nst.same {u U : State} (h : u.vm = U.vm) (z : ab_nst u) : ab_nst U := fun w hw => va_Nw.same (NST_on w hw) h (z w hw)
theorem ab_nst.warm {s U : State} (hW : s.WarmedH U.vm) (z : ab_nst s) : ab_nst U := by
  intro w hw
  have h1 := NST_form w hw
  have h2 := z w hw
  cases w <;> first | exact va_Nw.warmF hW h2 | exact va_Nw.warmM hW h2 | (exact absurd h1 (by decide)) | (simp [NST_isn] at h1)
def ab_Pc (Sh : Shp) (D : va_G) (cy : ClassId) (ad : Nat → Nat) (M : Mm) (vs : List Value) : Array Value → State → Prop := va_Pc vs (fun U => va_P D vwCl (ab_ws cy Sh ad M) U.heap ∧ va_K D vwCl [(cy, .int)] U ∧ va_D (ab_AD Sh ad) (ab_ws cy Sh ad M) ∧ ab_nst U)
theorem ab_blind {Sh : Shp} {D : va_G} {cy : ClassId} {ad : Nat → Nat} {M : Mm} {vs : List Value} : FrameBlind (ab_Pc Sh D cy ad M vs) := fun a U g mk q => by
  obtain ⟨q0, qP, qK, qD, qN⟩ := q
  exact ⟨q0, qP, va_K.moved (u := U) (U := U.calling g mk a) (Vm.Alike.refl U.vm) qK, qD, ab_nst.same (u := U) (U := U.calling g mk a) rfl qN⟩
theorem ab_met {Sh : Shp} {m : MI} {vs : List Value} {M : Mm} {Q : Pst} (l : Launch) (D : va_G) (cy : ClassId) (ad : Nat → Nat) {np : Nat} (h : ab_W Sh m 0 (ab_ent m.2.2.1 vs) [] M Q) (hmo : ab_MO m np) (hle : (ab_ent0 vs).length ≤ m.2.2.1) :
    Met l m.1 (ab_wm m) (ab_rm m) (ab_Pc Sh D cy ad M (vs.map (ab_cv ad))) (ab_Q Sh D cy ad Q) 0 0 (ab_AD Sh ad) := by
  refine Met.ofW (cc := m.2.1) (maxL := m.2.2.1) (ret := m.2.2.2.1) hmo.2.2.2.2.2 rfl ?_
  intro p e s mid args below meth c s₁ B hml hv
  obtain ⟨rfl, hP, hK, hD, hN⟩ := hv
  have hts := atoms_spec (ws := ab_wm m) B.pre
  have hown : s.vm.findClass m.1.cls = some mid.cls := findClass_of_methodNamed B.named
  rw [lg_entry_eq]
  exact h l p e s mid _ below meth c D cy ad ⟨B.exec, B.bytes, B.returns, hml, hown, B.notSynchronized, fun w hw => hts w (List.mem_cons_of_mem _ hw), hN, hK⟩ s.heap [] _ hP hD va_S.rf (ab_LR_ent ad vs hle)
theorem ab_good : ∀ w ∈ wAll, w ∈ wAll ∧ ((w.onTables && w.keeps) = true ∨ ∃ ty, w = .arrayClass ty) := fun w h => ⟨h, (wAll_good h).2⟩
theorem ab_words {m m2 : MI} {D : va_G} {cy : ClassId} {p : Program} {s : State} {mid : MethodId} {args : Array Value} {meth : Method} {c : Code} {np : Nat} (cx : ab_CX m D cy p s mid args meth c) (hmo : ab_MO m2 np) :
    (∀ w ∈ ab_wm m2, ∀ (a' : Array Value) (U : State), s.WarmedH U.vm → w.before a' U = true) ∧ (∀ sig, parseMethodDescriptor m2.1.desc = some sig → np = sig.parameters.length) := by
  refine ⟨pay_in cx.2.2.2.2.2.2.1 (fun w hw => ?_), fun sig h => ?_⟩
  · rcases List.mem_cons.mp hw with rfl | hw
    · exact ab_good _ hmo.1
    · exact ab_good _ hw
  · have h2 := hmo.2.2.2.2.1
    rw [h] at h2
    exact (Option.some.inj h2).symm
theorem ab_prev {Sh : Shp} {m : MI} {M : Mm} {D : va_G} {cy : ClassId} {ad : Nat → Nat} {p : Program} {s : State} {mid : MethodId} {args : Array Value} {meth : Method} {c : Code} {H : Heap} {As : List Value} {k : Nat} {q : Nat × List (Option Nat)} {r0 : vw_C} (cx : ab_CX m D cy p s mid args meth c)
    (hP : va_P D vwCl (ab_ws cy Sh ad M) H) (hD : va_D (ab_AD Sh ad) (ab_ws cy Sh ad M)) (he : (ab_ws cy Sh ad M)[k]? = some (ad k, .inr (q.1, ab_flds ad (M k) q.2))) (hc : vwCl[q.1]? = some r0) :
    PreV s H r0.1 (ad k) (ab_Pc Sh D cy ad M (.ref (ad k) :: As)) As :=
  ⟨ab_blind, va_recv cx.2.2.2.2.2.2.2.2 hP hc he, fun U hU hW => ⟨rfl, by rw [hU]; exact hP, va_K.moved hW.alike cx.2.2.2.2.2.2.2.2, hD, ab_nst.warm hW cx.2.2.2.2.2.2.2.1⟩⟩
theorem ab_pres {Sh : Shp} {m : MI} {M : Mm} {D : va_G} {cy : ClassId} {ad : Nat → Nat} {p : Program} {s : State} {mid : MethodId} {args : Array Value} {meth : Method} {c : Code} {H : Heap} {As : List Value} (cx : ab_CX m D cy p s mid args meth c)
    (hP : va_P D vwCl (ab_ws cy Sh ad M) H) (hD : va_D (ab_AD Sh ad) (ab_ws cy Sh ad M)) : PreS s H (ab_Pc Sh D cy ad M As) As :=
  ⟨ab_blind, fun U hU hW => ⟨rfl, by rw [hU]; exact hP, va_K.moved hW.alike cx.2.2.2.2.2.2.2.2, hD, ab_nst.warm hW cx.2.2.2.2.2.2.2.1⟩⟩
theorem ab_callX {p : Program} {l : Launch} {e : Env} {R : Room} {s : State} {m : MethodId} {args : Array Value} {below : List Frame} {meth : Method} {c : Code} {H : Heap} {locs : List Loc} {QQ : State → Prop} {Sh : Shp} {D : va_G} {cy : ClassId} {ad : Nat → Nat} {Q2 : Pst} {pc : Nat} {lsM : Array Slot} {st0 : List Value} {rest : List Value} {a : Array Value} {H0 : Heap}
    (hr : va_Run p l e R s m args below meth c H locs 0 0 0 0 (F0 m pc lsM st0) (rest.map (ab_cv ad)) (ab_Q Sh D cy ad Q2 a) (ab_AD Sh ad)) (hS : va_S (ab_AD Sh ad) H0 H locs)
    (kk : ∀ (r : Option Value) (M2 : Mm) (H1 : Heap) (locs1 : List Loc), Q2 r M2 → va_P D vwCl (ab_ws cy Sh ad M2) H1 → va_D (ab_AD Sh ad) (ab_ws cy Sh ad M2) → va_S (ab_AD Sh ad) H0 H1 locs1 → W p l e R s m args below meth c H1 locs1 0 0 QQ (F0 m (pc + 3) lsM ((r.toList ++ rest).map (ab_cv ad)))) :
    W p l e R s m args below meth c H locs 0 0 QQ (F0 m pc lsM st0) := by
  intro T hT X
  obtain ⟨v, st₀, t, T', L, h0, X', hL, e1, e2, ⟨⟨r, M2, hv, hq, hP, hD⟩, hz, hk⟩, st⟩ := hr T hT X
  have hv2 : v = r.map (ab_cv ad) := by injection hv
  subst hv2
  rw [h0] at hz hk
  rw [← e1] at hP
  obtain ⟨t2, a1, b1⟩ := kk r M2 T'.heap (locs ++ L) hq hP hD
    ⟨Nat.le_trans hS.1 (by rw [e1]; exact hz), fun q h1 h2 => by rw [e1, hk q (Nat.lt_of_lt_of_le h1 hS.1) h2]; exact hS.2.1 q h1 h2, fun q hq => by
      rcases List.mem_append.mp hq with h | h
      · exact hS.2.2 q h
      · exact hL q h⟩ T' rfl X'
  refine ⟨t2, st t2 ?_, b1⟩
  have es : (r.map (ab_cv ad)).toList ++ rest.map (ab_cv ad) = (r.toList ++ rest).map (ab_cv ad) := by cases r <;> simp
  rw [es]
  exact a1

def Rl_iadd (P : PT) : Prop := ∀ (Sh : Shp) (m : MI) (pc n : Nat) (ls st : List Value) (M : Mm) (Q : Pst) (x y : Int32), decode m.2.1 pc = .ok (.iadd, 1) → pc + 1 = n → (P Sh m (n) ls (.int (x + y) :: st) M Q) → P Sh m pc ls (.int y :: .int x :: st) M Q
def Rl_isub (P : PT) : Prop := ∀ (Sh : Shp) (m : MI) (pc n : Nat) (ls st : List Value) (M : Mm) (Q : Pst) (x y : Int32), decode m.2.1 pc = .ok (.isub, 1) → pc + 1 = n → (P Sh m (n) ls (.int (x - y) :: st) M Q) → P Sh m pc ls (.int y :: .int x :: st) M Q
def Rl_imul (P : PT) : Prop := ∀ (Sh : Shp) (m : MI) (pc n : Nat) (ls st : List Value) (M : Mm) (Q : Pst) (x y : Int32), decode m.2.1 pc = .ok (.imul, 1) → pc + 1 = n → (P Sh m (n) ls (.int (x * y) :: st) M Q) → P Sh m pc ls (.int y :: .int x :: st) M Q
def Rl_iand (P : PT) : Prop := ∀ (Sh : Shp) (m : MI) (pc n : Nat) (ls st : List Value) (M : Mm) (Q : Pst) (x y : Int32), decode m.2.1 pc = .ok (.iand, 1) → pc + 1 = n → (P Sh m (n) ls (.int (x &&& y) :: st) M Q) → P Sh m pc ls (.int y :: .int x :: st) M Q
def Rl_ior (P : PT) : Prop := ∀ (Sh : Shp) (m : MI) (pc n : Nat) (ls st : List Value) (M : Mm) (Q : Pst) (x y : Int32), decode m.2.1 pc = .ok (.ior, 1) → pc + 1 = n → (P Sh m (n) ls (.int (x ||| y) :: st) M Q) → P Sh m pc ls (.int y :: .int x :: st) M Q
def Rl_ixor (P : PT) : Prop := ∀ (Sh : Shp) (m : MI) (pc n : Nat) (ls st : List Value) (M : Mm) (Q : Pst) (x y : Int32), decode m.2.1 pc = .ok (.ixor, 1) → pc + 1 = n → (P Sh m (n) ls (.int (x ^^^ y) :: st) M Q) → P Sh m pc ls (.int y :: .int x :: st) M Q
def Rl_ishl (P : PT) : Prop := ∀ (Sh : Shp) (m : MI) (pc n : Nat) (ls st : List Value) (M : Mm) (Q : Pst) (x y : Int32), decode m.2.1 pc = .ok (.ishl, 1) → pc + 1 = n → (P Sh m (n) ls (.int (x <<< (y &&& 31)) :: st) M Q) → P Sh m pc ls (.int y :: .int x :: st) M Q
def Rl_ishr (P : PT) : Prop := ∀ (Sh : Shp) (m : MI) (pc n : Nat) (ls st : List Value) (M : Mm) (Q : Pst) (x y : Int32), decode m.2.1 pc = .ok (.ishr, 1) → pc + 1 = n → (P Sh m (n) ls (.int (x >>> (y &&& 31)) :: st) M Q) → P Sh m pc ls (.int y :: .int x :: st) M Q
def Rl_iushr (P : PT) : Prop := ∀ (Sh : Shp) (m : MI) (pc n : Nat) (ls st : List Value) (M : Mm) (Q : Pst) (x y : Int32), decode m.2.1 pc = .ok (.iushr, 1) → pc + 1 = n → (P Sh m (n) ls (.int ((x.toUInt32 >>> (y.toUInt32 &&& Int32.toUInt32 31)).toInt32) :: st) M Q) → P Sh m pc ls (.int y :: .int x :: st) M Q
def Rl_idiv (P : PT) : Prop := ∀ (Sh : Shp) (m : MI) (pc n : Nat) (ls st : List Value) (M : Mm) (Q : Pst) (x y : Int32), decode m.2.1 pc = .ok (.idiv, 1) → ¬ y = 0 → pc + 1 = n → (P Sh m (n) ls (.int (x / y) :: st) M Q) → P Sh m pc ls (.int y :: .int x :: st) M Q
def Rl_irem (P : PT) : Prop := ∀ (Sh : Shp) (m : MI) (pc n : Nat) (ls st : List Value) (M : Mm) (Q : Pst) (x y : Int32), decode m.2.1 pc = .ok (.irem, 1) → ¬ y = 0 → pc + 1 = n → (P Sh m (n) ls (.int (x - x / y * y) :: st) M Q) → P Sh m pc ls (.int y :: .int x :: st) M Q
def Rl_ladd (P : PT) : Prop := ∀ (Sh : Shp) (m : MI) (pc n : Nat) (ls st : List Value) (M : Mm) (Q : Pst) (x y : Int64), decode m.2.1 pc = .ok (.ladd, 1) → pc + 1 = n → (P Sh m (n) ls (.long (x + y) :: st) M Q) → P Sh m pc ls (.long y :: .long x :: st) M Q
def Rl_lmul (P : PT) : Prop := ∀ (Sh : Shp) (m : MI) (pc n : Nat) (ls st : List Value) (M : Mm) (Q : Pst) (x y : Int64), decode m.2.1 pc = .ok (.lmul, 1) → pc + 1 = n → (P Sh m (n) ls (.long (x * y) :: st) M Q) → P Sh m pc ls (.long y :: .long x :: st) M Q
def Rl_ldiv (P : PT) : Prop := ∀ (Sh : Shp) (m : MI) (pc n : Nat) (ls st : List Value) (M : Mm) (Q : Pst) (x y : Int64), decode m.2.1 pc = .ok (.ldiv, 1) → ¬ y = 0 → pc + 1 = n → (P Sh m (n) ls (.long (x / y) :: st) M Q) → P Sh m pc ls (.long y :: .long x :: st) M Q
def Rl_lcmp (P : PT) : Prop := ∀ (Sh : Shp) (m : MI) (pc n : Nat) (ls st : List Value) (M : Mm) (Q : Pst) (x y : Int64), decode m.2.1 pc = .ok (.lcmp, 1) → pc + 1 = n → (P Sh m (n) ls (.int (lg_cmp x y) :: st) M Q) → P Sh m pc ls (.long y :: .long x :: st) M Q
def Rl_i2l (P : PT) : Prop := ∀ (Sh : Shp) (m : MI) (pc n : Nat) (ls st : List Value) (M : Mm) (Q : Pst) (x : Int32), decode m.2.1 pc = .ok (.i2l, 1) → pc + 1 = n → (P Sh m (n) ls (.long x.toInt64 :: st) M Q) → P Sh m pc ls (.int x :: st) M Q
def Rl_l2i (P : PT) : Prop := ∀ (Sh : Shp) (m : MI) (pc n : Nat) (ls st : List Value) (M : Mm) (Q : Pst) (x : Int64), decode m.2.1 pc = .ok (.l2i, 1) → pc + 1 = n → (P Sh m (n) ls (.int x.toInt32 :: st) M Q) → P Sh m pc ls (.long x :: st) M Q
def Rl_dup (P : PT) : Prop := ∀ (Sh : Shp) (m : MI) (pc n : Nat) (ls st : List Value) (M : Mm) (Q : Pst) (v : Value), decode m.2.1 pc = .ok (.dup, 1) → v.category = 1 → pc + 1 = n → (P Sh m (n) ls (v :: v :: st) M Q) → P Sh m pc ls (v :: st) M Q
def Rl_pop (P : PT) : Prop := ∀ (Sh : Shp) (m : MI) (pc n : Nat) (ls st : List Value) (M : Mm) (Q : Pst) (v : Value), decode m.2.1 pc = .ok (.pop, 1) → v.category = 1 → pc + 1 = n → (P Sh m (n) ls st M Q) → P Sh m pc ls (v :: st) M Q
def Rl_dup2 (P : PT) : Prop := ∀ (Sh : Shp) (m : MI) (pc n : Nat) (ls st : List Value) (M : Mm) (Q : Pst) (v u : Value), decode m.2.1 pc = .ok (.dup2, 1) → v.category = 1 → u.category = 1 → pc + 1 = n → (P Sh m (n) ls (v :: u :: v :: u :: st) M Q) → P Sh m pc ls (v :: u :: st) M Q
def Rl_iconst (P : PT) : Prop := ∀ (Sh : Shp) (m : MI) (pc n : Nat) (ls st : List Value) (M : Mm) (Q : Pst) (z : Int) (v : Int32), decode m.2.1 pc = .ok (.iconst z, 1) → Int32.ofInt z = v → pc + 1 = n → (P Sh m (n) ls (.int v :: st) M Q) → P Sh m pc ls st M Q
def Rl_bipush (P : PT) : Prop := ∀ (Sh : Shp) (m : MI) (pc n : Nat) (ls st : List Value) (M : Mm) (Q : Pst) (z : Int) (v : Int32), decode m.2.1 pc = .ok (.bipush z, 2) → (Int8.ofInt z).toInt32 = v → pc + 2 = n → (P Sh m (n) ls (.int v :: st) M Q) → P Sh m pc ls st M Q
def Rl_sipush (P : PT) : Prop := ∀ (Sh : Shp) (m : MI) (pc n : Nat) (ls st : List Value) (M : Mm) (Q : Pst) (z : Int) (v : Int32), decode m.2.1 pc = .ok (.sipush z, 3) → (Int16.ofInt z).toInt32 = v → pc + 3 = n → (P Sh m (n) ls (.int v :: st) M Q) → P Sh m pc ls st M Q
def Rl_lconst (P : PT) : Prop := ∀ (Sh : Shp) (m : MI) (pc n : Nat) (ls st : List Value) (M : Mm) (Q : Pst) (z : Fin 2) (v : Int64), decode m.2.1 pc = .ok (.lconst z, 1) → Int64.ofNat (z : Nat) = v → pc + 1 = n → (P Sh m (n) ls (.long v :: st) M Q) → P Sh m pc ls st M Q
def Rl_ldc (P : PT) : Prop := ∀ (Sh : Shp) (m : MI) (pc n : Nat) (ls st : List Value) (M : Mm) (Q : Pst) (i : Nat) (v : Int32), decode m.2.1 pc = .ok (.ldc i, 2) → Cond.constant m.1.cls i v ∈ wAll → pc + 2 = n → (P Sh m (n) ls (.int v :: st) M Q) → P Sh m pc ls st M Q
def Rl_ldcw (P : PT) : Prop := ∀ (Sh : Shp) (m : MI) (pc n : Nat) (ls st : List Value) (M : Mm) (Q : Pst) (i : Nat) (v : Int32), decode m.2.1 pc = .ok (.ldc_w i, 3) → Cond.constant m.1.cls i v ∈ wAll → pc + 3 = n → (P Sh m (n) ls (.int v :: st) M Q) → P Sh m pc ls st M Q
def Rl_ldc2 (P : PT) : Prop := ∀ (Sh : Shp) (m : MI) (pc n : Nat) (ls st : List Value) (M : Mm) (Q : Pst) (i : Nat) (v : Int64), decode m.2.1 pc = .ok (.ldc2_w i, 3) → Cond.constantLong m.1.cls i v ∈ wAll → pc + 3 = n → (P Sh m (n) ls (.long v :: st) M Q) → P Sh m pc ls st M Q
def Rl_iload_n (P : PT) : Prop := ∀ (Sh : Shp) (m : MI) (pc n : Nat) (ls st : List Value) (M : Mm) (Q : Pst) (z : Fin 4) (x : Int32), decode m.2.1 pc = .ok (.iload_n z, 1) → ls[(z : Nat)]? = some (.int x) → pc + 1 = n → (P Sh m (n) ls (.int x :: st) M Q) → P Sh m pc ls st M Q
def Rl_iload (P : PT) : Prop := ∀ (Sh : Shp) (m : MI) (pc n : Nat) (ls st : List Value) (M : Mm) (Q : Pst) (z : Nat) (x : Int32), decode m.2.1 pc = .ok (.iload z, 2) → ls[z]? = some (.int x) → pc + 2 = n → (P Sh m (n) ls (.int x :: st) M Q) → P Sh m pc ls st M Q
def Rl_lload_n (P : PT) : Prop := ∀ (Sh : Shp) (m : MI) (pc n : Nat) (ls st : List Value) (M : Mm) (Q : Pst) (z : Fin 4) (x : Int64), decode m.2.1 pc = .ok (.lload_n z, 1) → ls[(z : Nat)]? = some (.long x) → pc + 1 = n → (P Sh m (n) ls (.long x :: st) M Q) → P Sh m pc ls st M Q
def Rl_lload (P : PT) : Prop := ∀ (Sh : Shp) (m : MI) (pc n : Nat) (ls st : List Value) (M : Mm) (Q : Pst) (z : Nat) (x : Int64), decode m.2.1 pc = .ok (.lload z, 2) → ls[z]? = some (.long x) → pc + 2 = n → (P Sh m (n) ls (.long x :: st) M Q) → P Sh m pc ls st M Q
def Rl_aload_n (P : PT) : Prop := ∀ (Sh : Shp) (m : MI) (pc n : Nat) (ls st : List Value) (M : Mm) (Q : Pst) (z : Fin 4) (x : Nat), decode m.2.1 pc = .ok (.aload_n z, 1) → ls[(z : Nat)]? = some (.ref x) → pc + 1 = n → (P Sh m (n) ls (.ref x :: st) M Q) → P Sh m pc ls st M Q
def Rl_istore_n (P : PT) : Prop := ∀ (Sh : Shp) (m : MI) (pc n : Nat) (ls st : List Value) (M : Mm) (Q : Pst) (ls2 : List Value) (z : Fin 4) (x : Int32), decode m.2.1 pc = .ok (.istore_n z, 1) → (z : Nat) < m.2.2.1 → ab_ok ls (z : Nat) = true → (ls.set (z : Nat) (.int x)) = ls2 → pc + 1 = n → (P Sh m (n) ls2 st M Q) → P Sh m pc ls ((.int x) :: st) M Q
def Rl_istore (P : PT) : Prop := ∀ (Sh : Shp) (m : MI) (pc n : Nat) (ls st : List Value) (M : Mm) (Q : Pst) (ls2 : List Value) (z : Nat) (x : Int32), decode m.2.1 pc = .ok (.istore z, 2) → z < m.2.2.1 → ab_ok ls z = true → (ls.set z (.int x)) = ls2 → pc + 2 = n → (P Sh m (n) ls2 st M Q) → P Sh m pc ls ((.int x) :: st) M Q
def Rl_lstore_n (P : PT) : Prop := ∀ (Sh : Shp) (m : MI) (pc n : Nat) (ls st : List Value) (M : Mm) (Q : Pst) (ls2 : List Value) (z : Fin 4) (x : Int64), decode m.2.1 pc = .ok (.lstore_n z, 1) → (z : Nat) + 1 < m.2.2.1 → ab_ok ls (z : Nat) = true → ((ls.set (z : Nat) (.long x)).set ((z : Nat) + 1) .null) = ls2 → pc + 1 = n → (P Sh m (n) ls2 st M Q) → P Sh m pc ls ((.long x) :: st) M Q
def Rl_lstore (P : PT) : Prop := ∀ (Sh : Shp) (m : MI) (pc n : Nat) (ls st : List Value) (M : Mm) (Q : Pst) (ls2 : List Value) (z : Nat) (x : Int64), decode m.2.1 pc = .ok (.lstore z, 2) → z + 1 < m.2.2.1 → ab_ok ls z = true → ((ls.set z (.long x)).set (z + 1) .null) = ls2 → pc + 2 = n → (P Sh m (n) ls2 st M Q) → P Sh m pc ls ((.long x) :: st) M Q
def Rl_iinc (P : PT) : Prop := ∀ (Sh : Shp) (m : MI) (pc n : Nat) (ls st : List Value) (M : Mm) (Q : Pst) (ls2 : List Value) (z : Nat) (d : Int) (x v : Int32), decode m.2.1 pc = .ok (.iinc z d, 3) → ls[z]? = some (.int x) → x + Int32.ofInt d = v → z < m.2.2.1 → ab_ok ls z = true → ls.set z (.int v) = ls2 → pc + 3 = n → (P Sh m (n) ls2 st M Q) → P Sh m pc ls st M Q
def Rl_if_eq (P : PT) : Prop := ∀ (Sh : Shp) (m : MI) (pc n : Nat) (ls st : List Value) (M : Mm) (Q : Pst) (t : Nat) (x : Int32) (off : Int), decode m.2.1 pc = .ok (.ifCond .eq off, 3) → (pc : Int) + off = (t : Int) → pc + 3 = n → (x = 0 → P Sh m (t) ls st M Q) → (¬ x = 0 → P Sh m (n) ls st M Q) → P Sh m pc ls (.int x :: st) M Q
def Rl_if_ne (P : PT) : Prop := ∀ (Sh : Shp) (m : MI) (pc n : Nat) (ls st : List Value) (M : Mm) (Q : Pst) (t : Nat) (x : Int32) (off : Int), decode m.2.1 pc = .ok (.ifCond .ne off, 3) → (pc : Int) + off = (t : Int) → pc + 3 = n → (¬ x = 0 → P Sh m (t) ls st M Q) → (x = 0 → P Sh m (n) ls st M Q) → P Sh m pc ls (.int x :: st) M Q
def Rl_if_lt (P : PT) : Prop := ∀ (Sh : Shp) (m : MI) (pc n : Nat) (ls st : List Value) (M : Mm) (Q : Pst) (t : Nat) (x : Int32) (off : Int), decode m.2.1 pc = .ok (.ifCond .lt off, 3) → (pc : Int) + off = (t : Int) → pc + 3 = n → (x < 0 → P Sh m (t) ls st M Q) → (¬ x < 0 → P Sh m (n) ls st M Q) → P Sh m pc ls (.int x :: st) M Q
def Rl_if_ge (P : PT) : Prop := ∀ (Sh : Shp) (m : MI) (pc n : Nat) (ls st : List Value) (M : Mm) (Q : Pst) (t : Nat) (x : Int32) (off : Int), decode m.2.1 pc = .ok (.ifCond .ge off, 3) → (pc : Int) + off = (t : Int) → pc + 3 = n → (0 ≤ x → P Sh m (t) ls st M Q) → (¬ 0 ≤ x → P Sh m (n) ls st M Q) → P Sh m pc ls (.int x :: st) M Q
def Rl_if_gt (P : PT) : Prop := ∀ (Sh : Shp) (m : MI) (pc n : Nat) (ls st : List Value) (M : Mm) (Q : Pst) (t : Nat) (x : Int32) (off : Int), decode m.2.1 pc = .ok (.ifCond .gt off, 3) → (pc : Int) + off = (t : Int) → pc + 3 = n → (0 < x → P Sh m (t) ls st M Q) → (¬ 0 < x → P Sh m (n) ls st M Q) → P Sh m pc ls (.int x :: st) M Q
def Rl_if_le (P : PT) : Prop := ∀ (Sh : Shp) (m : MI) (pc n : Nat) (ls st : List Value) (M : Mm) (Q : Pst) (t : Nat) (x : Int32) (off : Int), decode m.2.1 pc = .ok (.ifCond .le off, 3) → (pc : Int) + off = (t : Int) → pc + 3 = n → (x ≤ 0 → P Sh m (t) ls st M Q) → (¬ x ≤ 0 → P Sh m (n) ls st M Q) → P Sh m pc ls (.int x :: st) M Q
def Rl_icmp_eq (P : PT) : Prop := ∀ (Sh : Shp) (m : MI) (pc n : Nat) (ls st : List Value) (M : Mm) (Q : Pst) (t : Nat) (x y : Int32) (off : Int), decode m.2.1 pc = .ok (.if_icmp .eq off, 3) → (pc : Int) + off = (t : Int) → pc + 3 = n → (x = y → P Sh m (t) ls st M Q) → (¬ x = y → P Sh m (n) ls st M Q) → P Sh m pc ls (.int y :: .int x :: st) M Q
def Rl_icmp_ne (P : PT) : Prop := ∀ (Sh : Shp) (m : MI) (pc n : Nat) (ls st : List Value) (M : Mm) (Q : Pst) (t : Nat) (x y : Int32) (off : Int), decode m.2.1 pc = .ok (.if_icmp .ne off, 3) → (pc : Int) + off = (t : Int) → pc + 3 = n → (¬ x = y → P Sh m (t) ls st M Q) → (x = y → P Sh m (n) ls st M Q) → P Sh m pc ls (.int y :: .int x :: st) M Q
def Rl_icmp_lt (P : PT) : Prop := ∀ (Sh : Shp) (m : MI) (pc n : Nat) (ls st : List Value) (M : Mm) (Q : Pst) (t : Nat) (x y : Int32) (off : Int), decode m.2.1 pc = .ok (.if_icmp .lt off, 3) → (pc : Int) + off = (t : Int) → pc + 3 = n → (x < y → P Sh m (t) ls st M Q) → (¬ x < y → P Sh m (n) ls st M Q) → P Sh m pc ls (.int y :: .int x :: st) M Q
def Rl_icmp_ge (P : PT) : Prop := ∀ (Sh : Shp) (m : MI) (pc n : Nat) (ls st : List Value) (M : Mm) (Q : Pst) (t : Nat) (x y : Int32) (off : Int), decode m.2.1 pc = .ok (.if_icmp .ge off, 3) → (pc : Int) + off = (t : Int) → pc + 3 = n → (y ≤ x → P Sh m (t) ls st M Q) → (¬ y ≤ x → P Sh m (n) ls st M Q) → P Sh m pc ls (.int y :: .int x :: st) M Q
def Rl_icmp_gt (P : PT) : Prop := ∀ (Sh : Shp) (m : MI) (pc n : Nat) (ls st : List Value) (M : Mm) (Q : Pst) (t : Nat) (x y : Int32) (off : Int), decode m.2.1 pc = .ok (.if_icmp .gt off, 3) → (pc : Int) + off = (t : Int) → pc + 3 = n → (y < x → P Sh m (t) ls st M Q) → (¬ y < x → P Sh m (n) ls st M Q) → P Sh m pc ls (.int y :: .int x :: st) M Q
def Rl_icmp_le (P : PT) : Prop := ∀ (Sh : Shp) (m : MI) (pc n : Nat) (ls st : List Value) (M : Mm) (Q : Pst) (t : Nat) (x y : Int32) (off : Int), decode m.2.1 pc = .ok (.if_icmp .le off, 3) → (pc : Int) + off = (t : Int) → pc + 3 = n → (x ≤ y → P Sh m (t) ls st M Q) → (¬ x ≤ y → P Sh m (n) ls st M Q) → P Sh m pc ls (.int y :: .int x :: st) M Q
def Rl_goto (P : PT) : Prop := ∀ (Sh : Shp) (m : MI) (pc t : Nat) (ls st : List Value) (M : Mm) (Q : Pst) (off : Int), decode m.2.1 pc = .ok (.goto off, 3) → (pc : Int) + off = (t : Int) → (P Sh m (t) ls st M Q) → P Sh m pc ls st M Q
def Rl_tabOut (P : PT) : Prop := ∀ (Sh : Shp) (m : MI) (pc t : Nat) (ls st : List Value) (M : Mm) (Q : Pst) (df lo hi : Int) (offs : Array Int) (len : Nat) (x : Int32), decode m.2.1 pc = .ok (.tableswitch df lo hi offs, len) → x.toInt < lo ∨ hi < x.toInt → (pc : Int) + df = (t : Int) → (P Sh m (t) ls st M Q) → P Sh m pc ls (.int x :: st) M Q
def Rl_tabIn (P : PT) : Prop := ∀ (Sh : Shp) (m : MI) (pc t : Nat) (ls st : List Value) (M : Mm) (Q : Pst) (df lo hi : Int) (offs : Array Int) (len : Nat) (x : Int32) (off : Int), decode m.2.1 pc = .ok (.tableswitch df lo hi offs, len) → ¬ x.toInt < lo → ¬ hi < x.toInt → offs[(x.toInt - lo).toNat]? = some off → (pc : Int) + off = (t : Int) → (P Sh m (t) ls st M Q) → P Sh m pc ls (.int x :: st) M Q
def Rl_getI (P : PT) : Prop := ∀ (Sh : Shp) (m : MI) (pc n : Nat) (ls st : List Value) (M : Mm) (Q : Pst) (i k j : Nat) (q : Nat × List (Option Nat)), decode m.2.1 pc = .ok (.getfield i, 3) → Sh[k]? = some (.inr q) → ab_FL m.1.cls i q.1 j → q.2[j]? = some none → pc + 3 = n → (P Sh m (n) ls (.int (M k j) :: st) M Q) → P Sh m pc ls (.ref k :: st) M Q
def Rl_getR (P : PT) : Prop := ∀ (Sh : Shp) (m : MI) (pc n : Nat) (ls st : List Value) (M : Mm) (Q : Pst) (i k j r : Nat) (q : Nat × List (Option Nat)), decode m.2.1 pc = .ok (.getfield i, 3) → Sh[k]? = some (.inr q) → ab_FL m.1.cls i q.1 j → q.2[j]? = some (some r) → pc + 3 = n → (P Sh m (n) ls (.ref r :: st) M Q) → P Sh m pc ls (.ref k :: st) M Q
def Rl_putI (P : PT) : Prop := ∀ (Sh : Shp) (m : MI) (pc n : Nat) (ls st : List Value) (M : Mm) (Q : Pst) (i k j : Nat) (q : Nat × List (Option Nat)) (x : Int32), decode m.2.1 pc = .ok (.putfield i, 3) → Sh[k]? = some (.inr q) → ab_FL m.1.cls i q.1 j → ab_FI q.1 j → q.2[j]? = some none → pc + 3 = n → (P Sh m (n) ls st (mst M k j x) Q) → P Sh m pc ls (.int x :: .ref k :: st) M Q
def Rl_iald (P : PT) : Prop := ∀ (Sh : Shp) (m : MI) (pc n : Nat) (ls st : List Value) (M : Mm) (Q : Pst) (k N : Nat) (i : Int32), decode m.2.1 pc = .ok (.iaload, 1) → Sh[k]? = some (.inl N) → vp_in i N → pc + 1 = n → (P Sh m (n) ls (.int (M k i.toNatClampNeg) :: st) M Q) → P Sh m pc ls (.int i :: .ref k :: st) M Q
def Rl_iast (P : PT) : Prop := ∀ (Sh : Shp) (m : MI) (pc n : Nat) (ls st : List Value) (M : Mm) (Q : Pst) (k N : Nat) (i x : Int32), decode m.2.1 pc = .ok (.iastore, 1) → Sh[k]? = some (.inl N) → vp_in i N → pc + 1 = n → (P Sh m (n) ls st (mst M k i.toNatClampNeg x) Q) → P Sh m pc ls (.int x :: .int i :: .ref k :: st) M Q
def Rl_iret (P : PT) : Prop := ∀ (Sh : Shp) (m : MI) (pc : Nat) (ls : List Value) (M : Mm) (Q : Pst) (v : Int32), decode m.2.1 pc = .ok (.ireturn, 1) → m.2.2.2.1 = some .int → Q (some (.int v)) M → P Sh m pc ls [.int v] M Q
def Rl_zret (P : PT) : Prop := ∀ (Sh : Shp) (m : MI) (pc : Nat) (ls : List Value) (M : Mm) (Q : Pst) (v : Int32), decode m.2.1 pc = .ok (.ireturn, 1) → m.2.2.2.1 = some .boolean → v = 0 ∨ v = 1 → Q (some (.int v)) M → P Sh m pc ls [.int v] M Q
def Rl_lret (P : PT) : Prop := ∀ (Sh : Shp) (m : MI) (pc : Nat) (ls : List Value) (M : Mm) (Q : Pst) (v : Int64), decode m.2.1 pc = .ok (.lreturn, 1) → m.2.2.2.1 = some .long → Q (some (.long v)) M → P Sh m pc ls [.long v] M Q
def Rl_vret (P : PT) : Prop := ∀ (Sh : Shp) (m : MI) (pc : Nat) (ls : List Value) (M : Mm) (Q : Pst), decode m.2.1 pc = .ok (.return_, 1) → m.2.2.2.1 = none → Q none M → P Sh m pc ls [] M Q
def Rl_callV (P : PT) : Prop := ∀ (Sh : Shp) (m m2 : MI) (pc n : Nat) (ls st as rest : List Value) (M : Mm) (Q Q2 : Pst) (i np : Nat) (k : Nat), decode m.2.1 pc = .ok (.invokevirtual i, 3) → ab_ML m.1.cls i m2 → ab_MO m2 np → ab_RM m m2 = true → ab_IM m2 → ab_obj Sh k m2.1.cls → st = as.reverse ++ .ref k :: rest → as.length = np → (ab_ent0 (.ref k :: as)).length ≤ m2.2.2.1 → (rest.map fun v => v.category).sum ≤ 8 → pc + 3 = n → (P Sh m2 0 (ab_ent m2.2.2.1 (.ref k :: as)) [] M Q2) → (∀ (r : Option Value) (M2 : Mm), Q2 r M2 → P Sh m n ls (r.toList ++ rest) M2 Q) → P Sh m pc ls st M Q
def Rl_callS (P : PT) : Prop := ∀ (Sh : Shp) (m m2 : MI) (pc n : Nat) (ls st as rest : List Value) (M : Mm) (Q Q2 : Pst) (i np : Nat), decode m.2.1 pc = .ok (.invokestatic i, 3) → ab_ML m.1.cls i m2 → ab_MO m2 np → ab_RM m m2 = true → ab_SM m2 → st = as.reverse ++ rest → as.length = np → (ab_ent0 as).length ≤ m2.2.2.1 → (rest.map fun v => v.category).sum ≤ 8 → pc + 3 = n → (P Sh m2 0 (ab_ent m2.2.2.1 as) [] M Q2) → (∀ (r : Option Value) (M2 : Mm), Q2 r M2 → P Sh m n ls (r.toList ++ rest) M2 Q) → P Sh m pc ls st M Q
def Rl_imax (P : PT) : Prop := ∀ (Sh : Shp) (m : MI) (pc n : Nat) (ls st : List Value) (M : Mm) (Q : Pst) (i : Nat) (x y : Int32), decode m.2.1 pc = .ok (.invokestatic i, 3) → Cond.methodLink m.1.cls i Lib.Math.max.name ∈ wAll → Cond.static Lib.Math.max.name ∈ wAll → Cond.initialized "java/lang/Math" ∈ wAll → Cond.code Lib.Math.max.name Lib.Math.max.code 2 (some .int) ∈ wAll → 1 ≤ m.2.2.2.2.1 → (st.map fun v => v.category).sum + 13 ≤ m.2.2.2.2.2 → pc + 3 = n → (P Sh m (n) ls (.int (if x < y then y else x) :: st) M Q) → P Sh m pc ls (.int y :: .int x :: st) M Q
def Rl_imin (P : PT) : Prop := ∀ (Sh : Shp) (m : MI) (pc n : Nat) (ls st : List Value) (M : Mm) (Q : Pst) (i : Nat) (x y : Int32), decode m.2.1 pc = .ok (.invokestatic i, 3) → Cond.methodLink m.1.cls i Lib.Math.min.name ∈ wAll → Cond.static Lib.Math.min.name ∈ wAll → Cond.initialized "java/lang/Math" ∈ wAll → Cond.code Lib.Math.min.name Lib.Math.min.code 2 (some .int) ∈ wAll → 1 ≤ m.2.2.2.2.1 → (st.map fun v => v.category).sum + 13 ≤ m.2.2.2.2.2 → pc + 3 = n → (P Sh m (n) ls (.int (if y < x then y else x) :: st) M Q) → P Sh m pc ls (.int y :: .int x :: st) M Q
def Rls (P : PT) : Prop := Rl_iadd P ∧ Rl_isub P ∧ Rl_imul P ∧ Rl_iand P ∧ Rl_ior P ∧ Rl_ixor P ∧ Rl_ishl P ∧ Rl_ishr P ∧ Rl_iushr P ∧ Rl_idiv P ∧ Rl_irem P ∧ Rl_ladd P ∧ Rl_lmul P ∧ Rl_ldiv P ∧ Rl_lcmp P ∧ Rl_i2l P ∧ Rl_l2i P ∧ Rl_dup P ∧ Rl_pop P ∧ Rl_dup2 P ∧ Rl_iconst P ∧ Rl_bipush P ∧ Rl_sipush P ∧ Rl_lconst P ∧ Rl_ldc P ∧ Rl_ldcw P ∧ Rl_ldc2 P ∧ Rl_iload_n P ∧ Rl_iload P ∧ Rl_lload_n P ∧ Rl_lload P ∧ Rl_aload_n P ∧ Rl_istore_n P ∧ Rl_istore P ∧ Rl_lstore_n P ∧ Rl_lstore P ∧ Rl_iinc P ∧ Rl_if_eq P ∧ Rl_if_ne P ∧ Rl_if_lt P ∧ Rl_if_ge P ∧ Rl_if_gt P ∧ Rl_if_le P ∧ Rl_icmp_eq P ∧ Rl_icmp_ne P ∧ Rl_icmp_lt P ∧ Rl_icmp_ge P ∧ Rl_icmp_gt P ∧ Rl_icmp_le P ∧ Rl_goto P ∧ Rl_tabOut P ∧ Rl_tabIn P ∧ Rl_getI P ∧ Rl_getR P ∧ Rl_putI P ∧ Rl_iald P ∧ Rl_iast P ∧ Rl_iret P ∧ Rl_zret P ∧ Rl_lret P ∧ Rl_vret P ∧ Rl_callV P ∧ Rl_callS P ∧ Rl_imax P ∧ Rl_imin P
def Ev : PT := fun Sh m pc ls st M Q => ∀ P : PT, Rls P → P Sh m pc ls st M Q
theorem ev_iadd {Sh : Shp} {m : MI} {pc : Nat} {ls st : List Value} {M : Mm} {Q : Pst} {x y : Int32} (n : Nat) (hd : decode m.2.1 pc = .ok (.iadd, 1)) (hn : pc + 1 = n) (k : Ev Sh m (n) ls (.int (x + y) :: st) M Q) : Ev Sh m pc ls (.int y :: .int x :: st) M Q := fun P h => h.1 Sh m pc n ls st M Q x y hd hn (k P h)
theorem ev_isub {Sh : Shp} {m : MI} {pc : Nat} {ls st : List Value} {M : Mm} {Q : Pst} {x y : Int32} (n : Nat) (hd : decode m.2.1 pc = .ok (.isub, 1)) (hn : pc + 1 = n) (k : Ev Sh m (n) ls (.int (x - y) :: st) M Q) : Ev Sh m pc ls (.int y :: .int x :: st) M Q := fun P h => h.2.1 Sh m pc n ls st M Q x y hd hn (k P h)
theorem ev_imul {Sh : Shp} {m : MI} {pc : Nat} {ls st : List Value} {M : Mm} {Q : Pst} {x y : Int32} (n : Nat) (hd : decode m.2.1 pc = .ok (.imul, 1)) (hn : pc + 1 = n) (k : Ev Sh m (n) ls (.int (x * y) :: st) M Q) : Ev Sh m pc ls (.int y :: .int x :: st) M Q := fun P h => h.2.2.1 Sh m pc n ls st M Q x y hd hn (k P h)
theorem ev_iand {Sh : Shp} {m : MI} {pc : Nat} {ls st : List Value} {M : Mm} {Q : Pst} {x y : Int32} (n : Nat) (hd : decode m.2.1 pc = .ok (.iand, 1)) (hn : pc + 1 = n) (k : Ev Sh m (n) ls (.int (x &&& y) :: st) M Q) : Ev Sh m pc ls (.int y :: .int x :: st) M Q := fun P h => h.2.2.2.1 Sh m pc n ls st M Q x y hd hn (k P h)
theorem ev_ior {Sh : Shp} {m : MI} {pc : Nat} {ls st : List Value} {M : Mm} {Q : Pst} {x y : Int32} (n : Nat) (hd : decode m.2.1 pc = .ok (.ior, 1)) (hn : pc + 1 = n) (k : Ev Sh m (n) ls (.int (x ||| y) :: st) M Q) : Ev Sh m pc ls (.int y :: .int x :: st) M Q := fun P h => h.2.2.2.2.1 Sh m pc n ls st M Q x y hd hn (k P h)
theorem ev_ixor {Sh : Shp} {m : MI} {pc : Nat} {ls st : List Value} {M : Mm} {Q : Pst} {x y : Int32} (n : Nat) (hd : decode m.2.1 pc = .ok (.ixor, 1)) (hn : pc + 1 = n) (k : Ev Sh m (n) ls (.int (x ^^^ y) :: st) M Q) : Ev Sh m pc ls (.int y :: .int x :: st) M Q := fun P h => h.2.2.2.2.2.1 Sh m pc n ls st M Q x y hd hn (k P h)
theorem ev_ishl {Sh : Shp} {m : MI} {pc : Nat} {ls st : List Value} {M : Mm} {Q : Pst} {x y : Int32} (n : Nat) (hd : decode m.2.1 pc = .ok (.ishl, 1)) (hn : pc + 1 = n) (k : Ev Sh m (n) ls (.int (x <<< (y &&& 31)) :: st) M Q) : Ev Sh m pc ls (.int y :: .int x :: st) M Q := fun P h => h.2.2.2.2.2.2.1 Sh m pc n ls st M Q x y hd hn (k P h)
theorem ev_ishr {Sh : Shp} {m : MI} {pc : Nat} {ls st : List Value} {M : Mm} {Q : Pst} {x y : Int32} (n : Nat) (hd : decode m.2.1 pc = .ok (.ishr, 1)) (hn : pc + 1 = n) (k : Ev Sh m (n) ls (.int (x >>> (y &&& 31)) :: st) M Q) : Ev Sh m pc ls (.int y :: .int x :: st) M Q := fun P h => h.2.2.2.2.2.2.2.1 Sh m pc n ls st M Q x y hd hn (k P h)
theorem ev_iushr {Sh : Shp} {m : MI} {pc : Nat} {ls st : List Value} {M : Mm} {Q : Pst} {x y : Int32} (n : Nat) (hd : decode m.2.1 pc = .ok (.iushr, 1)) (hn : pc + 1 = n) (k : Ev Sh m (n) ls (.int ((x.toUInt32 >>> (y.toUInt32 &&& Int32.toUInt32 31)).toInt32) :: st) M Q) : Ev Sh m pc ls (.int y :: .int x :: st) M Q := fun P h => h.2.2.2.2.2.2.2.2.1 Sh m pc n ls st M Q x y hd hn (k P h)
theorem ev_idiv {Sh : Shp} {m : MI} {pc : Nat} {ls st : List Value} {M : Mm} {Q : Pst} {x y : Int32} (n : Nat) (hd : decode m.2.1 pc = .ok (.idiv, 1)) (hz : ¬ y = 0) (hn : pc + 1 = n) (k : Ev Sh m (n) ls (.int (x / y) :: st) M Q) : Ev Sh m pc ls (.int y :: .int x :: st) M Q := fun P h => h.2.2.2.2.2.2.2.2.2.1 Sh m pc n ls st M Q x y hd hz hn (k P h)
theorem ev_irem {Sh : Shp} {m : MI} {pc : Nat} {ls st : List Value} {M : Mm} {Q : Pst} {x y : Int32} (n : Nat) (hd : decode m.2.1 pc = .ok (.irem, 1)) (hz : ¬ y = 0) (hn : pc + 1 = n) (k : Ev Sh m (n) ls (.int (x - x / y * y) :: st) M Q) : Ev Sh m pc ls (.int y :: .int x :: st) M Q := fun P h => h.2.2.2.2.2.2.2.2.2.2.1 Sh m pc n ls st M Q x y hd hz hn (k P h)
theorem ev_ladd {Sh : Shp} {m : MI} {pc : Nat} {ls st : List Value} {M : Mm} {Q : Pst} {x y : Int64} (n : Nat) (hd : decode m.2.1 pc = .ok (.ladd, 1)) (hn : pc + 1 = n) (k : Ev Sh m (n) ls (.long (x + y) :: st) M Q) : Ev Sh m pc ls (.long y :: .long x :: st) M Q := fun P h => h.2.2.2.2.2.2.2.2.2.2.2.1 Sh m pc n ls st M Q x y hd hn (k P h)
theorem ev_lmul {Sh : Shp} {m : MI} {pc : Nat} {ls st : List Value} {M : Mm} {Q : Pst} {x y : Int64} (n : Nat) (hd : decode m.2.1 pc = .ok (.lmul, 1)) (hn : pc + 1 = n) (k : Ev Sh m (n) ls (.long (x * y) :: st) M Q) : Ev Sh m pc ls (.long y :: .long x :: st) M Q := fun P h => h.2.2.2.2.2.2.2.2.2.2.2.2.1 Sh m pc n ls st M Q x y hd hn (k P h)
theorem ev_ldiv {Sh : Shp} {m : MI} {pc : Nat} {ls st : List Value} {M : Mm} {Q : Pst} {x y : Int64} (n : Nat) (hd : decode m.2.1 pc = .ok (.ldiv, 1)) (hz : ¬ y = 0) (hn : pc + 1 = n) (k : Ev Sh m (n) ls (.long (x / y) :: st) M Q) : Ev Sh m pc ls (.long y :: .long x :: st) M Q := fun P h => h.2.2.2.2.2.2.2.2.2.2.2.2.2.1 Sh m pc n ls st M Q x y hd hz hn (k P h)
theorem ev_lcmp {Sh : Shp} {m : MI} {pc : Nat} {ls st : List Value} {M : Mm} {Q : Pst} {x y : Int64} (n : Nat) (hd : decode m.2.1 pc = .ok (.lcmp, 1)) (hn : pc + 1 = n) (k : Ev Sh m (n) ls (.int (lg_cmp x y) :: st) M Q) : Ev Sh m pc ls (.long y :: .long x :: st) M Q := fun P h => h.2.2.2.2.2.2.2.2.2.2.2.2.2.2.1 Sh m pc n ls st M Q x y hd hn (k P h)
theorem ev_i2l {Sh : Shp} {m : MI} {pc : Nat} {ls st : List Value} {M : Mm} {Q : Pst} {x : Int32} (n : Nat) (hd : decode m.2.1 pc = .ok (.i2l, 1)) (hn : pc + 1 = n) (k : Ev Sh m (n) ls (.long x.toInt64 :: st) M Q) : Ev Sh m pc ls (.int x :: st) M Q := fun P h => h.2.2.2.2.2.2.2.2.2.2.2.2.2.2.2.1 Sh m pc n ls st M Q x hd hn (k P h)
theorem ev_l2i {Sh : Shp} {m : MI} {pc : Nat} {ls st : List Value} {M : Mm} {Q : Pst} {x : Int64} (n : Nat) (hd : decode m.2.1 pc = .ok (.l2i, 1)) (hn : pc + 1 = n) (k : Ev Sh m (n) ls (.int x.toInt32 :: st) M Q) : Ev Sh m pc ls (.long x :: st) M Q := fun P h => h.2.2.2.2.2.2.2.2.2.2.2.2.2.2.2.2.1 Sh m pc n ls st M Q x hd hn (k P h)
theorem ev_dup {Sh : Shp} {m : MI} {pc : Nat} {ls st : List Value} {M : Mm} {Q : Pst} {v : Value} (n : Nat) (hd : decode m.2.1 pc = .ok (.dup, 1)) (hc : v.category = 1) (hn : pc + 1 = n) (k : Ev Sh m (n) ls (v :: v :: st) M Q) : Ev Sh m pc ls (v :: st) M Q := fun P h => h.2.2.2.2.2.2.2.2.2.2.2.2.2.2.2.2.2.1 Sh m pc n ls st M Q v hd hc hn (k P h)
theorem ev_pop {Sh : Shp} {m : MI} {pc : Nat} {ls st : List Value} {M : Mm} {Q : Pst} {v : Value} (n : Nat) (hd : decode m.2.1 pc = .ok (.pop, 1)) (hc : v.category = 1) (hn : pc + 1 = n) (k : Ev Sh m (n) ls st M Q) : Ev Sh m pc ls (v :: st) M Q := fun P h => h.2.2.2.2.2.2.2.2.2.2.2.2.2.2.2.2.2.2.1 Sh m pc n ls st M Q v hd hc hn (k P h)
theorem ev_dup2 {Sh : Shp} {m : MI} {pc : Nat} {ls st : List Value} {M : Mm} {Q : Pst} {v u : Value} (n : Nat) (hd : decode m.2.1 pc = .ok (.dup2, 1)) (hc : v.category = 1) (hc2 : u.category = 1) (hn : pc + 1 = n) (k : Ev Sh m (n) ls (v :: u :: v :: u :: st) M Q) : Ev Sh m pc ls (v :: u :: st) M Q := fun P h => h.2.2.2.2.2.2.2.2.2.2.2.2.2.2.2.2.2.2.2.1 Sh m pc n ls st M Q v u hd hc hc2 hn (k P h)
theorem ev_iconst {Sh : Shp} {m : MI} {pc : Nat} {ls st : List Value} {M : Mm} {Q : Pst} {z : Int}  (n : Nat) (v : Int32) (hd : decode m.2.1 pc = .ok (.iconst z, 1)) (hv : Int32.ofInt z = v) (hn : pc + 1 = n) (k : Ev Sh m (n) ls (.int v :: st) M Q) : Ev Sh m pc ls st M Q := fun P h => h.2.2.2.2.2.2.2.2.2.2.2.2.2.2.2.2.2.2.2.2.1 Sh m pc n ls st M Q z v hd hv hn (k P h)
theorem ev_bipush {Sh : Shp} {m : MI} {pc : Nat} {ls st : List Value} {M : Mm} {Q : Pst} {z : Int}  (n : Nat) (v : Int32) (hd : decode m.2.1 pc = .ok (.bipush z, 2)) (hv : (Int8.ofInt z).toInt32 = v) (hn : pc + 2 = n) (k : Ev Sh m (n) ls (.int v :: st) M Q) : Ev Sh m pc ls st M Q := fun P h => h.2.2.2.2.2.2.2.2.2.2.2.2.2.2.2.2.2.2.2.2.2.1 Sh m pc n ls st M Q z v hd hv hn (k P h)
theorem ev_sipush {Sh : Shp} {m : MI} {pc : Nat} {ls st : List Value} {M : Mm} {Q : Pst} {z : Int}  (n : Nat) (v : Int32) (hd : decode m.2.1 pc = .ok (.sipush z, 3)) (hv : (Int16.ofInt z).toInt32 = v) (hn : pc + 3 = n) (k : Ev Sh m (n) ls (.int v :: st) M Q) : Ev Sh m pc ls st M Q := fun P h => h.2.2.2.2.2.2.2.2.2.2.2.2.2.2.2.2.2.2.2.2.2.2.1 Sh m pc n ls st M Q z v hd hv hn (k P h)
theorem ev_lconst {Sh : Shp} {m : MI} {pc : Nat} {ls st : List Value} {M : Mm} {Q : Pst} {z : Fin 2}  (n : Nat) (v : Int64) (hd : decode m.2.1 pc = .ok (.lconst z, 1)) (hv : Int64.ofNat (z : Nat) = v) (hn : pc + 1 = n) (k : Ev Sh m (n) ls (.long v :: st) M Q) : Ev Sh m pc ls st M Q := fun P h => h.2.2.2.2.2.2.2.2.2.2.2.2.2.2.2.2.2.2.2.2.2.2.2.1 Sh m pc n ls st M Q z v hd hv hn (k P h)
theorem ev_ldc {Sh : Shp} {m : MI} {pc : Nat} {ls st : List Value} {M : Mm} {Q : Pst} {i : Nat}  (n : Nat) (v : Int32) (hd : decode m.2.1 pc = .ok (.ldc i, 2)) (hv : Cond.constant m.1.cls i v ∈ wAll) (hn : pc + 2 = n) (k : Ev Sh m (n) ls (.int v :: st) M Q) : Ev Sh m pc ls st M Q := fun P h => h.2.2.2.2.2.2.2.2.2.2.2.2.2.2.2.2.2.2.2.2.2.2.2.2.1 Sh m pc n ls st M Q i v hd hv hn (k P h)
theorem ev_ldcw {Sh : Shp} {m : MI} {pc : Nat} {ls st : List Value} {M : Mm} {Q : Pst} {i : Nat}  (n : Nat) (v : Int32) (hd : decode m.2.1 pc = .ok (.ldc_w i, 3)) (hv : Cond.constant m.1.cls i v ∈ wAll) (hn : pc + 3 = n) (k : Ev Sh m (n) ls (.int v :: st) M Q) : Ev Sh m pc ls st M Q := fun P h => h.2.2.2.2.2.2.2.2.2.2.2.2.2.2.2.2.2.2.2.2.2.2.2.2.2.1 Sh m pc n ls st M Q i v hd hv hn (k P h)
theorem ev_ldc2 {Sh : Shp} {m : MI} {pc : Nat} {ls st : List Value} {M : Mm} {Q : Pst} {i : Nat}  (n : Nat) (v : Int64) (hd : decode m.2.1 pc = .ok (.ldc2_w i, 3)) (hv : Cond.constantLong m.1.cls i v ∈ wAll) (hn : pc + 3 = n) (k : Ev Sh m (n) ls (.long v :: st) M Q) : Ev Sh m pc ls st M Q := fun P h => h.2.2.2.2.2.2.2.2.2.2.2.2.2.2.2.2.2.2.2.2.2.2.2.2.2.2.1 Sh m pc n ls st M Q i v hd hv hn (k P h)
theorem ev_iload_n {Sh : Shp} {m : MI} {pc : Nat} {ls st : List Value} {M : Mm} {Q : Pst} {z : Fin 4} {x : Int32} (n : Nat) (hd : decode m.2.1 pc = .ok (.iload_n z, 1)) (hv : ls[(z : Nat)]? = some (.int x)) (hn : pc + 1 = n) (k : Ev Sh m (n) ls (.int x :: st) M Q) : Ev Sh m pc ls st M Q := fun P h => h.2.2.2.2.2.2.2.2.2.2.2.2.2.2.2.2.2.2.2.2.2.2.2.2.2.2.2.1 Sh m pc n ls st M Q z x hd hv hn (k P h)
theorem ev_iload {Sh : Shp} {m : MI} {pc : Nat} {ls st : List Value} {M : Mm} {Q : Pst} {z : Nat} {x : Int32} (n : Nat) (hd : decode m.2.1 pc = .ok (.iload z, 2)) (hv : ls[z]? = some (.int x)) (hn : pc + 2 = n) (k : Ev Sh m (n) ls (.int x :: st) M Q) : Ev Sh m pc ls st M Q := fun P h => h.2.2.2.2.2.2.2.2.2.2.2.2.2.2.2.2.2.2.2.2.2.2.2.2.2.2.2.2.1 Sh m pc n ls st M Q z x hd hv hn (k P h)
theorem ev_lload_n {Sh : Shp} {m : MI} {pc : Nat} {ls st : List Value} {M : Mm} {Q : Pst} {z : Fin 4} {x : Int64} (n : Nat) (hd : decode m.2.1 pc = .ok (.lload_n z, 1)) (hv : ls[(z : Nat)]? = some (.long x)) (hn : pc + 1 = n) (k : Ev Sh m (n) ls (.long x :: st) M Q) : Ev Sh m pc ls st M Q := fun P h => h.2.2.2.2.2.2.2.2.2.2.2.2.2.2.2.2.2.2.2.2.2.2.2.2.2.2.2.2.2.1 Sh m pc n ls st M Q z x hd hv hn (k P h)
theorem ev_lload {Sh : Shp} {m : MI} {pc : Nat} {ls st : List Value} {M : Mm} {Q : Pst} {z : Nat} {x : Int64} (n : Nat) (hd : decode m.2.1 pc = .ok (.lload z, 2)) (hv : ls[z]? = some (.long x)) (hn : pc + 2 = n) (k : Ev Sh m (n) ls (.long x :: st) M Q) : Ev Sh m pc ls st M Q := fun P h => h.2.2.2.2.2.2.2.2.2.2.2.2.2.2.2.2.2.2.2.2.2.2.2.2.2.2.2.2.2.2.1 Sh m pc n ls st M Q z x hd hv hn (k P h)
theorem ev_aload_n {Sh : Shp} {m : MI} {pc : Nat} {ls st : List Value} {M : Mm} {Q : Pst} {z : Fin 4} {x : Nat} (n : Nat) (hd : decode m.2.1 pc = .ok (.aload_n z, 1)) (hv : ls[(z : Nat)]? = some (.ref x)) (hn : pc + 1 = n) (k : Ev Sh m (n) ls (.ref x :: st) M Q) : Ev Sh m pc ls st M Q := fun P h => h.2.2.2.2.2.2.2.2.2.2.2.2.2.2.2.2.2.2.2.2.2.2.2.2.2.2.2.2.2.2.2.1 Sh m pc n ls st M Q z x hd hv hn (k P h)
theorem ev_istore_n {Sh : Shp} {m : MI} {pc : Nat} {ls st : List Value} {M : Mm} {Q : Pst}  {z : Fin 4} {x : Int32} (n : Nat) (ls2 : List Value) (hd : decode m.2.1 pc = .ok (.istore_n z, 1)) (hi : (z : Nat) < m.2.2.1) (ho : ab_ok ls (z : Nat) = true) (hl : (ls.set (z : Nat) (.int x)) = ls2) (hn : pc + 1 = n) (k : Ev Sh m (n) ls2 st M Q) : Ev Sh m pc ls ((.int x) :: st) M Q := fun P h => h.2.2.2.2.2.2.2.2.2.2.2.2.2.2.2.2.2.2.2.2.2.2.2.2.2.2.2.2.2.2.2.2.1 Sh m pc n ls st M Q ls2 z x hd hi ho hl hn (k P h)
theorem ev_istore {Sh : Shp} {m : MI} {pc : Nat} {ls st : List Value} {M : Mm} {Q : Pst}  {z : Nat} {x : Int32} (n : Nat) (ls2 : List Value) (hd : decode m.2.1 pc = .ok (.istore z, 2)) (hi : z < m.2.2.1) (ho : ab_ok ls z = true) (hl : (ls.set z (.int x)) = ls2) (hn : pc + 2 = n) (k : Ev Sh m (n) ls2 st M Q) : Ev Sh m pc ls ((.int x) :: st) M Q := fun P h => h.2.2.2.2.2.2.2.2.2.2.2.2.2.2.2.2.2.2.2.2.2.2.2.2.2.2.2.2.2.2.2.2.2.1 Sh m pc n ls st M Q ls2 z x hd hi ho hl hn (k P h)
theorem ev_lstore_n {Sh : Shp} {m : MI} {pc : Nat} {ls st : List Value} {M : Mm} {Q : Pst}  {z : Fin 4} {x : Int64} (n : Nat) (ls2 : List Value) (hd : decode m.2.1 pc = .ok (.lstore_n z, 1)) (hi : (z : Nat) + 1 < m.2.2.1) (ho : ab_ok ls (z : Nat) = true) (hl : ((ls.set (z : Nat) (.long x)).set ((z : Nat) + 1) .null) = ls2) (hn : pc + 1 = n) (k : Ev Sh m (n) ls2 st M Q) : Ev Sh m pc ls ((.long x) :: st) M Q := fun P h => h.2.2.2.2.2.2.2.2.2.2.2.2.2.2.2.2.2.2.2.2.2.2.2.2.2.2.2.2.2.2.2.2.2.2.1 Sh m pc n ls st M Q ls2 z x hd hi ho hl hn (k P h)
theorem ev_lstore {Sh : Shp} {m : MI} {pc : Nat} {ls st : List Value} {M : Mm} {Q : Pst}  {z : Nat} {x : Int64} (n : Nat) (ls2 : List Value) (hd : decode m.2.1 pc = .ok (.lstore z, 2)) (hi : z + 1 < m.2.2.1) (ho : ab_ok ls z = true) (hl : ((ls.set z (.long x)).set (z + 1) .null) = ls2) (hn : pc + 2 = n) (k : Ev Sh m (n) ls2 st M Q) : Ev Sh m pc ls ((.long x) :: st) M Q := fun P h => h.2.2.2.2.2.2.2.2.2.2.2.2.2.2.2.2.2.2.2.2.2.2.2.2.2.2.2.2.2.2.2.2.2.2.2.1 Sh m pc n ls st M Q ls2 z x hd hi ho hl hn (k P h)
theorem ev_iinc {Sh : Shp} {m : MI} {pc : Nat} {ls st : List Value} {M : Mm} {Q : Pst}  {z : Nat} {d : Int} {x : Int32} (n : Nat) (ls2 : List Value) (v : Int32) (hd : decode m.2.1 pc = .ok (.iinc z d, 3)) (hx : ls[z]? = some (.int x)) (hv : x + Int32.ofInt d = v) (hi : z < m.2.2.1) (ho : ab_ok ls z = true) (hl : ls.set z (.int v) = ls2) (hn : pc + 3 = n) (k : Ev Sh m (n) ls2 st M Q) : Ev Sh m pc ls st M Q := fun P h => h.2.2.2.2.2.2.2.2.2.2.2.2.2.2.2.2.2.2.2.2.2.2.2.2.2.2.2.2.2.2.2.2.2.2.2.2.1 Sh m pc n ls st M Q ls2 z d x v hd hx hv hi ho hl hn (k P h)
theorem ev_if_eq {Sh : Shp} {m : MI} {pc : Nat} {ls st : List Value} {M : Mm} {Q : Pst}  {x : Int32} {off : Int} (n : Nat) (t : Nat) (hd : decode m.2.1 pc = .ok (.ifCond .eq off, 3)) (ht : (pc : Int) + off = (t : Int)) (hn : pc + 3 = n) (k1 : x = 0 → Ev Sh m (t) ls st M Q) (k2 : ¬ x = 0 → Ev Sh m (n) ls st M Q) : Ev Sh m pc ls (.int x :: st) M Q := fun P h => h.2.2.2.2.2.2.2.2.2.2.2.2.2.2.2.2.2.2.2.2.2.2.2.2.2.2.2.2.2.2.2.2.2.2.2.2.2.1 Sh m pc n ls st M Q t x off hd ht hn (fun q => k1 q P h) (fun q => k2 q P h)
theorem ev_if_ne {Sh : Shp} {m : MI} {pc : Nat} {ls st : List Value} {M : Mm} {Q : Pst}  {x : Int32} {off : Int} (n : Nat) (t : Nat) (hd : decode m.2.1 pc = .ok (.ifCond .ne off, 3)) (ht : (pc : Int) + off = (t : Int)) (hn : pc + 3 = n) (k1 : ¬ x = 0 → Ev Sh m (t) ls st M Q) (k2 : x = 0 → Ev Sh m (n) ls st M Q) : Ev Sh m pc ls (.int x :: st) M Q := fun P h => h.2.2.2.2.2.2.2.2.2.2.2.2.2.2.2.2.2.2.2.2.2.2.2.2.2.2.2.2.2.2.2.2.2.2.2.2.2.2.1 Sh m pc n ls st M Q t x off hd ht hn (fun q => k1 q P h) (fun q => k2 q P h)
theorem ev_if_lt {Sh : Shp} {m : MI} {pc : Nat} {ls st : List Value} {M : Mm} {Q : Pst}  {x : Int32} {off : Int} (n : Nat) (t : Nat) (hd : decode m.2.1 pc = .ok (.ifCond .lt off, 3)) (ht : (pc : Int) + off = (t : Int)) (hn : pc + 3 = n) (k1 : x < 0 → Ev Sh m (t) ls st M Q) (k2 : ¬ x < 0 → Ev Sh m (n) ls st M Q) : Ev Sh m pc ls (.int x :: st) M Q := fun P h => h.2.2.2.2.2.2.2.2.2.2.2.2.2.2.2.2.2.2.2.2.2.2.2.2.2.2.2.2.2.2.2.2.2.2.2.2.2.2.2.1 Sh m pc n ls st M Q t x off hd ht hn (fun q => k1 q P h) (fun q => k2 q P h)
theorem ev_if_ge {Sh : Shp} {m : MI} {pc : Nat} {ls st : List Value} {M : Mm} {Q : Pst}  {x : Int32} {off : Int} (n : Nat) (t : Nat) (hd : decode m.2.1 pc = .ok (.ifCond .ge off, 3)) (ht : (pc : Int) + off = (t : Int)) (hn : pc + 3 = n) (k1 : 0 ≤ x → Ev Sh m (t) ls st M Q) (k2 : ¬ 0 ≤ x → Ev Sh m (n) ls st M Q) : Ev Sh m pc ls (.int x :: st) M Q := fun P h => h.2.2.2.2.2.2.2.2.2.2.2.2.2.2.2.2.2.2.2.2.2.2.2.2.2.2.2.2.2.2.2.2.2.2.2.2.2.2.2.2.1 Sh m pc n ls st M Q t x off hd ht hn (fun q => k1 q P h) (fun q => k2 q P h)
theorem ev_if_gt {Sh : Shp} {m : MI} {pc : Nat} {ls st : List Value} {M : Mm} {Q : Pst}  {x : Int32} {off : Int} (n : Nat) (t : Nat) (hd : decode m.2.1 pc = .ok (.ifCond .gt off, 3)) (ht : (pc : Int) + off = (t : Int)) (hn : pc + 3 = n) (k1 : 0 < x → Ev Sh m (t) ls st M Q) (k2 : ¬ 0 < x → Ev Sh m (n) ls st M Q) : Ev Sh m pc ls (.int x :: st) M Q := fun P h => h.2.2.2.2.2.2.2.2.2.2.2.2.2.2.2.2.2.2.2.2.2.2.2.2.2.2.2.2.2.2.2.2.2.2.2.2.2.2.2.2.2.1 Sh m pc n ls st M Q t x off hd ht hn (fun q => k1 q P h) (fun q => k2 q P h)
theorem ev_if_le {Sh : Shp} {m : MI} {pc : Nat} {ls st : List Value} {M : Mm} {Q : Pst}  {x : Int32} {off : Int} (n : Nat) (t : Nat) (hd : decode m.2.1 pc = .ok (.ifCond .le off, 3)) (ht : (pc : Int) + off = (t : Int)) (hn : pc + 3 = n) (k1 : x ≤ 0 → Ev Sh m (t) ls st M Q) (k2 : ¬ x ≤ 0 → Ev Sh m (n) ls st M Q) : Ev Sh m pc ls (.int x :: st) M Q := fun P h => h.2.2.2.2.2.2.2.2.2.2.2.2.2.2.2.2.2.2.2.2.2.2.2.2.2.2.2.2.2.2.2.2.2.2.2.2.2.2.2.2.2.2.1 Sh m pc n ls st M Q t x off hd ht hn (fun q => k1 q P h) (fun q => k2 q P h)
theorem ev_icmp_eq {Sh : Shp} {m : MI} {pc : Nat} {ls st : List Value} {M : Mm} {Q : Pst}  {x y : Int32} {off : Int} (n : Nat) (t : Nat) (hd : decode m.2.1 pc = .ok (.if_icmp .eq off, 3)) (ht : (pc : Int) + off = (t : Int)) (hn : pc + 3 = n) (k1 : x = y → Ev Sh m (t) ls st M Q) (k2 : ¬ x = y → Ev Sh m (n) ls st M Q) : Ev Sh m pc ls (.int y :: .int x :: st) M Q := fun P h => h.2.2.2.2.2.2.2.2.2.2.2.2.2.2.2.2.2.2.2.2.2.2.2.2.2.2.2.2.2.2.2.2.2.2.2.2.2.2.2.2.2.2.2.1 Sh m pc n ls st M Q t x y off hd ht hn (fun q => k1 q P h) (fun q => k2 q P h)
theorem ev_icmp_ne {Sh : Shp} {m : MI} {pc : Nat} {ls st : List Value} {M : Mm} {Q : Pst}  {x y : Int32} {off : Int} (n : Nat) (t : Nat) (hd : decode m.2.1 pc = .ok (.if_icmp .ne off, 3)) (ht : (pc : Int) + off = (t : Int)) (hn : pc + 3 = n) (k1 : ¬ x = y → Ev Sh m (t) ls st M Q) (k2 : x = y → Ev Sh m (n) ls st M Q) : Ev Sh m pc ls (.int y :: .int x :: st) M Q := fun P h => h.2.2.2.2.2.2.2.2.2.2.2.2.2.2.2.2.2.2.2.2.2.2.2.2.2.2.2.2.2.2.2.2.2.2.2.2.2.2.2.2.2.2.2.2.1 Sh m pc n ls st M Q t x y off hd ht hn (fun q => k1 q P h) (fun q => k2 q P h)
theorem ev_icmp_lt {Sh : Shp} {m : MI} {pc : Nat} {ls st : List Value} {M : Mm} {Q : Pst}  {x y : Int32} {off : Int} (n : Nat) (t : Nat) (hd : decode m.2.1 pc = .ok (.if_icmp .lt off, 3)) (ht : (pc : Int) + off = (t : Int)) (hn : pc + 3 = n) (k1 : x < y → Ev Sh m (t) ls st M Q) (k2 : ¬ x < y → Ev Sh m (n) ls st M Q) : Ev Sh m pc ls (.int y :: .int x :: st) M Q := fun P h => h.2.2.2.2.2.2.2.2.2.2.2.2.2.2.2.2.2.2.2.2.2.2.2.2.2.2.2.2.2.2.2.2.2.2.2.2.2.2.2.2.2.2.2.2.2.1 Sh m pc n ls st M Q t x y off hd ht hn (fun q => k1 q P h) (fun q => k2 q P h)
theorem ev_icmp_ge {Sh : Shp} {m : MI} {pc : Nat} {ls st : List Value} {M : Mm} {Q : Pst}  {x y : Int32} {off : Int} (n : Nat) (t : Nat) (hd : decode m.2.1 pc = .ok (.if_icmp .ge off, 3)) (ht : (pc : Int) + off = (t : Int)) (hn : pc + 3 = n) (k1 : y ≤ x → Ev Sh m (t) ls st M Q) (k2 : ¬ y ≤ x → Ev Sh m (n) ls st M Q) : Ev Sh m pc ls (.int y :: .int x :: st) M Q := fun P h => h.2.2.2.2.2.2.2.2.2.2.2.2.2.2.2.2.2.2.2.2.2.2.2.2.2.2.2.2.2.2.2.2.2.2.2.2.2.2.2.2.2.2.2.2.2.2.1 Sh m pc n ls st M Q t x y off hd ht hn (fun q => k1 q P h) (fun q => k2 q P h)
theorem ev_icmp_gt {Sh : Shp} {m : MI} {pc : Nat} {ls st : List Value} {M : Mm} {Q : Pst}  {x y : Int32} {off : Int} (n : Nat) (t : Nat) (hd : decode m.2.1 pc = .ok (.if_icmp .gt off, 3)) (ht : (pc : Int) + off = (t : Int)) (hn : pc + 3 = n) (k1 : y < x → Ev Sh m (t) ls st M Q) (k2 : ¬ y < x → Ev Sh m (n) ls st M Q) : Ev Sh m pc ls (.int y :: .int x :: st) M Q := fun P h => h.2.2.2.2.2.2.2.2.2.2.2.2.2.2.2.2.2.2.2.2.2.2.2.2.2.2.2.2.2.2.2.2.2.2.2.2.2.2.2.2.2.2.2.2.2.2.2.1 Sh m pc n ls st M Q t x y off hd ht hn (fun q => k1 q P h) (fun q => k2 q P h)
theorem ev_icmp_le {Sh : Shp} {m : MI} {pc : Nat} {ls st : List Value} {M : Mm} {Q : Pst}  {x y : Int32} {off : Int} (n : Nat) (t : Nat) (hd : decode m.2.1 pc = .ok (.if_icmp .le off, 3)) (ht : (pc : Int) + off = (t : Int)) (hn : pc + 3 = n) (k1 : x ≤ y → Ev Sh m (t) ls st M Q) (k2 : ¬ x ≤ y → Ev Sh m (n) ls st M Q) : Ev Sh m pc ls (.int y :: .int x :: st) M Q := fun P h => h.2.2.2.2.2.2.2.2.2.2.2.2.2.2.2.2.2.2.2.2.2.2.2.2.2.2.2.2.2.2.2.2.2.2.2.2.2.2.2.2.2.2.2.2.2.2.2.2.1 Sh m pc n ls st M Q t x y off hd ht hn (fun q => k1 q P h) (fun q => k2 q P h)
theorem ev_goto {Sh : Shp} {m : MI} {pc : Nat} {ls st : List Value} {M : Mm} {Q : Pst} {off : Int} (t : Nat) (hd : decode m.2.1 pc = .ok (.goto off, 3)) (ht : (pc : Int) + off = (t : Int)) (k : Ev Sh m (t) ls st M Q) : Ev Sh m pc ls st M Q := fun P h => h.2.2.2.2.2.2.2.2.2.2.2.2.2.2.2.2.2.2.2.2.2.2.2.2.2.2.2.2.2.2.2.2.2.2.2.2.2.2.2.2.2.2.2.2.2.2.2.2.2.1 Sh m pc t ls st M Q off hd ht (k P h)
theorem ev_tabOut {Sh : Shp} {m : MI} {pc : Nat} {ls st : List Value} {M : Mm} {Q : Pst} {df lo hi : Int} {offs : Array Int} {len : Nat} {x : Int32} (t : Nat) (hd : decode m.2.1 pc = .ok (.tableswitch df lo hi offs, len)) (hx : x.toInt < lo ∨ hi < x.toInt) (ht : (pc : Int) + df = (t : Int)) (k : Ev Sh m (t) ls st M Q) : Ev Sh m pc ls (.int x :: st) M Q := fun P h => h.2.2.2.2.2.2.2.2.2.2.2.2.2.2.2.2.2.2.2.2.2.2.2.2.2.2.2.2.2.2.2.2.2.2.2.2.2.2.2.2.2.2.2.2.2.2.2.2.2.2.1 Sh m pc t ls st M Q df lo hi offs len x hd hx ht (k P h)
theorem ev_tabIn {Sh : Shp} {m : MI} {pc : Nat} {ls st : List Value} {M : Mm} {Q : Pst} {df lo hi : Int} {offs : Array Int} {len : Nat} {x : Int32} {off : Int} (t : Nat) (hd : decode m.2.1 pc = .ok (.tableswitch df lo hi offs, len)) (h1 : ¬ x.toInt < lo) (h2 : ¬ hi < x.toInt) (ho : offs[(x.toInt - lo).toNat]? = some off) (ht : (pc : Int) + off = (t : Int)) (k : Ev Sh m (t) ls st M Q) : Ev Sh m pc ls (.int x :: st) M Q := fun P h => h.2.2.2.2.2.2.2.2.2.2.2.2.2.2.2.2.2.2.2.2.2.2.2.2.2.2.2.2.2.2.2.2.2.2.2.2.2.2.2.2.2.2.2.2.2.2.2.2.2.2.2.1 Sh m pc t ls st M Q df lo hi offs len x off hd h1 h2 ho ht (k P h)
theorem ev_getI {Sh : Shp} {m : MI} {pc : Nat} {ls st : List Value} {M : Mm} {Q : Pst} {i k j : Nat} {q : Nat × List (Option Nat)} (n : Nat) (hd : decode m.2.1 pc = .ok (.getfield i, 3)) (hk : Sh[k]? = some (.inr q)) (hf : ab_FL m.1.cls i q.1 j) (hj2 : q.2[j]? = some none) (hn : pc + 3 = n) (kk : Ev Sh m (n) ls (.int (M k j) :: st) M Q) : Ev Sh m pc ls (.ref k :: st) M Q := fun P h => h.2.2.2.2.2.2.2.2.2.2.2.2.2.2.2.2.2.2.2.2.2.2.2.2.2.2.2.2.2.2.2.2.2.2.2.2.2.2.2.2.2.2.2.2.2.2.2.2.2.2.2.2.1 Sh m pc n ls st M Q i k j q hd hk hf hj2 hn (kk P h)
theorem ev_getR {Sh : Shp} {m : MI} {pc : Nat} {ls st : List Value} {M : Mm} {Q : Pst} {i k j r : Nat} {q : Nat × List (Option Nat)} (n : Nat) (hd : decode m.2.1 pc = .ok (.getfield i, 3)) (hk : Sh[k]? = some (.inr q)) (hf : ab_FL m.1.cls i q.1 j) (hj2 : q.2[j]? = some (some r)) (hn : pc + 3 = n) (kk : Ev Sh m (n) ls (.ref r :: st) M Q) : Ev Sh m pc ls (.ref k :: st) M Q := fun P h => h.2.2.2.2.2.2.2.2.2.2.2.2.2.2.2.2.2.2.2.2.2.2.2.2.2.2.2.2.2.2.2.2.2.2.2.2.2.2.2.2.2.2.2.2.2.2.2.2.2.2.2.2.2.1 Sh m pc n ls st M Q i k j r q hd hk hf hj2 hn (kk P h)
theorem ev_putI {Sh : Shp} {m : MI} {pc : Nat} {ls st : List Value} {M : Mm} {Q : Pst} {i k j : Nat} {q : Nat × List (Option Nat)} {x : Int32} (n : Nat) (hd : decode m.2.1 pc = .ok (.putfield i, 3)) (hk : Sh[k]? = some (.inr q)) (hf : ab_FL m.1.cls i q.1 j) (hg : ab_FI q.1 j) (hj2 : q.2[j]? = some none) (hn : pc + 3 = n) (kk : Ev Sh m (n) ls st (mst M k j x) Q) : Ev Sh m pc ls (.int x :: .ref k :: st) M Q := fun P h => h.2.2.2.2.2.2.2.2.2.2.2.2.2.2.2.2.2.2.2.2.2.2.2.2.2.2.2.2.2.2.2.2.2.2.2.2.2.2.2.2.2.2.2.2.2.2.2.2.2.2.2.2.2.2.1 Sh m pc n ls st M Q i k j q x hd hk hf hg hj2 hn (kk P h)
theorem ev_iald {Sh : Shp} {m : MI} {pc : Nat} {ls st : List Value} {M : Mm} {Q : Pst} {k N : Nat} {i : Int32} (n : Nat) (hd : decode m.2.1 pc = .ok (.iaload, 1)) (hk : Sh[k]? = some (.inl N)) (hi : vp_in i N) (hn : pc + 1 = n) (kk : Ev Sh m (n) ls (.int (M k i.toNatClampNeg) :: st) M Q) : Ev Sh m pc ls (.int i :: .ref k :: st) M Q := fun P h => h.2.2.2.2.2.2.2.2.2.2.2.2.2.2.2.2.2.2.2.2.2.2.2.2.2.2.2.2.2.2.2.2.2.2.2.2.2.2.2.2.2.2.2.2.2.2.2.2.2.2.2.2.2.2.2.1 Sh m pc n ls st M Q k N i hd hk hi hn (kk P h)
theorem ev_iast {Sh : Shp} {m : MI} {pc : Nat} {ls st : List Value} {M : Mm} {Q : Pst} {k N : Nat} {i x : Int32} (n : Nat) (hd : decode m.2.1 pc = .ok (.iastore, 1)) (hk : Sh[k]? = some (.inl N)) (hi : vp_in i N) (hn : pc + 1 = n) (kk : Ev Sh m (n) ls st (mst M k i.toNatClampNeg x) Q) : Ev Sh m pc ls (.int x :: .int i :: .ref k :: st) M Q := fun P h => h.2.2.2.2.2.2.2.2.2.2.2.2.2.2.2.2.2.2.2.2.2.2.2.2.2.2.2.2.2.2.2.2.2.2.2.2.2.2.2.2.2.2.2.2.2.2.2.2.2.2.2.2.2.2.2.2.1 Sh m pc n ls st M Q k N i x hd hk hi hn (kk P h)
theorem ev_iret {Sh : Shp} {m : MI} {pc : Nat} {ls : List Value} {M : Mm} {Q : Pst} {v : Int32}  (hd : decode m.2.1 pc = .ok (.ireturn, 1)) (hr : m.2.2.2.1 = some .int) (hQ : Q (some (.int v)) M) : Ev Sh m pc ls [.int v] M Q := fun P h => h.2.2.2.2.2.2.2.2.2.2.2.2.2.2.2.2.2.2.2.2.2.2.2.2.2.2.2.2.2.2.2.2.2.2.2.2.2.2.2.2.2.2.2.2.2.2.2.2.2.2.2.2.2.2.2.2.2.1 Sh m pc ls M Q v hd hr hQ 
theorem ev_zret {Sh : Shp} {m : MI} {pc : Nat} {ls : List Value} {M : Mm} {Q : Pst} {v : Int32}  (hd : decode m.2.1 pc = .ok (.ireturn, 1)) (hr : m.2.2.2.1 = some .boolean) (hz : v = 0 ∨ v = 1) (hQ : Q (some (.int v)) M) : Ev Sh m pc ls [.int v] M Q := fun P h => h.2.2.2.2.2.2.2.2.2.2.2.2.2.2.2.2.2.2.2.2.2.2.2.2.2.2.2.2.2.2.2.2.2.2.2.2.2.2.2.2.2.2.2.2.2.2.2.2.2.2.2.2.2.2.2.2.2.2.1 Sh m pc ls M Q v hd hr hz hQ 
theorem ev_lret {Sh : Shp} {m : MI} {pc : Nat} {ls : List Value} {M : Mm} {Q : Pst} {v : Int64}  (hd : decode m.2.1 pc = .ok (.lreturn, 1)) (hr : m.2.2.2.1 = some .long) (hQ : Q (some (.long v)) M) : Ev Sh m pc ls [.long v] M Q := fun P h => h.2.2.2.2.2.2.2.2.2.2.2.2.2.2.2.2.2.2.2.2.2.2.2.2.2.2.2.2.2.2.2.2.2.2.2.2.2.2.2.2.2.2.2.2.2.2.2.2.2.2.2.2.2.2.2.2.2.2.2.1 Sh m pc ls M Q v hd hr hQ 
theorem ev_vret {Sh : Shp} {m : MI} {pc : Nat} {ls : List Value} {M : Mm} {Q : Pst}  (hd : decode m.2.1 pc = .ok (.return_, 1)) (hr : m.2.2.2.1 = none) (hQ : Q none M) : Ev Sh m pc ls [] M Q := fun P h => h.2.2.2.2.2.2.2.2.2.2.2.2.2.2.2.2.2.2.2.2.2.2.2.2.2.2.2.2.2.2.2.2.2.2.2.2.2.2.2.2.2.2.2.2.2.2.2.2.2.2.2.2.2.2.2.2.2.2.2.2.1 Sh m pc ls M Q hd hr hQ 
theorem ev_callV {Sh : Shp} {m m2 : MI} {pc : Nat} {ls st as rest : List Value} {M : Mm} {Q Q2 : Pst} {i np : Nat} {k : Nat} (n : Nat) (hd : decode m.2.1 pc = .ok (.invokevirtual i, 3)) (hml : ab_ML m.1.cls i m2) (hmo : ab_MO m2 np) (hrm : ab_RM m m2 = true) (him : ab_IM m2) (hob : ab_obj Sh k m2.1.cls) (hst : st = as.reverse ++ .ref k :: rest) (hnp : as.length = np) (hle : (ab_ent0 (.ref k :: as)).length ≤ m2.2.2.1) (hw : (rest.map fun v => v.category).sum ≤ 8) (hn : pc + 3 = n) (k1 : Ev Sh m2 0 (ab_ent m2.2.2.1 (.ref k :: as)) [] M Q2) (k2 : ∀ (r : Option Value) (M2 : Mm), Q2 r M2 → Ev Sh m n ls (r.toList ++ rest) M2 Q) : Ev Sh m pc ls st M Q := fun P h => h.2.2.2.2.2.2.2.2.2.2.2.2.2.2.2.2.2.2.2.2.2.2.2.2.2.2.2.2.2.2.2.2.2.2.2.2.2.2.2.2.2.2.2.2.2.2.2.2.2.2.2.2.2.2.2.2.2.2.2.2.2.1 Sh m m2 pc n ls st as rest M Q Q2 i np k hd hml hmo hrm him hob hst hnp hle hw hn (k1 P h) (fun r M2 q => k2 r M2 q P h)
theorem ev_callS {Sh : Shp} {m m2 : MI} {pc : Nat} {ls st as rest : List Value} {M : Mm} {Q Q2 : Pst} {i np : Nat} (n : Nat) (hd : decode m.2.1 pc = .ok (.invokestatic i, 3)) (hml : ab_ML m.1.cls i m2) (hmo : ab_MO m2 np) (hrm : ab_RM m m2 = true) (hsm : ab_SM m2) (hst : st = as.reverse ++ rest) (hnp : as.length = np) (hle : (ab_ent0 as).length ≤ m2.2.2.1) (hw : (rest.map fun v => v.category).sum ≤ 8) (hn : pc + 3 = n) (k1 : Ev Sh m2 0 (ab_ent m2.2.2.1 as) [] M Q2) (k2 : ∀ (r : Option Value) (M2 : Mm), Q2 r M2 → Ev Sh m n ls (r.toList ++ rest) M2 Q) : Ev Sh m pc ls st M Q := fun P h => h.2.2.2.2.2.2.2.2.2.2.2.2.2.2.2.2.2.2.2.2.2.2.2.2.2.2.2.2.2.2.2.2.2.2.2.2.2.2.2.2.2.2.2.2.2.2.2.2.2.2.2.2.2.2.2.2.2.2.2.2.2.2.1 Sh m m2 pc n ls st as rest M Q Q2 i np hd hml hmo hrm hsm hst hnp hle hw hn (k1 P h) (fun r M2 q => k2 r M2 q P h)
theorem ev_imax {Sh : Shp} {m : MI} {pc : Nat} {ls st : List Value} {M : Mm} {Q : Pst} {i : Nat} {x y : Int32} (n : Nat) (hd : decode m.2.1 pc = .ok (.invokestatic i, 3)) (h1 : Cond.methodLink m.1.cls i Lib.Math.max.name ∈ wAll) (h2 : Cond.static Lib.Math.max.name ∈ wAll) (h3 : Cond.initialized "java/lang/Math" ∈ wAll) (h4 : Cond.code Lib.Math.max.name Lib.Math.max.code 2 (some .int) ∈ wAll) (hfr : 1 ≤ m.2.2.2.2.1) (hlo : (st.map fun v => v.category).sum + 13 ≤ m.2.2.2.2.2) (hn : pc + 3 = n) (k : Ev Sh m (n) ls (.int (if x < y then y else x) :: st) M Q) : Ev Sh m pc ls (.int y :: .int x :: st) M Q := fun P h => h.2.2.2.2.2.2.2.2.2.2.2.2.2.2.2.2.2.2.2.2.2.2.2.2.2.2.2.2.2.2.2.2.2.2.2.2.2.2.2.2.2.2.2.2.2.2.2.2.2.2.2.2.2.2.2.2.2.2.2.2.2.2.2.1 Sh m pc n ls st M Q i x y hd h1 h2 h3 h4 hfr hlo hn (k P h)
theorem ev_imin {Sh : Shp} {m : MI} {pc : Nat} {ls st : List Value} {M : Mm} {Q : Pst} {i : Nat} {x y : Int32} (n : Nat) (hd : decode m.2.1 pc = .ok (.invokestatic i, 3)) (h1 : Cond.methodLink m.1.cls i Lib.Math.min.name ∈ wAll) (h2 : Cond.static Lib.Math.min.name ∈ wAll) (h3 : Cond.initialized "java/lang/Math" ∈ wAll) (h4 : Cond.code Lib.Math.min.name Lib.Math.min.code 2 (some .int) ∈ wAll) (hfr : 1 ≤ m.2.2.2.2.1) (hlo : (st.map fun v => v.category).sum + 13 ≤ m.2.2.2.2.2) (hn : pc + 3 = n) (k : Ev Sh m (n) ls (.int (if y < x then y else x) :: st) M Q) : Ev Sh m pc ls (.int y :: .int x :: st) M Q := fun P h => h.2.2.2.2.2.2.2.2.2.2.2.2.2.2.2.2.2.2.2.2.2.2.2.2.2.2.2.2.2.2.2.2.2.2.2.2.2.2.2.2.2.2.2.2.2.2.2.2.2.2.2.2.2.2.2.2.2.2.2.2.2.2.2.2 Sh m pc n ls st M Q i x y hd h1 h2 h3 h4 hfr hlo hn (k P h)
set_option maxHeartbeats 1000000 in
theorem sn_iadd : Rl_iadd ab_W := by
  intro Sh m pc n ls st M Q x y hd hn k
  subst hn
  intro l p e s mid args below meth c D cy ad cx H locs lsM hP hD hS hL
  exact lv_iadd cx.1 cx.2.1 hd (k l p e s mid args below meth c D cy ad cx H locs lsM hP hD hS hL)
set_option maxHeartbeats 1000000 in
theorem sn_isub : Rl_isub ab_W := by
  intro Sh m pc n ls st M Q x y hd hn k
  subst hn
  intro l p e s mid args below meth c D cy ad cx H locs lsM hP hD hS hL
  exact lv_isub cx.1 cx.2.1 hd (k l p e s mid args below meth c D cy ad cx H locs lsM hP hD hS hL)
set_option maxHeartbeats 1000000 in
theorem sn_imul : Rl_imul ab_W := by
  intro Sh m pc n ls st M Q x y hd hn k
  subst hn
  intro l p e s mid args below meth c D cy ad cx H locs lsM hP hD hS hL
  exact lv_imul cx.1 cx.2.1 hd (k l p e s mid args below meth c D cy ad cx H locs lsM hP hD hS hL)
set_option maxHeartbeats 1000000 in
theorem sn_iand : Rl_iand ab_W := by
  intro Sh m pc n ls st M Q x y hd hn k
  subst hn
  intro l p e s mid args below meth c D cy ad cx H locs lsM hP hD hS hL
  exact lv_iand cx.1 cx.2.1 hd (k l p e s mid args below meth c D cy ad cx H locs lsM hP hD hS hL)
set_option maxHeartbeats 1000000 in
theorem sn_ior : Rl_ior ab_W := by
  intro Sh m pc n ls st M Q x y hd hn k
  subst hn
  intro l p e s mid args below meth c D cy ad cx H locs lsM hP hD hS hL
  exact lv_ior cx.1 cx.2.1 hd (k l p e s mid args below meth c D cy ad cx H locs lsM hP hD hS hL)
set_option maxHeartbeats 1000000 in
theorem sn_ixor : Rl_ixor ab_W := by
  intro Sh m pc n ls st M Q x y hd hn k
  subst hn
  intro l p e s mid args below meth c D cy ad cx H locs lsM hP hD hS hL
  exact lv_ixor cx.1 cx.2.1 hd (k l p e s mid args below meth c D cy ad cx H locs lsM hP hD hS hL)
set_option maxHeartbeats 1000000 in
theorem sn_ishl : Rl_ishl ab_W := by
  intro Sh m pc n ls st M Q x y hd hn k
  subst hn
  intro l p e s mid args below meth c D cy ad cx H locs lsM hP hD hS hL
  exact lv_ishl cx.1 cx.2.1 hd (k l p e s mid args below meth c D cy ad cx H locs lsM hP hD hS hL)
set_option maxHeartbeats 1000000 in
theorem sn_ishr : Rl_ishr ab_W := by
  intro Sh m pc n ls st M Q x y hd hn k
  subst hn
  intro l p e s mid args below meth c D cy ad cx H locs lsM hP hD hS hL
  exact lv_ishr cx.1 cx.2.1 hd (k l p e s mid args below meth c D cy ad cx H locs lsM hP hD hS hL)
set_option maxHeartbeats 1000000 in
theorem sn_iushr : Rl_iushr ab_W := by
  intro Sh m pc n ls st M Q x y hd hn k
  subst hn
  intro l p e s mid args below meth c D cy ad cx H locs lsM hP hD hS hL
  exact lv_iushr cx.1 cx.2.1 hd rfl (k l p e s mid args below meth c D cy ad cx H locs lsM hP hD hS hL)
set_option maxHeartbeats 1000000 in
theorem sn_idiv : Rl_idiv ab_W := by
  intro Sh m pc n ls st M Q x y hd hz hn k
  subst hn
  intro l p e s mid args below meth c D cy ad cx H locs lsM hP hD hS hL
  exact lv_idiv cx.1 cx.2.1 hd hz (k l p e s mid args below meth c D cy ad cx H locs lsM hP hD hS hL)
set_option maxHeartbeats 1000000 in
theorem sn_irem : Rl_irem ab_W := by
  intro Sh m pc n ls st M Q x y hd hz hn k
  subst hn
  intro l p e s mid args below meth c D cy ad cx H locs lsM hP hD hS hL
  exact lv_irem cx.1 cx.2.1 hd hz (k l p e s mid args below meth c D cy ad cx H locs lsM hP hD hS hL)
set_option maxHeartbeats 1000000 in
theorem sn_ladd : Rl_ladd ab_W := by
  intro Sh m pc n ls st M Q x y hd hn k
  subst hn
  intro l p e s mid args below meth c D cy ad cx H locs lsM hP hD hS hL
  exact lv_ladd cx.1 cx.2.1 hd (k l p e s mid args below meth c D cy ad cx H locs lsM hP hD hS hL)
set_option maxHeartbeats 1000000 in
theorem sn_lmul : Rl_lmul ab_W := by
  intro Sh m pc n ls st M Q x y hd hn k
  subst hn
  intro l p e s mid args below meth c D cy ad cx H locs lsM hP hD hS hL
  exact lv_lmul cx.1 cx.2.1 hd (k l p e s mid args below meth c D cy ad cx H locs lsM hP hD hS hL)
set_option maxHeartbeats 1000000 in
theorem sn_ldiv : Rl_ldiv ab_W := by
  intro Sh m pc n ls st M Q x y hd hz hn k
  subst hn
  intro l p e s mid args below meth c D cy ad cx H locs lsM hP hD hS hL
  exact lv_ldiv cx.1 cx.2.1 hd hz (k l p e s mid args below meth c D cy ad cx H locs lsM hP hD hS hL)
set_option maxHeartbeats 1000000 in
theorem sn_lcmp : Rl_lcmp ab_W := by
  intro Sh m pc n ls st M Q x y hd hn k
  subst hn
  intro l p e s mid args below meth c D cy ad cx H locs lsM hP hD hS hL
  exact W.lcmp cx.1 cx.2.1 hd (k l p e s mid args below meth c D cy ad cx H locs lsM hP hD hS hL)
set_option maxHeartbeats 1000000 in
theorem sn_i2l : Rl_i2l ab_W := by
  intro Sh m pc n ls st M Q x hd hn k
  subst hn
  intro l p e s mid args below meth c D cy ad cx H locs lsM hP hD hS hL
  exact lv_i2l cx.1 cx.2.1 hd rfl (k l p e s mid args below meth c D cy ad cx H locs lsM hP hD hS hL)
set_option maxHeartbeats 1000000 in
theorem sn_l2i : Rl_l2i ab_W := by
  intro Sh m pc n ls st M Q x hd hn k
  subst hn
  intro l p e s mid args below meth c D cy ad cx H locs lsM hP hD hS hL
  exact lv_l2i cx.1 cx.2.1 hd rfl (k l p e s mid args below meth c D cy ad cx H locs lsM hP hD hS hL)
set_option maxHeartbeats 1000000 in
theorem sn_dup : Rl_dup ab_W := by
  intro Sh m pc n ls st M Q v hd hc hn k
  subst hn
  intro l p e s mid args below meth c D cy ad cx H locs lsM hP hD hS hL
  exact lv_dup cx.1 cx.2.1 hd (by rw [ab_cat]; exact hc) (k l p e s mid args below meth c D cy ad cx H locs lsM hP hD hS hL)
set_option maxHeartbeats 1000000 in
theorem sn_pop : Rl_pop ab_W := by
  intro Sh m pc n ls st M Q v hd hc hn k
  subst hn
  intro l p e s mid args below meth c D cy ad cx H locs lsM hP hD hS hL
  exact lv_pop cx.1 cx.2.1 hd (by rw [ab_cat]; exact hc) (k l p e s mid args below meth c D cy ad cx H locs lsM hP hD hS hL)
set_option maxHeartbeats 1000000 in
theorem sn_dup2 : Rl_dup2 ab_W := by
  intro Sh m pc n ls st M Q v u hd hc hc2 hn k
  subst hn
  intro l p e s mid args below meth c D cy ad cx H locs lsM hP hD hS hL
  exact lv_dup2_11 cx.1 cx.2.1 hd (by rw [ab_cat]; exact hc) (by rw [ab_cat]; exact hc2) (k l p e s mid args below meth c D cy ad cx H locs lsM hP hD hS hL)
set_option maxHeartbeats 1000000 in
theorem sn_iconst : Rl_iconst ab_W := by
  intro Sh m pc n ls st M Q z v hd hv hn k
  subst hn
  intro l p e s mid args below meth c D cy ad cx H locs lsM hP hD hS hL
  exact lv_iconst cx.1 cx.2.1 hd hv (k l p e s mid args below meth c D cy ad cx H locs lsM hP hD hS hL)
set_option maxHeartbeats 1000000 in
theorem sn_bipush : Rl_bipush ab_W := by
  intro Sh m pc n ls st M Q z v hd hv hn k
  subst hn
  intro l p e s mid args below meth c D cy ad cx H locs lsM hP hD hS hL
  exact lv_bipush cx.1 cx.2.1 hd hv (k l p e s mid args below meth c D cy ad cx H locs lsM hP hD hS hL)
set_option maxHeartbeats 1000000 in
theorem sn_sipush : Rl_sipush ab_W := by
  intro Sh m pc n ls st M Q z v hd hv hn k
  subst hn
  intro l p e s mid args below meth c D cy ad cx H locs lsM hP hD hS hL
  exact lv_sipush cx.1 cx.2.1 hd hv (k l p e s mid args below meth c D cy ad cx H locs lsM hP hD hS hL)
set_option maxHeartbeats 1000000 in
theorem sn_lconst : Rl_lconst ab_W := by
  intro Sh m pc n ls st M Q z v hd hv hn k
  subst hn
  intro l p e s mid args below meth c D cy ad cx H locs lsM hP hD hS hL
  exact lv_lconst cx.1 cx.2.1 hd hv (k l p e s mid args below meth c D cy ad cx H locs lsM hP hD hS hL)
set_option maxHeartbeats 1000000 in
theorem sn_ldc : Rl_ldc ab_W := by
  intro Sh m pc n ls st M Q i v hd hv hn k
  subst hn
  intro l p e s mid args below meth c D cy ad cx H locs lsM hP hD hS hL
  exact lv_ldc cx.1 cx.2.1 cx.2.2.2.2.1 (cx.2.2.2.2.2.2.1 _ hv) hd (k l p e s mid args below meth c D cy ad cx H locs lsM hP hD hS hL)
set_option maxHeartbeats 1000000 in
theorem sn_ldcw : Rl_ldcw ab_W := by
  intro Sh m pc n ls st M Q i v hd hv hn k
  subst hn
  intro l p e s mid args below meth c D cy ad cx H locs lsM hP hD hS hL
  exact lv_ldcw cx.1 cx.2.1 cx.2.2.2.2.1 (cx.2.2.2.2.2.2.1 _ hv) hd (k l p e s mid args below meth c D cy ad cx H locs lsM hP hD hS hL)
set_option maxHeartbeats 1000000 in
theorem sn_ldc2 : Rl_ldc2 ab_W := by
  intro Sh m pc n ls st M Q i v hd hv hn k
  subst hn
  intro l p e s mid args below meth c D cy ad cx H locs lsM hP hD hS hL
  exact lv_ldc2 cx.1 cx.2.1 cx.2.2.2.2.1 (cx.2.2.2.2.2.2.1 _ hv) hd (k l p e s mid args below meth c D cy ad cx H locs lsM hP hD hS hL)
set_option maxHeartbeats 1000000 in
theorem sn_iload_n : Rl_iload_n ab_W := by
  intro Sh m pc n ls st M Q z x hd hv hn k
  subst hn
  intro l p e s mid args below meth c D cy ad cx H locs lsM hP hD hS hL
  exact lv_iload_n cx.1 cx.2.1 hd rfl (hL.2.2 _ _ hv (fun q => by cases q)) (k l p e s mid args below meth c D cy ad cx H locs lsM hP hD hS hL)
set_option maxHeartbeats 1000000 in
theorem sn_iload : Rl_iload ab_W := by
  intro Sh m pc n ls st M Q z x hd hv hn k
  subst hn
  intro l p e s mid args below meth c D cy ad cx H locs lsM hP hD hS hL
  exact lv_iload cx.1 cx.2.1 hd (hL.2.2 _ _ hv (fun q => by cases q)) (k l p e s mid args below meth c D cy ad cx H locs lsM hP hD hS hL)
set_option maxHeartbeats 1000000 in
theorem sn_lload_n : Rl_lload_n ab_W := by
  intro Sh m pc n ls st M Q z x hd hv hn k
  subst hn
  intro l p e s mid args below meth c D cy ad cx H locs lsM hP hD hS hL
  exact lv_lload_n cx.1 cx.2.1 hd rfl (hL.2.2 _ _ hv (fun q => by cases q)) (k l p e s mid args below meth c D cy ad cx H locs lsM hP hD hS hL)
set_option maxHeartbeats 1000000 in
theorem sn_lload : Rl_lload ab_W := by
  intro Sh m pc n ls st M Q z x hd hv hn k
  subst hn
  intro l p e s mid args below meth c D cy ad cx H locs lsM hP hD hS hL
  exact lv_lload cx.1 cx.2.1 hd (hL.2.2 _ _ hv (fun q => by cases q)) (k l p e s mid args below meth c D cy ad cx H locs lsM hP hD hS hL)
set_option maxHeartbeats 1000000 in
theorem sn_aload_n : Rl_aload_n ab_W := by
  intro Sh m pc n ls st M Q z x hd hv hn k
  subst hn
  intro l p e s mid args below meth c D cy ad cx H locs lsM hP hD hS hL
  exact lv_aload_n cx.1 cx.2.1 hd rfl (hL.2.2 _ _ hv (fun q => by cases q)) (k l p e s mid args below meth c D cy ad cx H locs lsM hP hD hS hL)
set_option maxHeartbeats 1000000 in
theorem sn_istore_n : Rl_istore_n ab_W := by
  intro Sh m pc n ls st M Q ls2 z x hd hi ho hl hn k
  subst hn
  subst hl
  intro l p e s mid args below meth c D cy ad cx H locs lsM hP hD hS hL
  exact lv_istore_n cx.1 cx.2.1 hd rfl hL.has hi rfl (fun ls' h' => k l p e s mid args below meth c D cy ad cx H locs ls' hP hD hS (ab_st1 ho h'))
set_option maxHeartbeats 1000000 in
theorem sn_istore : Rl_istore ab_W := by
  intro Sh m pc n ls st M Q ls2 z x hd hi ho hl hn k
  subst hn
  subst hl
  intro l p e s mid args below meth c D cy ad cx H locs lsM hP hD hS hL
  exact lv_istore cx.1 cx.2.1 hd  hL.has hi rfl (fun ls' h' => k l p e s mid args below meth c D cy ad cx H locs ls' hP hD hS (ab_st1 ho h'))
set_option maxHeartbeats 1000000 in
theorem sn_lstore_n : Rl_lstore_n ab_W := by
  intro Sh m pc n ls st M Q ls2 z x hd hi ho hl hn k
  subst hn
  subst hl
  intro l p e s mid args below meth c D cy ad cx H locs lsM hP hD hS hL
  exact lv_lstore_n cx.1 cx.2.1 hd rfl hL.has hi rfl (fun ls' h' => k l p e s mid args below meth c D cy ad cx H locs ls' hP hD hS (ab_st2 ho h'))
set_option maxHeartbeats 1000000 in
theorem sn_lstore : Rl_lstore ab_W := by
  intro Sh m pc n ls st M Q ls2 z x hd hi ho hl hn k
  subst hn
  subst hl
  intro l p e s mid args below meth c D cy ad cx H locs lsM hP hD hS hL
  exact lv_lstore cx.1 cx.2.1 hd  hL.has hi rfl (fun ls' h' => k l p e s mid args below meth c D cy ad cx H locs ls' hP hD hS (ab_st2 ho h'))
set_option maxHeartbeats 1000000 in
theorem sn_iinc : Rl_iinc ab_W := by
  intro Sh m pc n ls st M Q ls2 z d x v hd hx hv hi ho hl hn k
  subst hn
  subst hl
  intro l p e s mid args below meth c D cy ad cx H locs lsM hP hD hS hL
  obtain ⟨kq, hkq⟩ := List.getElem?_of_mem (ab_asc_mem (ad := ad) (ls := ls) (q := (z, .int x)).mpr ⟨.int x, hx, (fun q => by cases q), rfl⟩)
  exact lv_iinc cx.1 cx.2.1 hd hL.has hkq hv hi rfl (fun ls' h' => k l p e s mid args below meth c D cy ad cx H locs ls' hP hD hS (ab_st1 ho h'))
set_option maxHeartbeats 1000000 in
theorem sn_if_eq : Rl_if_eq ab_W := by
  intro Sh m pc n ls st M Q t x off hd ht hn k1 k2
  subst hn
  intro l p e s mid args below meth c D cy ad cx H locs lsM hP hD hS hL
  exact lv_if_eq cx.1 cx.2.1 hd ht (fun q => k1 q l p e s mid args below meth c D cy ad cx H locs lsM hP hD hS hL) (fun q => k2 q l p e s mid args below meth c D cy ad cx H locs lsM hP hD hS hL)
set_option maxHeartbeats 1000000 in
theorem sn_if_ne : Rl_if_ne ab_W := by
  intro Sh m pc n ls st M Q t x off hd ht hn k1 k2
  subst hn
  intro l p e s mid args below meth c D cy ad cx H locs lsM hP hD hS hL
  exact lv_if_ne cx.1 cx.2.1 hd ht (fun q => k1 q l p e s mid args below meth c D cy ad cx H locs lsM hP hD hS hL) (fun q => k2 q l p e s mid args below meth c D cy ad cx H locs lsM hP hD hS hL)
set_option maxHeartbeats 1000000 in
theorem sn_if_lt : Rl_if_lt ab_W := by
  intro Sh m pc n ls st M Q t x off hd ht hn k1 k2
  subst hn
  intro l p e s mid args below meth c D cy ad cx H locs lsM hP hD hS hL
  exact lv_if_lt cx.1 cx.2.1 hd ht (fun q => k1 q l p e s mid args below meth c D cy ad cx H locs lsM hP hD hS hL) (fun q => k2 q l p e s mid args below meth c D cy ad cx H locs lsM hP hD hS hL)
set_option maxHeartbeats 1000000 in
theorem sn_if_ge : Rl_if_ge ab_W := by
  intro Sh m pc n ls st M Q t x off hd ht hn k1 k2
  subst hn
  intro l p e s mid args below meth c D cy ad cx H locs lsM hP hD hS hL
  exact lv_if_ge cx.1 cx.2.1 hd ht (fun q => k1 q l p e s mid args below meth c D cy ad cx H locs lsM hP hD hS hL) (fun q => k2 q l p e s mid args below meth c D cy ad cx H locs lsM hP hD hS hL)
set_option maxHeartbeats 1000000 in
theorem sn_if_gt : Rl_if_gt ab_W := by
  intro Sh m pc n ls st M Q t x off hd ht hn k1 k2
  subst hn
  intro l p e s mid args below meth c D cy ad cx H locs lsM hP hD hS hL
  exact lv_if_gt cx.1 cx.2.1 hd ht (fun q => k1 q l p e s mid args below meth c D cy ad cx H locs lsM hP hD hS hL) (fun q => k2 q l p e s mid args below meth c D cy ad cx H locs lsM hP hD hS hL)
set_option maxHeartbeats 1000000 in
theorem sn_if_le : Rl_if_le ab_W := by
  intro Sh m pc n ls st M Q t x off hd ht hn k1 k2
  subst hn
  intro l p e s mid args below meth c D cy ad cx H locs lsM hP hD hS hL
  exact lv_if_le cx.1 cx.2.1 hd ht (fun q => k1 q l p e s mid args below meth c D cy ad cx H locs lsM hP hD hS hL) (fun q => k2 q l p e s mid args below meth c D cy ad cx H locs lsM hP hD hS hL)
set_option maxHeartbeats 1000000 in
theorem sn_icmp_eq : Rl_icmp_eq ab_W := by
  intro Sh m pc n ls st M Q t x y off hd ht hn k1 k2
  subst hn
  intro l p e s mid args below meth c D cy ad cx H locs lsM hP hD hS hL
  exact lv_icmp_eq cx.1 cx.2.1 hd ht (fun q => k1 q l p e s mid args below meth c D cy ad cx H locs lsM hP hD hS hL) (fun q => k2 q l p e s mid args below meth c D cy ad cx H locs lsM hP hD hS hL)
set_option maxHeartbeats 1000000 in
theorem sn_icmp_ne : Rl_icmp_ne ab_W := by
  intro Sh m pc n ls st M Q t x y off hd ht hn k1 k2
  subst hn
  intro l p e s mid args below meth c D cy ad cx H locs lsM hP hD hS hL
  exact lv_icmp_ne cx.1 cx.2.1 hd ht (fun q => k1 q l p e s mid args below meth c D cy ad cx H locs lsM hP hD hS hL) (fun q => k2 q l p e s mid args below meth c D cy ad cx H locs lsM hP hD hS hL)
set_option maxHeartbeats 1000000 in
theorem sn_icmp_lt : Rl_icmp_lt ab_W := by
  intro Sh m pc n ls st M Q t x y off hd ht hn k1 k2
  subst hn
  intro l p e s mid args below meth c D cy ad cx H locs lsM hP hD hS hL
  exact lv_icmp_lt cx.1 cx.2.1 hd ht (fun q => k1 q l p e s mid args below meth c D cy ad cx H locs lsM hP hD hS hL) (fun q => k2 q l p e s mid args below meth c D cy ad cx H locs lsM hP hD hS hL)
set_option maxHeartbeats 1000000 in
theorem sn_icmp_ge : Rl_icmp_ge ab_W := by
  intro Sh m pc n ls st M Q t x y off hd ht hn k1 k2
  subst hn
  intro l p e s mid args below meth c D cy ad cx H locs lsM hP hD hS hL
  exact lv_icmp_ge cx.1 cx.2.1 hd ht (fun q => k1 q l p e s mid args below meth c D cy ad cx H locs lsM hP hD hS hL) (fun q => k2 q l p e s mid args below meth c D cy ad cx H locs lsM hP hD hS hL)
set_option maxHeartbeats 1000000 in
theorem sn_icmp_gt : Rl_icmp_gt ab_W := by
  intro Sh m pc n ls st M Q t x y off hd ht hn k1 k2
  subst hn
  intro l p e s mid args below meth c D cy ad cx H locs lsM hP hD hS hL
  exact lv_icmp_gt cx.1 cx.2.1 hd ht (fun q => k1 q l p e s mid args below meth c D cy ad cx H locs lsM hP hD hS hL) (fun q => k2 q l p e s mid args below meth c D cy ad cx H locs lsM hP hD hS hL)
set_option maxHeartbeats 1000000 in
theorem sn_icmp_le : Rl_icmp_le ab_W := by
  intro Sh m pc n ls st M Q t x y off hd ht hn k1 k2
  subst hn
  intro l p e s mid args below meth c D cy ad cx H locs lsM hP hD hS hL
  exact lv_icmp_le cx.1 cx.2.1 hd ht (fun q => k1 q l p e s mid args below meth c D cy ad cx H locs lsM hP hD hS hL) (fun q => k2 q l p e s mid args below meth c D cy ad cx H locs lsM hP hD hS hL)
set_option maxHeartbeats 1000000 in
theorem sn_goto : Rl_goto ab_W := by
  intro Sh m pc t ls st M Q off hd ht k
  intro l p e s mid args below meth c D cy ad cx H locs lsM hP hD hS hL
  exact lv_goto cx.1 cx.2.1 hd ht (k l p e s mid args below meth c D cy ad cx H locs lsM hP hD hS hL)
set_option maxHeartbeats 1000000 in
theorem sn_tabOut : Rl_tabOut ab_W := by
  intro Sh m pc t ls st M Q df lo hi offs len x hd hx ht k
  intro l p e s mid args below meth c D cy ad cx H locs lsM hP hD hS hL
  exact lv_tableOut cx.1 cx.2.1 hd hx ht (k l p e s mid args below meth c D cy ad cx H locs lsM hP hD hS hL)
set_option maxHeartbeats 1000000 in
theorem sn_tabIn : Rl_tabIn ab_W := by
  intro Sh m pc t ls st M Q df lo hi offs len x off hd h1 h2 ho ht k
  intro l p e s mid args below meth c D cy ad cx H locs lsM hP hD hS hL
  exact lv_tableIn cx.1 cx.2.1 hd h1 h2 ho ht (k l p e s mid args below meth c D cy ad cx H locs lsM hP hD hS hL)
set_option maxHeartbeats 1000000 in
theorem sn_getI : Rl_getI ab_W := by
  intro Sh m pc n ls st M Q i k j q hd hk hf hj2 hn kk
  subst hn
  intro l p e s mid args below meth c D cy ad cx H locs lsM hP hD hS hL
  obtain ⟨C, T, N, ty0, hc, hj, hin, hty, hnm, hlk⟩ := hf
  have he : (ab_ws cy Sh ad M)[k]? = some (ad k, .inr (q.1, ab_flds ad (M k) q.2)) := by rw [ab_get, hk]; rfl
  have hv : (ab_flds ad (M k) q.2)[j]? = some (.int (M k j)) := by simp [ab_flds, List.getElem?_mapIdx, hj2]
  rcases hlk with hlk | ⟨host, hlk⟩
  · exact va_get cx.1 cx.2.1 cx.2.2.2.2.2.2.1 hin cx.2.2.2.2.1 cx.2.2.2.2.2.2.2.2 hP k he hc j hj (cx.2.2.2.2.2.2.1 _ hlk) (fun _ h9 => h9) hv hd (kk l p e s mid args below meth c D cy ad cx H locs lsM hP hD hS hL)
  · exact va_getN cx.1 cx.2.1 cx.2.2.2.2.2.2.1 hin cx.2.2.2.2.1 cx.2.2.2.2.2.2.2.2 hP k he hc j hj (va_Nw.use rfl (cx.2.2.2.2.2.2.2.1 _ hlk)) (fun _ h9 => h9) hv hd (kk l p e s mid args below meth c D cy ad cx H locs lsM hP hD hS hL)
set_option maxHeartbeats 1000000 in
theorem sn_getR : Rl_getR ab_W := by
  intro Sh m pc n ls st M Q i k j r q hd hk hf hj2 hn kk
  subst hn
  intro l p e s mid args below meth c D cy ad cx H locs lsM hP hD hS hL
  obtain ⟨C, T, N, ty0, hc, hj, hin, hty, hnm, hlk⟩ := hf
  have he : (ab_ws cy Sh ad M)[k]? = some (ad k, .inr (q.1, ab_flds ad (M k) q.2)) := by rw [ab_get, hk]; rfl
  have hv : (ab_flds ad (M k) q.2)[j]? = some (.ref (ad r)) := by simp [ab_flds, List.getElem?_mapIdx, hj2]
  rcases hlk with hlk | ⟨host, hlk⟩
  · exact va_get cx.1 cx.2.1 cx.2.2.2.2.2.2.1 hin cx.2.2.2.2.1 cx.2.2.2.2.2.2.2.2 hP k he hc j hj (cx.2.2.2.2.2.2.1 _ hlk) (fun _ h9 => h9) hv hd (kk l p e s mid args below meth c D cy ad cx H locs lsM hP hD hS hL)
  · exact va_getN cx.1 cx.2.1 cx.2.2.2.2.2.2.1 hin cx.2.2.2.2.1 cx.2.2.2.2.2.2.2.2 hP k he hc j hj (va_Nw.use rfl (cx.2.2.2.2.2.2.2.1 _ hlk)) (fun _ h9 => h9) hv hd (kk l p e s mid args below meth c D cy ad cx H locs lsM hP hD hS hL)
set_option maxHeartbeats 1000000 in
theorem sn_putI : Rl_putI ab_W := by
  intro Sh m pc n ls st M Q i k j q x hd hk hf hg hj2 hn kk
  subst hn
  intro l p e s mid args below meth c D cy ad cx H locs lsM hP hD hS hL
  obtain ⟨C, T, N, ty0, hc, hj, hin, hty, hnm, hlk⟩ := hf
  obtain ⟨C', T', N', hc', hfin, hpi⟩ := hg
  cases hc.symm.trans hc'
  have he : (ab_ws cy Sh ad M)[k]? = some (ad k, .inr (q.1, ab_flds ad (M k) q.2)) := by rw [ab_get, hk]; rfl
  have hl : j < (ab_flds ad (M k) q.2).length := by
    have := (List.getElem?_eq_some_iff.mp hj2).1
    simpa [ab_flds] using this
  rcases hlk with hlk | ⟨host, hlk⟩
  · refine va_put (v := .int x) cx.1 cx.2.1 cx.2.2.2.2.2.2.1 hin ty0 hty hnm cx.2.2.2.2.1 cx.2.2.2.2.2.2.2.2 hP hD hS k he hc j hj (cx.2.2.2.2.2.2.1 _ hlk) (fun _ h9 => h9) hfin hpi rfl rfl hl hd (fun H1 locs1 hP1 hD1 hS1 => ?_)
    rw [ab_setF hk hj2] at hP1 hD1
    exact kk l p e s mid args below meth c D cy ad cx H1 locs1 lsM hP1 hD1 hS1 hL
  · refine va_putN (v := .int x) cx.1 cx.2.1 cx.2.2.2.2.2.2.1 hin ty0 hty hnm cx.2.2.2.2.1 cx.2.2.2.2.2.2.2.2 hP hD hS k he hc j hj (va_Nw.use rfl (cx.2.2.2.2.2.2.2.1 _ hlk)) (fun _ h9 => h9) hfin hpi rfl rfl hl hd (fun H1 locs1 hP1 hD1 hS1 => ?_)
    rw [ab_setF hk hj2] at hP1 hD1
    exact kk l p e s mid args below meth c D cy ad cx H1 locs1 lsM hP1 hD1 hS1 hL
set_option maxHeartbeats 1000000 in
theorem sn_iald : Rl_iald ab_W := by
  intro Sh m pc n ls st M Q k N i hd hk hi hn kk
  subst hn
  intro l p e s mid args below meth c D cy ad cx H locs lsM hP hD hS hL
  have he : (ab_ws cy Sh ad M)[k]? = some (ad k, .inl (cy, N, .inl (M k))) := by rw [ab_get, hk]; rfl
  exact va_iald cx.1 cx.2.1 cx.2.2.2.2.2.2.2.2 hP k 0 he rfl hi hd (kk l p e s mid args below meth c D cy ad cx H locs lsM hP hD hS hL)
set_option maxHeartbeats 1000000 in
theorem sn_iast : Rl_iast ab_W := by
  intro Sh m pc n ls st M Q k N i x hd hk hi hn kk
  subst hn
  intro l p e s mid args below meth c D cy ad cx H locs lsM hP hD hS hL
  have he : (ab_ws cy Sh ad M)[k]? = some (ad k, .inl (cy, N, .inl (M k))) := by rw [ab_get, hk]; rfl
  refine va_iast cx.1 cx.2.1 cx.2.2.2.2.2.2.2.2 hP hD hS k 0 he rfl hi hd (fun H1 locs1 hP1 hD1 hS1 => ?_)
  rw [ab_setA hk] at hP1 hD1
  exact kk l p e s mid args below meth c D cy ad cx H1 locs1 lsM hP1 hD1 hS1 hL
set_option maxHeartbeats 1000000 in
theorem sn_iret : Rl_iret ab_W := by
  intro Sh m pc ls M Q v hd hr hQ 
  intro l p e s mid args below meth c D cy ad cx H locs lsM hP hD hS hL
  exact W.iret cx.1 cx.2.1 (cx.2.2.1.trans hr) (fun t ht _ => ⟨⟨some (.int v), M, rfl, hQ, by rw [ht]; exact hP, hD⟩, hS.F ht⟩) hS.2.2 hd (hlocks := cx.2.2.2.2.2.1)
set_option maxHeartbeats 1000000 in
theorem sn_zret : Rl_zret ab_W := by
  intro Sh m pc ls M Q v hd hr hz hQ 
  intro l p e s mid args below meth c D cy ad cx H locs lsM hP hD hS hL
  exact W.zret cx.1 cx.2.1 (cx.2.2.1.trans hr) (by rcases hz with rfl | rfl <;> decide) (fun t ht _ => ⟨⟨some (.int v), M, rfl, hQ, by rw [ht]; exact hP, hD⟩, hS.F ht⟩) hS.2.2 hd (hlocks := cx.2.2.2.2.2.1)
set_option maxHeartbeats 1000000 in
theorem sn_lret : Rl_lret ab_W := by
  intro Sh m pc ls M Q v hd hr hQ 
  intro l p e s mid args below meth c D cy ad cx H locs lsM hP hD hS hL
  exact W.lret cx.1 cx.2.1 (cx.2.2.1.trans hr) (fun t ht _ => ⟨⟨some (.long v), M, rfl, hQ, by rw [ht]; exact hP, hD⟩, hS.F ht⟩) hS.2.2 hd (hlocks := cx.2.2.2.2.2.1)
set_option maxHeartbeats 1000000 in
theorem sn_vret : Rl_vret ab_W := by
  intro Sh m pc ls M Q hd hr hQ 
  intro l p e s mid args below meth c D cy ad cx H locs lsM hP hD hS hL
  exact W.vret cx.1 cx.2.1 (cx.2.2.1.trans hr) (fun t ht _ => ⟨⟨none, M, rfl, hQ, by rw [ht]; exact hP, hD⟩, hS.F ht⟩) hS.2.2 hd (hlocks := cx.2.2.2.2.2.1)
set_option maxHeartbeats 1000000 in
theorem sn_callV : Rl_callV ab_W := by
  intro Sh m m2 pc n ls st as rest M Q Q2 i np k hd hml hmo hrm him hob hst hnp hle hw hn k1 k2
  subst hn
  subst hst
  intro l p e s mid args below meth c D cy ad cx H locs lsM hP hD hS hL
  obtain ⟨q, r0, hk, hc, hcl⟩ := hob
  have he : (ab_ws cy Sh ad M)[k]? = some (ad k, .inr (q.1, ab_flds ad (M k) q.2)) := by rw [ab_get, hk]; rfl
  have hM := ab_met l D cy ad k1 hmo hle
  have hwd := ab_words (m2 := m2) cx hmo
  have hp := ab_prev (As := as.map (ab_cv ad)) cx hP hD he hc (M := M) (k := k)
  rw [hcl] at hp
  simp only [ab_RM, Bool.and_eq_true, Nat.ble_eq] at hrm
  have hstk : (List.map (ab_cv ad) (as.reverse ++ Value.ref k :: rest)) = (as.map (ab_cv ad)).reverse ++ Value.ref (ad k) :: rest.map (ab_cv ad) := by simp [ab_cv]
  have hrun : va_Run p l e (ab_rm m) s mid args below meth c H locs 0 0 0 0 (F0 mid pc lsM (List.map (ab_cv ad) (as.reverse ++ Value.ref k :: rest))) (rest.map (ab_cv ad)) (ab_Q Sh D cy ad Q2 (Value.ref (ad k) :: as.map (ab_cv ad)).toArray) (ab_AD Sh ad) := by
    rcases hml with hlk | ⟨host, hlk⟩
    · exact va_runV (cc := m.2.1) (nL := m.2.2.1) (Ts := wAll) (own := m.1.cls) (C := m2.1.cls) ⟨cx.1, cx.2.1, cx.2.2.2.1, cx.2.2.2.2.1, cx.2.2.2.2.2.2.1⟩ hM ⟨⟨rfl, rfl, hrm.1, hrm.2, hwd.1, List.mem_cons_self, cx.2.2.2.2.2.2.1 _ hmo.1, cx.2.2.2.2.2.2.1 _ hmo.2.1, ⟨hmo.2.2.1, hmo.2.2.2.1⟩, hwd.2, cx.2.2.2.2.2.2.1 _ hlk⟩, cx.2.2.2.2.2.2.1 _ him.1, cx.2.2.2.2.2.2.1 _ him.2⟩ hp rfl (by rw [List.length_map]; exact hnp) hL.1 hstk (lv_room (by rw [ab_catS]; exact hw)) hd ⟨Nat.zero_le _, Nat.zero_le _⟩
    · exact va_runVN (cc := m.2.1) (nL := m.2.2.1) (Ts := wAll) (own := m.1.cls) (C := m2.1.cls) ⟨cx.1, cx.2.1, cx.2.2.2.1, cx.2.2.2.2.1, cx.2.2.2.2.2.2.1⟩ hM ⟨⟨⟨rfl, rfl, hrm.1, hrm.2, hwd.1, List.mem_cons_self⟩, cx.2.2.2.2.2.2.1 _ hmo.1, cx.2.2.2.2.2.2.1 _ hmo.2.1, ⟨hmo.2.2.1, hmo.2.2.2.1⟩, hwd.2, va_Nw.use rfl (cx.2.2.2.2.2.2.2.1 _ hlk)⟩, cx.2.2.2.2.2.2.1 _ him.1, cx.2.2.2.2.2.2.1 _ him.2⟩ hp rfl (by rw [List.length_map]; exact hnp) hL.1 hstk (lv_room (by rw [ab_catS]; exact hw)) hd ⟨Nat.zero_le _, Nat.zero_le _⟩
  exact ab_callX hrun hS (fun r M2 H1 locs1 hq hP1 hD1 hS1 => k2 r M2 hq l p e s mid args below meth c D cy ad cx H1 locs1 lsM hP1 hD1 hS1 hL)
set_option maxHeartbeats 1000000 in
theorem sn_callS : Rl_callS ab_W := by
  intro Sh m m2 pc n ls st as rest M Q Q2 i np hd hml hmo hrm hsm hst hnp hle hw hn k1 k2
  subst hn
  subst hst
  intro l p e s mid args below meth c D cy ad cx H locs lsM hP hD hS hL
  have hM := ab_met l D cy ad k1 hmo hle
  have hwd := ab_words (m2 := m2) cx hmo
  have hp := ab_pres (As := as.map (ab_cv ad)) cx hP hD (M := M)
  simp only [ab_RM, Bool.and_eq_true, Nat.ble_eq] at hrm
  have hstk : (List.map (ab_cv ad) (as.reverse ++ rest)) = (as.map (ab_cv ad)).reverse ++ rest.map (ab_cv ad) := by simp
  have hrun : va_Run p l e (ab_rm m) s mid args below meth c H locs 0 0 0 0 (F0 mid pc lsM (List.map (ab_cv ad) (as.reverse ++ rest))) (rest.map (ab_cv ad)) (ab_Q Sh D cy ad Q2 (as.map (ab_cv ad)).toArray) (ab_AD Sh ad) := by
    rcases hml with hlk | ⟨host, hlk⟩
    · exact va_runS (cc := m.2.1) (nL := m.2.2.1) (Ts := wAll) (own := m.1.cls) ⟨cx.1, cx.2.1, cx.2.2.2.1, cx.2.2.2.2.1, cx.2.2.2.2.2.2.1⟩ hM ⟨⟨rfl, rfl, hrm.1, hrm.2, hwd.1, List.mem_cons_self, cx.2.2.2.2.2.2.1 _ hmo.1, cx.2.2.2.2.2.2.1 _ hmo.2.1, ⟨hmo.2.2.1, hmo.2.2.2.1⟩, hwd.2, cx.2.2.2.2.2.2.1 _ hlk⟩, cx.2.2.2.2.2.2.1 _ hsm⟩ hp rfl (by rw [List.length_map]; exact hnp) hL.1 hstk (lv_room (by rw [ab_catS]; exact hw)) hd ⟨Nat.zero_le _, Nat.zero_le _⟩
    · exact va_runSN (cc := m.2.1) (nL := m.2.2.1) (Ts := wAll) (own := m.1.cls) ⟨cx.1, cx.2.1, cx.2.2.2.1, cx.2.2.2.2.1, cx.2.2.2.2.2.2.1⟩ hM ⟨⟨⟨rfl, rfl, hrm.1, hrm.2, hwd.1, List.mem_cons_self⟩, cx.2.2.2.2.2.2.1 _ hmo.1, cx.2.2.2.2.2.2.1 _ hmo.2.1, ⟨hmo.2.2.1, hmo.2.2.2.1⟩, hwd.2, va_Nw.use rfl (cx.2.2.2.2.2.2.2.1 _ hlk)⟩, cx.2.2.2.2.2.2.1 _ hsm, trivial⟩ hp rfl (by rw [List.length_map]; exact hnp) hL.1 hstk (lv_room (by rw [ab_catS]; exact hw)) hd ⟨Nat.zero_le _, Nat.zero_le _⟩
  exact ab_callX hrun hS (fun r M2 H1 locs1 hq hP1 hD1 hS1 => k2 r M2 hq l p e s mid args below meth c D cy ad cx H1 locs1 lsM hP1 hD1 hS1 hL)
set_option maxHeartbeats 1000000 in
theorem sn_imax : Rl_imax ab_W := by
  intro Sh m pc n ls st M Q i x y hd h1 h2 h3 h4 hfr hlo hn k
  subst hn
  intro l p e s mid args below meth c D cy ad cx H locs lsM hP hD hS hL
  have hw := cx.2.2.2.2.2.2.1
  exact va_mmax cx.1 cx.2.1 (cx.2.2.2.1.trans hL.1.symm) cx.2.2.2.2.1 (hw _ h1) (hw _ h2) (hw _ h3) (hw _ h4) hfr (by rw [ab_catS]; exact hlo) (Nat.zero_le _) (Nat.zero_le _) hd (k l p e s mid args below meth c D cy ad cx H locs lsM hP hD hS hL)
set_option maxHeartbeats 1000000 in
theorem sn_imin : Rl_imin ab_W := by
  intro Sh m pc n ls st M Q i x y hd h1 h2 h3 h4 hfr hlo hn k
  subst hn
  intro l p e s mid args below meth c D cy ad cx H locs lsM hP hD hS hL
  have hw := cx.2.2.2.2.2.2.1
  exact va_mmin cx.1 cx.2.1 (cx.2.2.2.1.trans hL.1.symm) cx.2.2.2.2.1 (hw _ h1) (hw _ h2) (hw _ h3) (hw _ h4) hfr (by rw [ab_catS]; exact hlo) (Nat.zero_le _) (Nat.zero_le _) hd (k l p e s mid args below meth c D cy ad cx H locs lsM hP hD hS hL)
theorem ab_snd : Rls ab_W := ⟨sn_iadd, sn_isub, sn_imul, sn_iand, sn_ior, sn_ixor, sn_ishl, sn_ishr, sn_iushr, sn_idiv, sn_irem, sn_ladd, sn_lmul, sn_ldiv, sn_lcmp, sn_i2l, sn_l2i, sn_dup, sn_pop, sn_dup2, sn_iconst, sn_bipush, sn_sipush, sn_lconst, sn_ldc, sn_ldcw, sn_ldc2, sn_iload_n, sn_iload, sn_lload_n, sn_lload, sn_aload_n, sn_istore_n, sn_istore, sn_lstore_n, sn_lstore, sn_iinc, sn_if_eq, sn_if_ne, sn_if_lt, sn_if_ge, sn_if_gt, sn_if_le, sn_icmp_eq, sn_icmp_ne, sn_icmp_lt, sn_icmp_ge, sn_icmp_gt, sn_icmp_le, sn_goto, sn_tabOut, sn_tabIn, sn_getI, sn_getR, sn_putI, sn_iald, sn_iast, sn_iret, sn_zret, sn_lret, sn_vret, sn_callV, sn_callS, sn_imax, sn_imin⟩
theorem Ev.sound {Sh : Shp} {m : MI} {pc : Nat} {ls st : List Value} {M : Mm} {Q : Pst} (h : Ev Sh m pc ls st M Q) : ab_W Sh m pc ls st M Q := h ab_W ab_snd
end
section
/-! methods, their links, fields and constants -/
def mX0_init : MI := (yX0_init, cX0_init, 4, none, 1, 12)
def mX0_gather : MI := (yX0_gather, cX0_gather, 4, none, 5, 112)
def mX0_hasFault : MI := (yX0_hasFault, cX0_hasFault, 4, some .boolean, 4, 89)
def mX0_isNameless : MI := (yX0_isNameless, cX0_isNameless, 3, some .boolean, 1, 22)
def mX0_isTwin : MI := (yX0_isTwin, cX0_isTwin, 5, some .boolean, 2, 45)
def mX0_isPale : MI := (yX0_isPale, cX0_isPale, 3, some .boolean, 3, 67)
def mX0_isClosed : MI := (yX0_isClosed, cX0_isClosed, 6, some .boolean, 2, 43)
def mX0_isShort : MI := (yX0_isShort, cX0_isShort, 3, some .boolean, 1, 22)
def mX0_partAt : MI := (yX0_partAt, cX0_partAt, 2, some .int, 0, 0)
def mX0_sortAt : MI := (yX0_sortAt, cX0_sortAt, 2, some .int, 0, 0)
def mX0_mendAt : MI := (yX0_mendAt, cX0_mendAt, 5, none, 2, 46)
def mX1_init : MI := (yX1_init, cX1_init, 2, none, 1, 12)
def mX1_compose : MI := (yX1_compose, cX1_compose, 3, none, 3, 68)
def mX1_addTextsIn : MI := (yX1_addTextsIn, cX1_addTextsIn, 5, none, 2, 44)
def mX1_addOwnOf : MI := (yX1_addOwnOf, cX1_addOwnOf, 3, none, 1, 22)
def mX1_add : MI := (yX1_add, cX1_add, 3, none, 0, 0)
def mX1_lengthOf : MI := (yX1_lengthOf, cX1_lengthOf, 2, some .int, 0, 0)
def mX1_wordOf : MI := (yX1_wordOf, cX1_wordOf, 3, some .int, 0, 0)
def mX1_areAlike : MI := (yX1_areAlike, cX1_areAlike, 4, some .boolean, 1, 22)
def mX2_init : MI := (yX2_init, cX2_init, 1, none, 3, 71)
def mX2_has : MI := (yX2_has, cX2_has, 2, some .boolean, 0, 0)
def mX2_isFull : MI := (yX2_isFull, cX2_isFull, 1, some .boolean, 0, 0)
def mX2_get : MI := (yX2_get, cX2_get, 3, some .int, 0, 0)
def mX2_put : MI := (yX2_put, cX2_put, 4, none, 0, 0)
def mX2_add : MI := (yX2_add, cX2_add, 5, some .int, 2, 47)
def mX2_insertInOrder : MI := (yX2_insertInOrder, cX2_insertInOrder, 5, none, 1, 23)
def mX2_spotInOrder : MI := (yX2_spotInOrder, cX2_spotInOrder, 4, some .int, 0, 0)
def mX2_putFirstValues : MI := (yX2_putFirstValues, cX2_putFirstValues, 4, none, 1, 23)
def mX2_allows : MI := (yX2_allows, cX2_allows, 3, some .boolean, 1, 21)
def mX2_hiddenNow : MI := (yX2_hiddenNow, cX2_hiddenNow, 3, some .int, 1, 22)
def mX2_shownNow : MI := (yX2_shownNow, cX2_shownNow, 1, some .int, 2, 44)
def mX2_shownUnder : MI := (yX2_shownUnder, cX2_shownUnder, 5, some .int, 0, 0)
def mX2_stopsAmong : MI := (yX2_stopsAmong, cX2_stopsAmong, 2, some .int, 0, 0)
def mX2_openedBesides : MI := (yX2_openedBesides, cX2_openedBesides, 5, some .int, 1, 22)
def mX2_openedByButton : MI := (yX2_openedByButton, cX2_openedByButton, 2, some .int, 1, 22)
def mX2_trapAround : MI := (yX2_trapAround, cX2_trapAround, 3, some .int, 1, 21)
def mX2_liveAround : MI := (yX2_liveAround, cX2_liveAround, 2, some .int, 1, 21)
def mX2_contrastOf : MI := (yX2_contrastOf, cX2_contrastOf, 2, some .int, 2, 46)
def mX3_init : MI := (yX3_init, cX3_init, 2, none, 1, 12)
def mX3_gather : MI := (yX3_gather, cX3_gather, 4, none, 2, 44)
def mX3_isToBeSaid : MI := (yX3_isToBeSaid, cX3_isToBeSaid, 3, some .boolean, 1, 22)
def mX3_at : MI := (yX3_at, cX3_at, 2, some .int, 0, 0)
def mX3_compare : MI := (yX3_compare, cX3_compare, 3, none, 3, 66)
def mX3_isAstray : MI := (yX3_isAstray, cX3_isAstray, 3, some .boolean, 2, 44)
def mX3_hasArea : MI := (yX3_hasArea, cX3_hasArea, 2, some .boolean, 1, 22)
def mX3_isAbove : MI := (yX3_isAbove, cX3_isAbove, 3, some .boolean, 1, 22)
def mX3_isLeftOf : MI := (yX3_isLeftOf, cX3_isLeftOf, 3, some .boolean, 1, 22)
def mX4_init : MI := (yX4_init, cX4_init, 1, none, 1, 12)
def mX4_add : MI := (yX4_add, cX4_add, 3, none, 0, 0)
def mX4_takeFirst : MI := (yX4_takeFirst, cX4_takeFirst, 3, some .int, 0, 0)
def mX5_init : MI := (yX5_init, cX5_init, 2, none, 1, 12)
def mX5_arrange : MI := (yX5_arrange, cX5_arrange, 4, none, 3, 66)
def mX5_insert : MI := (yX5_insert, cX5_insert, 3, none, 2, 44)
def mX5_rank : MI := (yX5_rank, cX5_rank, 3, some .int, 1, 22)
def mX5_at : MI := (yX5_at, cX5_at, 5, some .int, 1, 21)
def mX5_turn : MI := (yX5_turn, cX5_turn, 8, some .int, 2, 43)
def mX5_spotBehind : MI := (yX5_spotBehind, cX5_spotBehind, 2, some .int, 0, 0)
def mX5_spotAhead : MI := (yX5_spotAhead, cX5_spotAhead, 2, some .int, 0, 0)
def mX5_spotOf : MI := (yX5_spotOf, cX5_spotOf, 3, some .int, 0, 0)
def mX6_init : MI := (yX6_init, cX6_init, 3, none, 1, 12)
def mX6_lengthTo : MI := (yX6_lengthTo, cX6_lengthTo, 4, some .int, 5, 119)
def mX6_firstKeyTo : MI := (yX6_firstKeyTo, cX6_firstKeyTo, 4, some .int, 5, 119)
def mX6_leadOutOf : MI := (yX6_leadOutOf, cX6_leadOutOf, 3, some .boolean, 5, 119)
def mX6_find : MI := (yX6_find, cX6_find, 4, some .int, 4, 96)
def mX6_takeDoors : MI := (yX6_takeDoors, cX6_takeDoors, 3, none, 2, 46)
def mX6_doorsShutNow : MI := (yX6_doorsShutNow, cX6_doorsShutNow, 3, some .int, 1, 22)
def mX6_shownIf : MI := (yX6_shownIf, cX6_shownIf, 4, some .int, 1, 24)
def mX6_focusIn : MI := (yX6_focusIn, cX6_focusIn, 1, some .int, 0, 0)
def mX6_pressAllKeys : MI := (yX6_pressAllKeys, cX6_pressAllKeys, 7, none, 3, 70)
def mX6_doorOf : MI := (yX6_doorOf, cX6_doorOf, 4, some .int, 2, 43)
def mX6_comeFrom : MI := (yX6_comeFrom, cX6_comeFrom, 5, none, 1, 25)
def mX6_come : MI := (yX6_come, cX6_come, 6, none, 0, 0)
def mX7_init : MI := (yX7_init, cX7_init, 1, none, 4, 91)
def mX7_part : MI := (yX7_part, cX7_part, 4, some .int, 4, 89)
def mX7_set : MI := (yX7_set, cX7_set, 4, some .int, 5, 113)
def mX7_told : MI := (yX7_told, cX7_told, 3, some .int, 3, 64)
def mX7_box : MI := (yX7_box, cX7_box, 6, some .int, 1, 23)
def mX7_colours : MI := (yX7_colours, cX7_colours, 4, some .int, 3, 67)
def mX7_contrast : MI := (yX7_contrast, cX7_contrast, 2, some .int, 3, 67)
def mX7_name : MI := (yX7_name, cX7_name, 2, some .int, 4, 90)
def mX7_word : MI := (yX7_word, cX7_word, 3, some .int, 4, 90)
def mX7_said : MI := (yX7_said, cX7_said, 2, some .int, 3, 67)
def mX7_pairs : MI := (yX7_pairs, cX7_pairs, 1, some .int, 4, 88)
def mX7_stop : MI := (yX7_stop, cX7_stop, 2, some .int, 3, 64)
def mX7_press : MI := (yX7_press, cX7_press, 2, some .int, 6, 134)
def mX7_focus : MI := (yX7_focus, cX7_focus, 1, some .int, 0, 0)
def mX7_caught : MI := (yX7_caught, cX7_caught, 1, some .int, 3, 64)
def mX7_leave : MI := (yX7_leave, cX7_leave, 2, some .int, 0, 0)
def mX7_walk : MI := (yX7_walk, cX7_walk, 2, some .int, 6, 142)
def mX7_key : MI := (yX7_key, cX7_key, 2, some .int, 6, 142)
def mX7_keeper : MI := (yX7_keeper, cX7_keeper, 2, some .int, 6, 141)
def mX7_hear : MI := (yX7_hear, cX7_hear, 1, some .int, 1, 22)
def mX7_wrongs : MI := (yX7_wrongs, cX7_wrongs, 1, some .int, 6, 135)
def mX7_wrong : MI := (yX7_wrong, cX7_wrong, 3, some .int, 6, 135)
def mX7_mend : MI := (yX7_mend, cX7_mend, 4, some .int, 6, 135)
def mX7_count : MI := (yX7_count, cX7_count, 2, some .int, 3, 67)
def mX7_digest : MI := (yX7_digest, cX7_digest, 5, some .long, 6, 135)
def mX7_opensTooMany : MI := (yX7_opensTooMany, cX7_opensTooMany, 4, some .boolean, 2, 46)
def mX7_change : MI := (yX7_change, cX7_change, 5, some .int, 4, 89)
def mX7_enter : MI := (yX7_enter, cX7_enter, 2, none, 5, 113)
def mX7_speakOf : MI := (yX7_speakOf, cX7_speakOf, 3, none, 3, 64)
def mX7_isLength : MI := (yX7_isLength, cX7_isLength, 1, some .boolean, 0, 0)
def mX7_isColour : MI := (yX7_isColour, cX7_isColour, 1, some .boolean, 0, 0)
def mX7_holds : MI := (yX7_holds, cX7_holds, 2, some .boolean, 0, 0)
def mX7_lastOf : MI := (yX7_lastOf, cX7_lastOf, 2, some .int, 0, 0)
def mX7_light : MI := (yX7_light, cX7_light, 1, some .int, 0, 0)
def mX7_contrastBetween : MI := (yX7_contrastBetween, cX7_contrastBetween, 6, some .int, 1, 21)
def mX8_init : MI := (yX8_init, cX8_init, 1, none, 2, 47)
def mX8_in : MI := (yX8_in, cX8_in, 6, some .boolean, 0, 0)
def mX8_get : MI := (yX8_get, cX8_get, 3, some .int, 0, 0)
def mX8_put : MI := (yX8_put, cX8_put, 4, none, 0, 0)
def mX8_begin : MI := (yX8_begin, cX8_begin, 5, none, 1, 23)
def mX8_isPart : MI := (yX8_isPart, cX8_isPart, 2, some .boolean, 1, 25)
def mX8_part : MI := (yX8_part, cX8_part, 3, some .int, 2, 47)
def mX8_isShown : MI := (yX8_isShown, cX8_isShown, 3, some .boolean, 1, 22)
def mX8_lies : MI := (yX8_lies, cX8_lies, 4, some .boolean, 1, 22)
def mX8_innermost : MI := (yX8_innermost, cX8_innermost, 4, some .int, 1, 22)
def mX8_line : MI := (yX8_line, cX8_line, 5, none, 1, 22)
def mX8_opened : MI := (yX8_opened, cX8_opened, 3, some .int, 2, 46)
def mX8_isOpenedBy : MI := (yX8_isOpenedBy, cX8_isOpenedBy, 5, some .boolean, 1, 22)
def mX8_isFor : MI := (yX8_isFor, cX8_isFor, 3, some .boolean, 2, 46)
def mX8_speak : MI := (yX8_speak, cX8_speak, 5, none, 2, 45)
def mX8_lookAtFocus : MI := (yX8_lookAtFocus, cX8_lookAtFocus, 1, none, 2, 44)
def mX8_set : MI := (yX8_set, cX8_set, 6, some .int, 3, 69)
def mX8_told : MI := (yX8_told, cX8_told, 3, some .int, 2, 46)
def mX8_box : MI := (yX8_box, cX8_box, 6, some .int, 2, 46)
def mX8_light : MI := (yX8_light, cX8_light, 1, some .long, 0, 0)
def mX8_contrastOf : MI := (yX8_contrastOf, cX8_contrastOf, 6, some .int, 1, 20)
def mX8_colours : MI := (yX8_colours, cX8_colours, 4, some .int, 2, 46)
def mX8_contrast : MI := (yX8_contrast, cX8_contrast, 2, some .int, 2, 46)
def mX8_addWord : MI := (yX8_addWord, cX8_addWord, 3, none, 0, 0)
def mX8_findName : MI := (yX8_findName, cX8_findName, 4, none, 2, 46)
def mX8_name : MI := (yX8_name, cX8_name, 2, some .int, 3, 69)
def mX8_word : MI := (yX8_word, cX8_word, 3, some .int, 3, 69)
def mX8_findSaid : MI := (yX8_findSaid, cX8_findSaid, 5, none, 2, 46)
def mX8_said : MI := (yX8_said, cX8_said, 2, some .int, 3, 70)
def mX8_hasBox : MI := (yX8_hasBox, cX8_hasBox, 2, some .boolean, 1, 22)
def mX8_isAbove : MI := (yX8_isAbove, cX8_isAbove, 3, some .boolean, 1, 22)
def mX8_isAstray : MI := (yX8_isAstray, cX8_isAstray, 3, some .boolean, 2, 44)
def mX8_pairs : MI := (yX8_pairs, cX8_pairs, 4, some .int, 3, 70)
def mX8_isStop : MI := (yX8_isStop, cX8_isStop, 2, some .boolean, 2, 44)
def mX8_findStops : MI := (yX8_findStops, cX8_findStops, 6, none, 3, 65)
def mX8_stop : MI := (yX8_stop, cX8_stop, 2, some .int, 4, 90)
def mX8_trapOf : MI := (yX8_trapOf, cX8_trapOf, 2, some .int, 2, 45)
def mX8_pressed : MI := (yX8_pressed, cX8_pressed, 4, none, 4, 90)
def mX8_press : MI := (yX8_press, cX8_press, 2, some .int, 5, 113)
def mX8_focus : MI := (yX8_focus, cX8_focus, 1, some .int, 0, 0)
def mX8_caught : MI := (yX8_caught, cX8_caught, 1, some .int, 3, 66)
def mX8_leave : MI := (yX8_leave, cX8_leave, 2, some .int, 0, 0)
def mX8_findDoors : MI := (yX8_findDoors, cX8_findDoors, 2, none, 2, 46)
def mX8_state : MI := (yX8_state, cX8_state, 3, some .int, 1, 22)
def mX8_come : MI := (yX8_come, cX8_come, 3, none, 1, 23)
def mX8_spread : MI := (yX8_spread, cX8_spread, 5, none, 5, 113)
def mX8_leastTo : MI := (yX8_leastTo, cX8_leastTo, 5, some .int, 0, 0)
def mX8_walk : MI := (yX8_walk, cX8_walk, 2, some .int, 6, 137)
def mX8_key : MI := (yX8_key, cX8_key, 6, some .int, 6, 137)
def mX8_keeper : MI := (yX8_keeper, cX8_keeper, 4, some .int, 6, 137)
def mX8_hear : MI := (yX8_hear, cX8_hear, 3, some .int, 0, 0)
def mX8_isTwin : MI := (yX8_isTwin, cX8_isTwin, 6, some .boolean, 3, 65)
def mX8_isClosed : MI := (yX8_isClosed, cX8_isClosed, 5, some .boolean, 3, 65)
def mX8_isAhead : MI := (yX8_isAhead, cX8_isAhead, 5, some .boolean, 3, 66)
def mX8_isWrong : MI := (yX8_isWrong, cX8_isWrong, 5, some .boolean, 4, 90)
def mX8_findWrongs : MI := (yX8_findWrongs, cX8_findWrongs, 3, none, 5, 114)
def mX8_wrongs : MI := (yX8_wrongs, cX8_wrongs, 1, some .int, 6, 136)
def mX8_wrong : MI := (yX8_wrong, cX8_wrong, 3, some .int, 6, 136)
def mX8_mend : MI := (yX8_mend, cX8_mend, 3, some .int, 7, 156)
def mX8_count : MI := (yX8_count, cX8_count, 4, some .int, 4, 90)
def mX8_digest : MI := (yX8_digest, cX8_digest, 5, some .long, 7, 156)
def mJ6_bitCount_0f7a4 : MI := (yJ6_bitCount_0f7a4, cJ6_bitCount_0f7a4, 1, some .int, 0, 0)
def mJ9_max_7cf53 : MI := (yJ9_max_7cf53, cJ9_max_7cf53, 2, some .int, 0, 0)
def mJ9_min_7cf53 : MI := (yJ9_min_7cf53, cJ9_min_7cf53, 2, some .int, 0, 0)
theorem flX7_10 : ab_FL RX7 10 7 0 := ⟨RX7, TX7, 8, tyX7, rfl, by decide, inlX7, tyX7_ok, nmX7, Or.inl (wT1 235 rfl rfl)⟩
theorem flX7_21 : ab_FL RX7 21 7 1 := ⟨RX7, TX7, 8, tyX7, rfl, by decide, inlX7, tyX7_ok, nmX7, Or.inl (wT1 236 rfl rfl)⟩
theorem flX7_28 : ab_FL RX7 28 7 2 := ⟨RX7, TX7, 8, tyX7, rfl, by decide, inlX7, tyX7_ok, nmX7, Or.inl (wT1 237 rfl rfl)⟩
theorem flX7_35 : ab_FL RX7 35 7 3 := ⟨RX7, TX7, 8, tyX7, rfl, by decide, inlX7, tyX7_ok, nmX7, Or.inl (wT1 238 rfl rfl)⟩
theorem flX7_44 : ab_FL RX7 44 7 4 := ⟨RX7, TX7, 8, tyX7, rfl, by decide, inlX7, tyX7_ok, nmX7, Or.inl (wT1 239 rfl rfl)⟩
theorem flX7_53 : ab_FL RX7 53 7 5 := ⟨RX7, TX7, 8, tyX7, rfl, by decide, inlX7, tyX7_ok, nmX7, Or.inl (wT2 0 rfl rfl)⟩
theorem flX7_60 : ab_FL RX7 60 7 6 := ⟨RX7, TX7, 8, tyX7, rfl, by decide, inlX7, tyX7_ok, nmX7, Or.inl (wT2 1 rfl rfl)⟩
theorem flX7_64 : ab_FL RX7 64 7 7 := ⟨RX7, TX7, 8, tyX7, rfl, by decide, inlX7, tyX7_ok, nmX7, Or.inl (wT2 2 rfl rfl)⟩
theorem mlX7_68 : ab_ML RX7 68 mX2_has := Or.inr ⟨"PagesForAll", List.mem_of_getElem? (i := 31) rfl⟩
theorem mlX7_72 : ab_ML RX7 72 mX2_isFull := Or.inr ⟨"PagesForAll", List.mem_of_getElem? (i := 32) rfl⟩
theorem mlX7_76 : ab_ML RX7 76 mX2_add := Or.inr ⟨"PagesForAll", List.mem_of_getElem? (i := 33) rfl⟩
theorem mlX7_80 : ab_ML RX7 80 mX5_arrange := Or.inr ⟨"PagesForAll", List.mem_of_getElem? (i := 34) rfl⟩
theorem mlX7_83 : ab_ML RX7 83 mX2_allows := Or.inr ⟨"PagesForAll", List.mem_of_getElem? (i := 36) rfl⟩
theorem mlX7_87 : ab_ML RX7 87 mX7_opensTooMany := Or.inl (wT2 54 rfl rfl)
theorem mlX7_90 : ab_ML RX7 90 mX7_change := Or.inl (wT2 65 rfl rfl)
theorem mlX7_94 : ab_ML RX7 94 mX2_shownNow := Or.inr ⟨"PagesForAll", List.mem_of_getElem? (i := 42) rfl⟩
theorem mlX7_98 : ab_ML RX7 98 mX7_holds := Or.inl (wT2 63 rfl rfl)
theorem mlX7_101 : ab_ML RX7 101 mX2_get := Or.inr ⟨"PagesForAll", List.mem_of_getElem? (i := 38) rfl⟩
theorem mlX7_104 : ab_ML RX7 104 mX7_isLength := Or.inl (wT2 106 rfl rfl)
theorem mlX7_107 : ab_ML RX7 107 mX2_put := Or.inr ⟨"PagesForAll", List.mem_of_getElem? (i := 39) rfl⟩
theorem mlX7_111 : ab_ML RX7 111 mX7_isColour := Or.inl (wT2 113 rfl rfl)
theorem mlX7_114 : ab_ML RX7 114 mX2_contrastOf := Or.inr ⟨"PagesForAll", List.mem_of_getElem? (i := 44) rfl⟩
theorem mlX7_118 : ab_ML RX7 118 mX1_compose := Or.inr ⟨"PagesForAll", List.mem_of_getElem? (i := 46) rfl⟩
theorem mlX7_122 : ab_ML RX7 122 mX1_lengthOf := Or.inr ⟨"PagesForAll", List.mem_of_getElem? (i := 50) rfl⟩
theorem mlX7_125 : ab_ML RX7 125 mX1_wordOf := Or.inr ⟨"PagesForAll", List.mem_of_getElem? (i := 51) rfl⟩
theorem mlX7_128 : ab_ML RX7 128 mX3_gather := Or.inr ⟨"PagesForAll", List.mem_of_getElem? (i := 52) rfl⟩
theorem mlX7_132 : ab_ML RX7 132 mX3_at := Or.inr ⟨"PagesForAll", List.mem_of_getElem? (i := 55) rfl⟩
theorem mlX7_135 : ab_ML RX7 135 mX3_compare := Or.inr ⟨"PagesForAll", List.mem_of_getElem? (i := 56) rfl⟩
theorem flX7_138 : ab_FL RX7 138 3 4 := ⟨RX3, TX3, 5, tyX3, rfl, by decide, inlX3, tyX3_ok, nmX3, Or.inr ⟨"PagesForAll", List.mem_of_getElem? (i := 23) rfl⟩⟩
theorem mlX7_141 : ab_ML RX7 141 mX5_at := Or.inr ⟨"PagesForAll", List.mem_of_getElem? (i := 57) rfl⟩
theorem mlX7_143 : ab_ML RX7 143 mX7_enter := Or.inl (wT2 229 rfl rfl)
theorem mlX7_146 : ab_ML RX7 146 mX5_turn := Or.inr ⟨"PagesForAll", List.mem_of_getElem? (i := 60) rfl⟩
theorem mlX7_149 : ab_ML RX7 149 mX2_trapAround := Or.inr ⟨"PagesForAll", List.mem_of_getElem? (i := 62) rfl⟩
theorem mlX7_152 : ab_ML RX7 152 mX6_lengthTo := Or.inr ⟨"PagesForAll", List.mem_of_getElem? (i := 63) rfl⟩
theorem mlX7_155 : ab_ML RX7 155 mX6_firstKeyTo := Or.inr ⟨"PagesForAll", List.mem_of_getElem? (i := 71) rfl⟩
theorem mlX7_158 : ab_ML RX7 158 mX6_leadOutOf := Or.inr ⟨"PagesForAll", List.mem_of_getElem? (i := 72) rfl⟩
theorem mlX7_161 : ab_ML RX7 161 mX4_takeFirst := Or.inr ⟨"PagesForAll", List.mem_of_getElem? (i := 73) rfl⟩
theorem mlX7_164 : ab_ML RX7 164 mX0_gather := Or.inr ⟨"PagesForAll", List.mem_of_getElem? (i := 74) rfl⟩
theorem flX7_166 : ab_FL RX7 166 0 5 := ⟨RX0, TX0, 6, tyX0, rfl, by decide, inlX0, tyX0_ok, nmX0, Or.inr ⟨"PagesForAll", List.mem_of_getElem? (i := 27) rfl⟩⟩
theorem mlX7_169 : ab_ML RX7 169 mX0_partAt := Or.inr ⟨"PagesForAll", List.mem_of_getElem? (i := 86) rfl⟩
theorem mlX7_172 : ab_ML RX7 172 mX0_sortAt := Or.inr ⟨"PagesForAll", List.mem_of_getElem? (i := 87) rfl⟩
theorem mlX7_175 : ab_ML RX7 175 mX0_mendAt := Or.inr ⟨"PagesForAll", List.mem_of_getElem? (i := 88) rfl⟩
theorem flX7_178 : ab_FL RX7 178 2 5 := ⟨RX2, TX2, 6, tyX2, rfl, by decide, inlX2, tyX2_ok, nmX2, Or.inr ⟨"PagesForAll", List.mem_of_getElem? (i := 18) rfl⟩⟩
theorem mlX7_179 : ab_ML RX7 179 mJ6_bitCount_0f7a4 := Or.inl (wT2 64 rfl rfl)
theorem mlX7_184 : ab_ML RX7 184 mX2_stopsAmong := Or.inr ⟨"PagesForAll", List.mem_of_getElem? (i := 91) rfl⟩
theorem flX7_187 : ab_FL RX7 187 3 2 := ⟨RX3, TX3, 5, tyX3, rfl, by decide, inlX3, tyX3_ok, nmX3, Or.inr ⟨"PagesForAll", List.mem_of_getElem? (i := 21) rfl⟩⟩
theorem flX7_188 : ab_FL RX7 188 4 1 := ⟨RX4, TX4, 2, tyX4, rfl, by decide, inlX4, tyX4_ok, nmX4, Or.inr ⟨"PagesForAll", List.mem_of_getElem? (i := 30) rfl⟩⟩
theorem mlX7_189 : ab_ML RX7 189 mX2_openedBesides := Or.inr ⟨"PagesForAll", List.mem_of_getElem? (i := 37) rfl⟩
theorem flX7_196 : ab_FL RX7 196 4 0 := ⟨RX4, TX4, 2, tyX4, rfl, by decide, inlX4, tyX4_ok, nmX4, Or.inr ⟨"PagesForAll", List.mem_of_getElem? (i := 29) rfl⟩⟩
theorem mlX7_200 : ab_ML RX7 200 mX7_speakOf := Or.inl (wT2 71 rfl rfl)
theorem mlX7_203 : ab_ML RX7 203 mX2_openedByButton := Or.inr ⟨"PagesForAll", List.mem_of_getElem? (i := 59) rfl⟩
theorem mlX7_206 : ab_ML RX7 206 mX2_liveAround := Or.inr ⟨"PagesForAll", List.mem_of_getElem? (i := 40) rfl⟩
theorem mlX7_209 : ab_ML RX7 209 mX4_add := Or.inr ⟨"PagesForAll", List.mem_of_getElem? (i := 43) rfl⟩
theorem mlX7_212 : ab_ML RX7 212 mX7_light := Or.inl (wT2 124 rfl rfl)
theorem flX0_9 : ab_FL RX0 9 0 3 := ⟨RX0, TX0, 6, tyX0, rfl, by decide, inlX0, tyX0_ok, nmX0, Or.inl (wT1 203 rfl rfl)⟩
theorem flX0_15 : ab_FL RX0 15 0 4 := ⟨RX0, TX0, 6, tyX0, rfl, by decide, inlX0, tyX0_ok, nmX0, Or.inl (wT1 204 rfl rfl)⟩
theorem flX0_18 : ab_FL RX0 18 0 0 := ⟨RX0, TX0, 6, tyX0, rfl, by decide, inlX0, tyX0_ok, nmX0, Or.inl (wT1 200 rfl rfl)⟩
theorem flX0_22 : ab_FL RX0 22 0 1 := ⟨RX0, TX0, 6, tyX0, rfl, by decide, inlX0, tyX0_ok, nmX0, Or.inl (wT1 201 rfl rfl)⟩
theorem flX0_26 : ab_FL RX0 26 0 2 := ⟨RX0, TX0, 6, tyX0, rfl, by decide, inlX0, tyX0_ok, nmX0, Or.inl (wT1 202 rfl rfl)⟩
theorem flX0_30 : ab_FL RX0 30 0 5 := ⟨RX0, TX0, 6, tyX0, rfl, by decide, inlX0, tyX0_ok, nmX0, Or.inl (wT1 205 rfl rfl)⟩
theorem mlX0_34 : ab_ML RX0 34 mX2_shownNow := Or.inr ⟨"PagesForAll", List.mem_of_getElem? (i := 75) rfl⟩
theorem mlX0_40 : ab_ML RX0 40 mX3_gather := Or.inr ⟨"PagesForAll", List.mem_of_getElem? (i := 76) rfl⟩
theorem mlX0_46 : ab_ML RX0 46 mX3_compare := Or.inr ⟨"PagesForAll", List.mem_of_getElem? (i := 77) rfl⟩
theorem flX0_49 : ab_FL RX0 49 2 5 := ⟨RX2, TX2, 6, tyX2, rfl, by decide, inlX2, tyX2_ok, nmX2, Or.inr ⟨"PagesForAll", List.mem_of_getElem? (i := 15) rfl⟩⟩
theorem mlX0_50 : ab_ML RX0 50 mX1_compose := Or.inr ⟨"PagesForAll", List.mem_of_getElem? (i := 78) rfl⟩
theorem mlX0_56 : ab_ML RX0 56 mX7_holds := Or.inr ⟨"PagesForAll", List.mem_of_getElem? (i := 79) rfl⟩
theorem mlX0_60 : ab_ML RX0 60 mX0_hasFault := Or.inl (wT3 117 rfl rfl)
theorem mlX0_64 : ab_ML RX0 64 mX0_isNameless := Or.inl (wT3 121 rfl rfl)
theorem mlX0_68 : ab_ML RX0 68 mX0_isTwin := Or.inl (wT3 127 rfl rfl)
theorem mlX0_71 : ab_ML RX0 71 mX0_isPale := Or.inl (wT3 140 rfl rfl)
theorem mlX0_74 : ab_ML RX0 74 mX2_get := Or.inr ⟨"PagesForAll", List.mem_of_getElem? (i := 80) rfl⟩
theorem mlX0_78 : ab_ML RX0 78 mX0_isClosed := Or.inl (wT3 145 rfl rfl)
theorem flX0_81 : ab_FL RX0 81 3 3 := ⟨RX3, TX3, 5, tyX3, rfl, by decide, inlX3, tyX3_ok, nmX3, Or.inr ⟨"PagesForAll", List.mem_of_getElem? (i := 22) rfl⟩⟩
theorem mlX0_84 : ab_ML RX0 84 mX0_isShort := Or.inl (wT3 150 rfl rfl)
theorem mlX0_87 : ab_ML RX0 87 mX1_lengthOf := Or.inr ⟨"PagesForAll", List.mem_of_getElem? (i := 81) rfl⟩
theorem mlX0_91 : ab_ML RX0 91 mX2_stopsAmong := Or.inr ⟨"PagesForAll", List.mem_of_getElem? (i := 82) rfl⟩
theorem mlX0_94 : ab_ML RX0 94 mX1_areAlike := Or.inr ⟨"PagesForAll", List.mem_of_getElem? (i := 83) rfl⟩
theorem mlX0_97 : ab_ML RX0 97 mX2_contrastOf := Or.inr ⟨"PagesForAll", List.mem_of_getElem? (i := 84) rfl⟩
theorem flX0_100 : ab_FL RX0 100 2 2 := ⟨RX2, TX2, 6, tyX2, rfl, by decide, inlX2, tyX2_ok, nmX2, Or.inr ⟨"PagesForAll", List.mem_of_getElem? (i := 7) rfl⟩⟩
theorem flX0_103 : ab_FL RX0 103 2 1 := ⟨RX2, TX2, 6, tyX2, rfl, by decide, inlX2, tyX2_ok, nmX2, Or.inr ⟨"PagesForAll", List.mem_of_getElem? (i := 3) rfl⟩⟩
theorem mlX0_106 : ab_ML RX0 106 mX2_openedByButton := Or.inr ⟨"PagesForAll", List.mem_of_getElem? (i := 85) rfl⟩
theorem mlX0_109 : ab_ML RX0 109 mX2_put := Or.inr ⟨"PagesForAll", List.mem_of_getElem? (i := 89) rfl⟩
theorem mlX0_115 : ab_ML RX0 115 mX7_contrastBetween := Or.inr ⟨"PagesForAll", List.mem_of_getElem? (i := 90) rfl⟩
theorem flX1_9 : ab_FL RX1 9 1 1 := ⟨RX1, TX1, 3, tyX1, rfl, by decide, inlX1, tyX1_ok, nmX1, Or.inl (wT1 104 rfl rfl)⟩
theorem flX1_15 : ab_FL RX1 15 1 2 := ⟨RX1, TX1, 3, tyX1, rfl, by decide, inlX1, tyX1_ok, nmX1, Or.inl (wT1 105 rfl rfl)⟩
theorem flX1_18 : ab_FL RX1 18 1 0 := ⟨RX1, TX1, 3, tyX1, rfl, by decide, inlX1, tyX1_ok, nmX1, Or.inl (wT1 103 rfl rfl)⟩
theorem mlX1_22 : ab_ML RX1 22 mX2_get := Or.inr ⟨"PagesForAll", List.mem_of_getElem? (i := 47) rfl⟩
theorem mlX1_28 : ab_ML RX1 28 mX1_addOwnOf := Or.inl (wT2 148 rfl rfl)
theorem mlX1_32 : ab_ML RX1 32 mX1_add := Or.inl (wT2 153 rfl rfl)
theorem mlX1_35 : ab_ML RX1 35 mX1_addTextsIn := Or.inl (wT2 157 rfl rfl)
theorem flX1_38 : ab_FL RX1 38 2 2 := ⟨RX2, TX2, 6, tyX2, rfl, by decide, inlX2, tyX2_ok, nmX2, Or.inr ⟨"PagesForAll", List.mem_of_getElem? (i := 4) rfl⟩⟩
theorem flX1_41 : ab_FL RX1 41 2 3 := ⟨RX2, TX2, 6, tyX2, rfl, by decide, inlX2, tyX2_ok, nmX2, Or.inr ⟨"PagesForAll", List.mem_of_getElem? (i := 8) rfl⟩⟩
theorem flX1_44 : ab_FL RX1 44 2 5 := ⟨RX2, TX2, 6, tyX2, rfl, by decide, inlX2, tyX2_ok, nmX2, Or.inr ⟨"PagesForAll", List.mem_of_getElem? (i := 16) rfl⟩⟩
theorem flX1_48 : ab_FL RX1 48 2 4 := ⟨RX2, TX2, 6, tyX2, rfl, by decide, inlX2, tyX2_ok, nmX2, Or.inr ⟨"PagesForAll", List.mem_of_getElem? (i := 12) rfl⟩⟩
theorem mlX1_51 : ab_ML RX1 51 mX7_holds := Or.inr ⟨"PagesForAll", List.mem_of_getElem? (i := 49) rfl⟩
theorem mlX1_55 : ab_ML RX1 55 mX2_has := Or.inr ⟨"PagesForAll", List.mem_of_getElem? (i := 48) rfl⟩
theorem mlX1_59 : ab_ML RX1 59 mX1_wordOf := Or.inl (wT3 139 rfl rfl)
theorem flX2_9 : ab_FL RX2 9 2 0 := ⟨RX2, TX2, 6, tyX2, rfl, by decide, inlX2, tyX2_ok, nmX2, Or.inl (wT1 60 rfl rfl)⟩
theorem flX2_15 : ab_FL RX2 15 2 1 := ⟨RX2, TX2, 6, tyX2, rfl, by decide, inlX2, tyX2_ok, nmX2, Or.inl (wT1 61 rfl rfl)⟩
theorem flX2_18 : ab_FL RX2 18 2 2 := ⟨RX2, TX2, 6, tyX2, rfl, by decide, inlX2, tyX2_ok, nmX2, Or.inl (wT1 64 rfl rfl)⟩
theorem flX2_21 : ab_FL RX2 21 2 3 := ⟨RX2, TX2, 6, tyX2, rfl, by decide, inlX2, tyX2_ok, nmX2, Or.inl (wT1 69 rfl rfl)⟩
theorem flX2_24 : ab_FL RX2 24 2 4 := ⟨RX2, TX2, 6, tyX2, rfl, by decide, inlX2, tyX2_ok, nmX2, Or.inl (wT1 72 rfl rfl)⟩
theorem flX2_27 : ab_FL RX2 27 2 5 := ⟨RX2, TX2, 6, tyX2, rfl, by decide, inlX2, tyX2_ok, nmX2, Or.inl (wT1 76 rfl rfl)⟩
theorem mlX2_31 : ab_ML RX2 31 mX2_add := Or.inl (wT1 26 rfl rfl)
theorem mlX2_35 : ab_ML RX2 35 mX2_insertInOrder := Or.inl (wT1 30 rfl rfl)
theorem mlX2_39 : ab_ML RX2 39 mX2_has := Or.inl (wT1 34 rfl rfl)
theorem mlX2_43 : ab_ML RX2 43 mX7_holds := Or.inr ⟨"PagesForAll", List.mem_of_getElem? (i := 1) rfl⟩
theorem mlX2_47 : ab_ML RX2 47 mX2_putFirstValues := Or.inl (wT1 51 rfl rfl)
theorem mlX2_51 : ab_ML RX2 51 mX2_spotInOrder := Or.inl (wT1 38 rfl rfl)
theorem mlX2_55 : ab_ML RX2 55 mJ6_bitCount_0f7a4 := Or.inl (wT1 42 rfl rfl)
theorem mlX2_60 : ab_ML RX2 60 mX2_put := Or.inl (wT1 55 rfl rfl)
theorem mlX2_64 : ab_ML RX2 64 mX2_get := Or.inl (wT2 62 rfl rfl)
theorem mlX2_67 : ab_ML RX2 67 mX2_hiddenNow := Or.inl (wT2 86 rfl rfl)
theorem mlX2_71 : ab_ML RX2 71 mX2_shownUnder := Or.inl (wT2 90 rfl rfl)
theorem mlX2_74 : ab_ML RX2 74 mX7_lastOf := Or.inr ⟨"PagesForAll", List.mem_of_getElem? (i := 41) rfl⟩
theorem mlX2_77 : ab_ML RX2 77 mX7_contrastBetween := Or.inr ⟨"PagesForAll", List.mem_of_getElem? (i := 45) rfl⟩
theorem flX3_9 : ab_FL RX3 9 3 1 := ⟨RX3, TX3, 5, tyX3, rfl, by decide, inlX3, tyX3_ok, nmX3, Or.inl (wT1 120 rfl rfl)⟩
theorem flX3_15 : ab_FL RX3 15 3 0 := ⟨RX3, TX3, 5, tyX3, rfl, by decide, inlX3, tyX3_ok, nmX3, Or.inl (wT1 119 rfl rfl)⟩
theorem flX3_19 : ab_FL RX3 19 3 2 := ⟨RX3, TX3, 5, tyX3, rfl, by decide, inlX3, tyX3_ok, nmX3, Or.inl (wT1 121 rfl rfl)⟩
theorem flX3_23 : ab_FL RX3 23 3 3 := ⟨RX3, TX3, 5, tyX3, rfl, by decide, inlX3, tyX3_ok, nmX3, Or.inl (wT1 123 rfl rfl)⟩
theorem flX3_26 : ab_FL RX3 26 3 4 := ⟨RX3, TX3, 5, tyX3, rfl, by decide, inlX3, tyX3_ok, nmX3, Or.inl (wT1 125 rfl rfl)⟩
theorem flX3_29 : ab_FL RX3 29 2 5 := ⟨RX2, TX2, 6, tyX2, rfl, by decide, inlX2, tyX2_ok, nmX2, Or.inr ⟨"PagesForAll", List.mem_of_getElem? (i := 14) rfl⟩⟩
theorem flX3_32 : ab_FL RX3 32 2 4 := ⟨RX2, TX2, 6, tyX2, rfl, by decide, inlX2, tyX2_ok, nmX2, Or.inr ⟨"PagesForAll", List.mem_of_getElem? (i := 11) rfl⟩⟩
theorem mlX3_35 : ab_ML RX3 35 mX7_holds := Or.inr ⟨"PagesForAll", List.mem_of_getElem? (i := 53) rfl⟩
theorem mlX3_39 : ab_ML RX3 39 mX3_isToBeSaid := Or.inl (wT2 183 rfl rfl)
theorem mlX3_43 : ab_ML RX3 43 mX2_get := Or.inr ⟨"PagesForAll", List.mem_of_getElem? (i := 54) rfl⟩
theorem flX3_47 : ab_FL RX3 47 2 1 := ⟨RX2, TX2, 6, tyX2, rfl, by decide, inlX2, tyX2_ok, nmX2, Or.inr ⟨"PagesForAll", List.mem_of_getElem? (i := 2) rfl⟩⟩
theorem flX3_50 : ab_FL RX3 50 2 3 := ⟨RX2, TX2, 6, tyX2, rfl, by decide, inlX2, tyX2_ok, nmX2, Or.inr ⟨"PagesForAll", List.mem_of_getElem? (i := 9) rfl⟩⟩
theorem mlX3_53 : ab_ML RX3 53 mX3_isAstray := Or.inl (wT2 200 rfl rfl)
theorem mlX3_56 : ab_ML RX3 56 mX3_hasArea := Or.inl (wT2 204 rfl rfl)
theorem mlX3_59 : ab_ML RX3 59 mX3_isAbove := Or.inl (wT2 208 rfl rfl)
theorem mlX3_62 : ab_ML RX3 62 mX3_isLeftOf := Or.inl (wT2 212 rfl rfl)
theorem flX4_9 : ab_FL RX4 9 4 0 := ⟨RX4, TX4, 2, tyX4, rfl, by decide, inlX4, tyX4_ok, nmX4, Or.inl (wT1 226 rfl rfl)⟩
theorem flX4_15 : ab_FL RX4 15 4 1 := ⟨RX4, TX4, 2, tyX4, rfl, by decide, inlX4, tyX4_ok, nmX4, Or.inl (wT1 228 rfl rfl)⟩
theorem flX5_9 : ab_FL RX5 9 5 1 := ⟨RX5, TX5, 3, tyX5, rfl, by decide, inlX5, tyX5_ok, nmX5, Or.inl (wT1 145 rfl rfl)⟩
theorem flX5_15 : ab_FL RX5 15 5 0 := ⟨RX5, TX5, 3, tyX5, rfl, by decide, inlX5, tyX5_ok, nmX5, Or.inl (wT1 144 rfl rfl)⟩
theorem flX5_19 : ab_FL RX5 19 5 2 := ⟨RX5, TX5, 3, tyX5, rfl, by decide, inlX5, tyX5_ok, nmX5, Or.inl (wT1 146 rfl rfl)⟩
theorem flX5_23 : ab_FL RX5 23 2 5 := ⟨RX2, TX2, 6, tyX2, rfl, by decide, inlX2, tyX2_ok, nmX2, Or.inr ⟨"PagesForAll", List.mem_of_getElem? (i := 13) rfl⟩⟩
theorem flX5_26 : ab_FL RX5 26 2 4 := ⟨RX2, TX2, 6, tyX2, rfl, by decide, inlX2, tyX2_ok, nmX2, Or.inr ⟨"PagesForAll", List.mem_of_getElem? (i := 10) rfl⟩⟩
theorem mlX5_29 : ab_ML RX5 29 mX2_get := Or.inr ⟨"PagesForAll", List.mem_of_getElem? (i := 35) rfl⟩
theorem mlX5_33 : ab_ML RX5 33 mX5_insert := Or.inl (wT2 38 rfl rfl)
theorem mlX5_37 : ab_ML RX5 37 mX5_rank := Or.inl (wT2 42 rfl rfl)
theorem mlX5_41 : ab_ML RX5 41 mX7_holds := Or.inr ⟨"PagesForAll", List.mem_of_getElem? (i := 58) rfl⟩
theorem mlX5_45 : ab_ML RX5 45 mX2_trapAround := Or.inr ⟨"PagesForAll", List.mem_of_getElem? (i := 61) rfl⟩
theorem flX5_48 : ab_FL RX5 48 2 2 := ⟨RX2, TX2, 6, tyX2, rfl, by decide, inlX2, tyX2_ok, nmX2, Or.inr ⟨"PagesForAll", List.mem_of_getElem? (i := 6) rfl⟩⟩
theorem mlX5_51 : ab_ML RX5 51 mX5_spotOf := Or.inl (wT3 5 rfl rfl)
theorem mlX5_54 : ab_ML RX5 54 mX5_spotBehind := Or.inl (wT3 9 rfl rfl)
theorem mlX5_57 : ab_ML RX5 57 mX5_spotAhead := Or.inl (wT3 13 rfl rfl)
theorem flX6_11 : ab_FL RX6 11 6 2 := ⟨RX6, TX6, 11, tyX6, rfl, by decide, inlX6, tyX6_ok, nmX6, Or.inl (wT1 162 rfl rfl)⟩
theorem flX6_15 : ab_FL RX6 15 6 5 := ⟨RX6, TX6, 11, tyX6, rfl, by decide, inlX6, tyX6_ok, nmX6, Or.inl (wT1 165 rfl rfl)⟩
theorem flX6_18 : ab_FL RX6 18 6 6 := ⟨RX6, TX6, 11, tyX6, rfl, by decide, inlX6, tyX6_ok, nmX6, Or.inl (wT1 166 rfl rfl)⟩
theorem flX6_21 : ab_FL RX6 21 6 7 := ⟨RX6, TX6, 11, tyX6, rfl, by decide, inlX6, tyX6_ok, nmX6, Or.inl (wT1 167 rfl rfl)⟩
theorem flX6_24 : ab_FL RX6 24 6 9 := ⟨RX6, TX6, 11, tyX6, rfl, by decide, inlX6, tyX6_ok, nmX6, Or.inl (wT1 169 rfl rfl)⟩
theorem flX6_27 : ab_FL RX6 27 6 0 := ⟨RX6, TX6, 11, tyX6, rfl, by decide, inlX6, tyX6_ok, nmX6, Or.inl (wT1 160 rfl rfl)⟩
theorem flX6_31 : ab_FL RX6 31 6 1 := ⟨RX6, TX6, 11, tyX6, rfl, by decide, inlX6, tyX6_ok, nmX6, Or.inl (wT1 161 rfl rfl)⟩
theorem flX6_35 : ab_FL RX6 35 6 3 := ⟨RX6, TX6, 11, tyX6, rfl, by decide, inlX6, tyX6_ok, nmX6, Or.inl (wT1 163 rfl rfl)⟩
theorem flX6_39 : ab_FL RX6 39 6 4 := ⟨RX6, TX6, 11, tyX6, rfl, by decide, inlX6, tyX6_ok, nmX6, Or.inl (wT1 164 rfl rfl)⟩
theorem flX6_42 : ab_FL RX6 42 6 8 := ⟨RX6, TX6, 11, tyX6, rfl, by decide, inlX6, tyX6_ok, nmX6, Or.inl (wT1 168 rfl rfl)⟩
theorem flX6_45 : ab_FL RX6 45 6 10 := ⟨RX6, TX6, 11, tyX6, rfl, by decide, inlX6, tyX6_ok, nmX6, Or.inl (wT1 170 rfl rfl)⟩
theorem mlX6_48 : ab_ML RX6 48 mX6_find := Or.inl (wT3 38 rfl rfl)
theorem flX6_52 : ab_FL RX6 52 2 2 := ⟨RX2, TX2, 6, tyX2, rfl, by decide, inlX2, tyX2_ok, nmX2, Or.inr ⟨"PagesForAll", List.mem_of_getElem? (i := 5) rfl⟩⟩
theorem mlX6_57 : ab_ML RX6 57 mX6_takeDoors := Or.inl (wT3 42 rfl rfl)
theorem mlX6_60 : ab_ML RX6 60 mX6_doorsShutNow := Or.inl (wT3 49 rfl rfl)
theorem mlX6_64 : ab_ML RX6 64 mX6_come := Or.inl (wT3 54 rfl rfl)
theorem mlX6_68 : ab_ML RX6 68 mX6_focusIn := Or.inl (wT3 58 rfl rfl)
theorem mlX6_72 : ab_ML RX6 72 mX7_holds := Or.inr ⟨"PagesForAll", List.mem_of_getElem? (i := 65) rfl⟩
theorem mlX6_76 : ab_ML RX6 76 mX6_pressAllKeys := Or.inl (wT3 61 rfl rfl)
theorem mlX6_80 : ab_ML RX6 80 mX2_openedBesides := Or.inr ⟨"PagesForAll", List.mem_of_getElem? (i := 64) rfl⟩
theorem flX6_83 : ab_FL RX6 83 2 5 := ⟨RX2, TX2, 6, tyX2, rfl, by decide, inlX2, tyX2_ok, nmX2, Or.inr ⟨"PagesForAll", List.mem_of_getElem? (i := 17) rfl⟩⟩
theorem mlX6_86 : ab_ML RX6 86 mX2_hiddenNow := Or.inr ⟨"PagesForAll", List.mem_of_getElem? (i := 66) rfl⟩
theorem mlX6_89 : ab_ML RX6 89 mX2_get := Or.inr ⟨"PagesForAll", List.mem_of_getElem? (i := 67) rfl⟩
theorem mlX6_92 : ab_ML RX6 92 mX2_shownUnder := Or.inr ⟨"PagesForAll", List.mem_of_getElem? (i := 68) rfl⟩
theorem mlX6_95 : ab_ML RX6 95 mX6_shownIf := Or.inl (wT3 65 rfl rfl)
theorem mlX6_98 : ab_ML RX6 98 mX5_turn := Or.inr ⟨"PagesForAll", List.mem_of_getElem? (i := 69) rfl⟩
theorem mlX6_104 : ab_ML RX6 104 mX6_comeFrom := Or.inl (wT3 71 rfl rfl)
theorem mlX6_107 : ab_ML RX6 107 mX6_doorOf := Or.inl (wT3 75 rfl rfl)
theorem mlX6_110 : ab_ML RX6 110 mX2_openedByButton := Or.inr ⟨"PagesForAll", List.mem_of_getElem? (i := 70) rfl⟩
theorem mlL_13 : ab_ML RL 13 mX7_part := Or.inl (wT2 20 rfl rfl)
theorem mlL_17 : ab_ML RL 17 mX8_part := Or.inl (wT4 28 rfl rfl)
theorem mlL_18 : ab_ML RL 18 mX7_set := Or.inl (wT2 46 rfl rfl)
theorem mlL_22 : ab_ML RL 22 mX8_set := Or.inl (wT4 40 rfl rfl)
theorem mlL_23 : ab_ML RL 23 mX7_told := Or.inl (wT2 98 rfl rfl)
theorem mlL_26 : ab_ML RL 26 mX8_told := Or.inl (wT4 75 rfl rfl)
theorem mlL_27 : ab_ML RL 27 mX7_box := Or.inl (wT2 102 rfl rfl)
theorem mlL_31 : ab_ML RL 31 mX8_box := Or.inl (wT4 80 rfl rfl)
theorem mlL_32 : ab_ML RL 32 mX7_colours := Or.inl (wT2 109 rfl rfl)
theorem mlL_35 : ab_ML RL 35 mX8_colours := Or.inl (wT4 85 rfl rfl)
theorem mlL_36 : ab_ML RL 36 mX7_contrast := Or.inl (wT2 135 rfl rfl)
theorem mlL_40 : ab_ML RL 40 mX8_contrast := Or.inl (wT4 100 rfl rfl)
theorem mlL_41 : ab_ML RL 41 mX7_name := Or.inl (wT2 139 rfl rfl)
theorem mlL_44 : ab_ML RL 44 mX8_name := Or.inl (wT4 104 rfl rfl)
theorem mlL_45 : ab_ML RL 45 mX7_word := Or.inl (wT2 166 rfl rfl)
theorem mlL_48 : ab_ML RL 48 mX8_word := Or.inl (wT4 124 rfl rfl)
theorem mlL_49 : ab_ML RL 49 mX7_said := Or.inl (wT2 174 rfl rfl)
theorem mlL_52 : ab_ML RL 52 mX8_said := Or.inl (wT4 128 rfl rfl)
theorem mlL_53 : ab_ML RL 53 mX7_pairs := Or.inl (wT2 192 rfl rfl)
theorem mlL_57 : ab_ML RL 57 mX8_pairs := Or.inl (wT4 136 rfl rfl)
theorem mlL_58 : ab_ML RL 58 mX7_stop := Or.inl (wT2 216 rfl rfl)
theorem mlL_61 : ab_ML RL 61 mX8_stop := Or.inl (wT4 152 rfl rfl)
theorem mlL_62 : ab_ML RL 62 mX7_press := Or.inl (wT2 225 rfl rfl)
theorem mlL_65 : ab_ML RL 65 mX8_press := Or.inl (wT4 164 rfl rfl)
theorem mlL_66 : ab_ML RL 66 mX7_focus := Or.inl (wT3 17 rfl rfl)
theorem mlL_69 : ab_ML RL 69 mX8_focus := Or.inl (wT4 177 rfl rfl)
theorem mlL_70 : ab_ML RL 70 mX7_caught := Or.inl (wT3 21 rfl rfl)
theorem mlL_73 : ab_ML RL 73 mX8_caught := Or.inl (wT4 181 rfl rfl)
theorem mlL_74 : ab_ML RL 74 mX7_leave := Or.inl (wT3 26 rfl rfl)
theorem mlL_77 : ab_ML RL 77 mX8_leave := Or.inl (wT4 185 rfl rfl)
theorem mlL_78 : ab_ML RL 78 mX7_walk := Or.inl (wT3 30 rfl rfl)
theorem mlL_81 : ab_ML RL 81 mX8_walk := Or.inl (wT4 189 rfl rfl)
theorem mlL_82 : ab_ML RL 82 mX7_key := Or.inl (wT3 80 rfl rfl)
theorem mlL_85 : ab_ML RL 85 mX8_key := Or.inl (wT4 213 rfl rfl)
theorem mlL_86 : ab_ML RL 86 mX7_keeper := Or.inl (wT3 88 rfl rfl)
theorem mlL_89 : ab_ML RL 89 mX8_keeper := Or.inl (wT4 217 rfl rfl)
theorem mlL_90 : ab_ML RL 90 mX7_hear := Or.inl (wT3 96 rfl rfl)
theorem mlL_93 : ab_ML RL 93 mX8_hear := Or.inl (wT4 221 rfl rfl)
theorem mlL_94 : ab_ML RL 94 mX7_wrongs := Or.inl (wT3 104 rfl rfl)
theorem mlL_97 : ab_ML RL 97 mX8_wrongs := Or.inl (wT4 225 rfl rfl)
theorem mlL_98 : ab_ML RL 98 mX7_wrong := Or.inl (wT3 154 rfl rfl)
theorem mlL_101 : ab_ML RL 101 mX8_wrong := Or.inl (wT5 11 rfl rfl)
theorem mlL_102 : ab_ML RL 102 mX7_mend := Or.inl (wT3 166 rfl rfl)
theorem mlL_105 : ab_ML RL 105 mX8_mend := Or.inl (wT5 15 rfl rfl)
theorem mlL_106 : ab_ML RL 106 mX7_count := Or.inl (wT3 178 rfl rfl)
theorem mlL_109 : ab_ML RL 109 mX8_count := Or.inl (wT5 21 rfl rfl)
theorem mlL_110 : ab_ML RL 110 mX7_digest := Or.inl (wT3 183 rfl rfl)
theorem mlL_114 : ab_ML RL 114 mX8_digest := Or.inl (wT5 29 rfl rfl)
theorem flX8_7 : ab_FL RX8 7 8 1 := ⟨RX8, TX8, 21, tyX8, rfl, by decide, inlX8, tyX8_ok, nmX8, Or.inl (wT3 205 rfl rfl)⟩
theorem flX8_13 : ab_FL RX8 13 8 4 := ⟨RX8, TX8, 21, tyX8, rfl, by decide, inlX8, tyX8_ok, nmX8, Or.inl (wT3 208 rfl rfl)⟩
theorem flX8_16 : ab_FL RX8 16 8 5 := ⟨RX8, TX8, 21, tyX8, rfl, by decide, inlX8, tyX8_ok, nmX8, Or.inl (wT3 209 rfl rfl)⟩
theorem flX8_19 : ab_FL RX8 19 8 6 := ⟨RX8, TX8, 21, tyX8, rfl, by decide, inlX8, tyX8_ok, nmX8, Or.inl (wT3 210 rfl rfl)⟩
theorem flX8_22 : ab_FL RX8 22 8 7 := ⟨RX8, TX8, 21, tyX8, rfl, by decide, inlX8, tyX8_ok, nmX8, Or.inl (wT3 211 rfl rfl)⟩
theorem flX8_25 : ab_FL RX8 25 8 8 := ⟨RX8, TX8, 21, tyX8, rfl, by decide, inlX8, tyX8_ok, nmX8, Or.inl (wT3 212 rfl rfl)⟩
theorem flX8_28 : ab_FL RX8 28 8 9 := ⟨RX8, TX8, 21, tyX8, rfl, by decide, inlX8, tyX8_ok, nmX8, Or.inl (wT3 213 rfl rfl)⟩
theorem flX8_31 : ab_FL RX8 31 8 11 := ⟨RX8, TX8, 21, tyX8, rfl, by decide, inlX8, tyX8_ok, nmX8, Or.inl (wT3 215 rfl rfl)⟩
theorem flX8_34 : ab_FL RX8 34 8 13 := ⟨RX8, TX8, 21, tyX8, rfl, by decide, inlX8, tyX8_ok, nmX8, Or.inl (wT3 217 rfl rfl)⟩
theorem flX8_37 : ab_FL RX8 37 8 15 := ⟨RX8, TX8, 21, tyX8, rfl, by decide, inlX8, tyX8_ok, nmX8, Or.inl (wT3 219 rfl rfl)⟩
theorem flX8_40 : ab_FL RX8 40 8 16 := ⟨RX8, TX8, 21, tyX8, rfl, by decide, inlX8, tyX8_ok, nmX8, Or.inl (wT3 220 rfl rfl)⟩
theorem flX8_43 : ab_FL RX8 43 8 18 := ⟨RX8, TX8, 21, tyX8, rfl, by decide, inlX8, tyX8_ok, nmX8, Or.inl (wT3 222 rfl rfl)⟩
theorem flX8_46 : ab_FL RX8 46 8 19 := ⟨RX8, TX8, 21, tyX8, rfl, by decide, inlX8, tyX8_ok, nmX8, Or.inl (wT3 223 rfl rfl)⟩
theorem flX8_49 : ab_FL RX8 49 8 2 := ⟨RX8, TX8, 21, tyX8, rfl, by decide, inlX8, tyX8_ok, nmX8, Or.inl (wT3 206 rfl rfl)⟩
theorem mlX8_53 : ab_ML RX8 53 mX8_begin := Or.inl (wT3 195 rfl rfl)
theorem flX8_57 : ab_FL RX8 57 8 0 := ⟨RX8, TX8, 21, tyX8, rfl, by decide, inlX8, tyX8_ok, nmX8, Or.inl (wT3 204 rfl rfl)⟩
theorem mlX8_60 : ab_ML RX8 60 mX8_put := Or.inl (wT3 199 rfl rfl)
theorem mlX8_64 : ab_ML RX8 64 mX8_in := Or.inl (wT4 36 rfl rfl)
theorem mlX8_68 : ab_ML RX8 68 mX8_isPart := Or.inl (wT4 32 rfl rfl)
theorem mlX8_74 : ab_ML RX8 74 mX8_get := Or.inl (wT4 55 rfl rfl)
theorem mlX8_78 : ab_ML RX8 78 mX8_isOpenedBy := Or.inl (wT4 51 rfl rfl)
theorem mlX8_86 : ab_ML RX8 86 mX8_innermost := Or.inl (wT4 63 rfl rfl)
theorem mlX8_89 : ab_ML RX8 89 mX8_isShown := Or.inl (wT4 67 rfl rfl)
theorem flX8_92 : ab_FL RX8 92 8 3 := ⟨RX8, TX8, 21, tyX8, rfl, by decide, inlX8, tyX8_ok, nmX8, Or.inl (wT3 207 rfl rfl)⟩
theorem mlX8_97 : ab_ML RX8 97 mX8_isFor := Or.inl (wT4 45 rfl rfl)
theorem mlX8_100 : ab_ML RX8 100 mX8_speak := Or.inl (wT4 59 rfl rfl)
theorem mlX8_104 : ab_ML RX8 104 mX8_lookAtFocus := Or.inl (wT4 71 rfl rfl)
theorem mlX8_117 : ab_ML RX8 117 mX8_light := Or.inl (wT4 93 rfl rfl)
theorem mlX8_125 : ab_ML RX8 125 mX8_contrastOf := Or.inl (wT4 90 rfl rfl)
theorem mlX8_128 : ab_ML RX8 128 mX8_addWord := Or.inl (wT4 112 rfl rfl)
theorem mlX8_132 : ab_ML RX8 132 mX8_line := Or.inl (wT4 116 rfl rfl)
theorem mlX8_135 : ab_ML RX8 135 mX8_lies := Or.inl (wT4 120 rfl rfl)
theorem mlX8_138 : ab_ML RX8 138 mX8_findName := Or.inl (wT4 108 rfl rfl)
theorem flX8_141 : ab_FL RX8 141 8 10 := ⟨RX8, TX8, 21, tyX8, rfl, by decide, inlX8, tyX8_ok, nmX8, Or.inl (wT3 214 rfl rfl)⟩
theorem mlX8_144 : ab_ML RX8 144 mX8_findSaid := Or.inl (wT4 132 rfl rfl)
theorem mlX8_147 : ab_ML RX8 147 mX8_hasBox := Or.inl (wT4 144 rfl rfl)
theorem mlX8_150 : ab_ML RX8 150 mX8_isAbove := Or.inl (wT4 148 rfl rfl)
theorem mlX8_153 : ab_ML RX8 153 mX8_isAstray := Or.inl (wT4 140 rfl rfl)
theorem flX8_156 : ab_FL RX8 156 8 12 := ⟨RX8, TX8, 21, tyX8, rfl, by decide, inlX8, tyX8_ok, nmX8, Or.inl (wT3 216 rfl rfl)⟩
theorem mlX8_159 : ab_ML RX8 159 mX8_isStop := Or.inl (wT4 160 rfl rfl)
theorem mlX8_162 : ab_ML RX8 162 mX8_findStops := Or.inl (wT4 156 rfl rfl)
theorem mlX8_165 : ab_ML RX8 165 mX8_trapOf := Or.inl (wT4 173 rfl rfl)
theorem mlX8_171 : ab_ML RX8 171 mX8_pressed := Or.inl (wT4 169 rfl rfl)
theorem flX8_175 : ab_FL RX8 175 8 14 := ⟨RX8, TX8, 21, tyX8, rfl, by decide, inlX8, tyX8_ok, nmX8, Or.inl (wT3 218 rfl rfl)⟩
theorem mlX8_178 : ab_ML RX8 178 mX8_findDoors := Or.inl (wT4 197 rfl rfl)
theorem mlX8_181 : ab_ML RX8 181 mX8_state := Or.inl (wT4 201 rfl rfl)
theorem flX8_185 : ab_FL RX8 185 8 17 := ⟨RX8, TX8, 21, tyX8, rfl, by decide, inlX8, tyX8_ok, nmX8, Or.inl (wT3 221 rfl rfl)⟩
theorem mlX8_188 : ab_ML RX8 188 mX8_come := Or.inl (wT4 205 rfl rfl)
theorem mlX8_191 : ab_ML RX8 191 mX8_spread := Or.inl (wT4 193 rfl rfl)
theorem mlX8_194 : ab_ML RX8 194 mX8_leastTo := Or.inl (wT4 209 rfl rfl)
theorem mlX8_197 : ab_ML RX8 197 mX8_isTwin := Or.inl (wT4 237 rfl rfl)
theorem mlX8_200 : ab_ML RX8 200 mX8_contrast := Or.inl (wT5 1 rfl rfl)
theorem mlX8_203 : ab_ML RX8 203 mX8_isClosed := Or.inl (wT5 2 rfl rfl)
theorem mlX8_206 : ab_ML RX8 206 mX8_isAhead := Or.inl (wT5 6 rfl rfl)
theorem flX8_211 : ab_FL RX8 211 8 20 := ⟨RX8, TX8, 21, tyX8, rfl, by decide, inlX8, tyX8_ok, nmX8, Or.inl (wT3 224 rfl rfl)⟩
theorem mlX8_214 : ab_ML RX8 214 mX8_isWrong := Or.inl (wT4 233 rfl rfl)
theorem mlX8_217 : ab_ML RX8 217 mX8_findWrongs := Or.inl (wT4 229 rfl rfl)
theorem mlX8_221 : ab_ML RX8 221 mX8_wrongs := Or.inl (wT5 20 rfl rfl)
theorem mlX8_224 : ab_ML RX8 224 mX8_opened := Or.inl (wT5 25 rfl rfl)
theorem fiX0_5 : ab_FI 0 5 := ⟨RX0, TX0, 6, rfl, rfl, by decide +kernel⟩
theorem fiX2_5 : ab_FI 2 5 := ⟨RX2, TX2, 6, rfl, rfl, by decide +kernel⟩
theorem fiX3_2 : ab_FI 3 2 := ⟨RX3, TX3, 5, rfl, rfl, by decide +kernel⟩
theorem fiX3_3 : ab_FI 3 3 := ⟨RX3, TX3, 5, rfl, rfl, by decide +kernel⟩
theorem fiX3_4 : ab_FI 3 4 := ⟨RX3, TX3, 5, rfl, rfl, by decide +kernel⟩
theorem fiX4_1 : ab_FI 4 1 := ⟨RX4, TX4, 2, rfl, rfl, by decide +kernel⟩
theorem fiX5_2 : ab_FI 5 2 := ⟨RX5, TX5, 3, rfl, rfl, by decide +kernel⟩
theorem fiX6_3 : ab_FI 6 3 := ⟨RX6, TX6, 11, rfl, rfl, by decide +kernel⟩
theorem fiX6_4 : ab_FI 6 4 := ⟨RX6, TX6, 11, rfl, rfl, by decide +kernel⟩
theorem fiX6_8 : ab_FI 6 8 := ⟨RX6, TX6, 11, rfl, rfl, by decide +kernel⟩
theorem fiX6_10 : ab_FI 6 10 := ⟨RX6, TX6, 11, rfl, rfl, by decide +kernel⟩
theorem fiX7_7 : ab_FI 7 7 := ⟨RX7, TX7, 8, rfl, rfl, by decide +kernel⟩
theorem fiX8_0 : ab_FI 8 0 := ⟨RX8, TX8, 21, rfl, rfl, by decide +kernel⟩
theorem fiX8_2 : ab_FI 8 2 := ⟨RX8, TX8, 21, rfl, rfl, by decide +kernel⟩
theorem fiX8_3 : ab_FI 8 3 := ⟨RX8, TX8, 21, rfl, rfl, by decide +kernel⟩
theorem fiX8_10 : ab_FI 8 10 := ⟨RX8, TX8, 21, rfl, rfl, by decide +kernel⟩
theorem fiX8_12 : ab_FI 8 12 := ⟨RX8, TX8, 21, rfl, rfl, by decide +kernel⟩
theorem fiX8_14 : ab_FI 8 14 := ⟨RX8, TX8, 21, rfl, rfl, by decide +kernel⟩
theorem fiX8_17 : ab_FI 8 17 := ⟨RX8, TX8, 21, rfl, rfl, by decide +kernel⟩
theorem fiX8_20 : ab_FI 8 20 := ⟨RX8, TX8, 21, rfl, rfl, by decide +kernel⟩
theorem moX0_gather : ab_MO mX0_gather 0 := ⟨wT3 111 rfl rfl, wT1 8 rfl rfl, by decide +kernel, by decide +kernel, by decide +kernel, by decide +kernel⟩
theorem imX0_gather : ab_IM mX0_gather := ⟨wT3 110 rfl rfl, wSl 56 rfl rfl⟩
theorem moX0_hasFault : ab_MO mX0_hasFault 3 := ⟨wT3 120 rfl rfl, wT1 8 rfl rfl, by decide +kernel, by decide +kernel, by decide +kernel, by decide +kernel⟩
theorem imX0_hasFault : ab_IM mX0_hasFault := ⟨wT3 119 rfl rfl, wSl 57 rfl rfl⟩
theorem moX0_isNameless : ab_MO mX0_isNameless 1 := ⟨wT3 124 rfl rfl, wT1 8 rfl rfl, by decide +kernel, by decide +kernel, by decide +kernel, by decide +kernel⟩
theorem imX0_isNameless : ab_IM mX0_isNameless := ⟨wT3 123 rfl rfl, wSl 58 rfl rfl⟩
theorem moX0_isTwin : ab_MO mX0_isTwin 2 := ⟨wT3 130 rfl rfl, wT1 8 rfl rfl, by decide +kernel, by decide +kernel, by decide +kernel, by decide +kernel⟩
theorem imX0_isTwin : ab_IM mX0_isTwin := ⟨wT3 129 rfl rfl, wSl 59 rfl rfl⟩
theorem moX0_isPale : ab_MO mX0_isPale 1 := ⟨wT3 143 rfl rfl, wT1 8 rfl rfl, by decide +kernel, by decide +kernel, by decide +kernel, by decide +kernel⟩
theorem imX0_isPale : ab_IM mX0_isPale := ⟨wT3 142 rfl rfl, wSl 62 rfl rfl⟩
theorem moX0_isClosed : ab_MO mX0_isClosed 2 := ⟨wT3 148 rfl rfl, wT1 8 rfl rfl, by decide +kernel, by decide +kernel, by decide +kernel, by decide +kernel⟩
theorem imX0_isClosed : ab_IM mX0_isClosed := ⟨wT3 147 rfl rfl, wSl 63 rfl rfl⟩
theorem moX0_isShort : ab_MO mX0_isShort 1 := ⟨wT3 153 rfl rfl, wT1 8 rfl rfl, by decide +kernel, by decide +kernel, by decide +kernel, by decide +kernel⟩
theorem imX0_isShort : ab_IM mX0_isShort := ⟨wT3 152 rfl rfl, wSl 64 rfl rfl⟩
theorem moX0_partAt : ab_MO mX0_partAt 1 := ⟨wT3 161 rfl rfl, wT1 8 rfl rfl, by decide +kernel, by decide +kernel, by decide +kernel, by decide +kernel⟩
theorem imX0_partAt : ab_IM mX0_partAt := ⟨wT3 160 rfl rfl, wSl 65 rfl rfl⟩
theorem moX0_sortAt : ab_MO mX0_sortAt 1 := ⟨wT3 165 rfl rfl, wT1 8 rfl rfl, by decide +kernel, by decide +kernel, by decide +kernel, by decide +kernel⟩
theorem imX0_sortAt : ab_IM mX0_sortAt := ⟨wT3 164 rfl rfl, wSl 66 rfl rfl⟩
theorem moX0_mendAt : ab_MO mX0_mendAt 2 := ⟨wT3 173 rfl rfl, wT1 8 rfl rfl, by decide +kernel, by decide +kernel, by decide +kernel, by decide +kernel⟩
theorem imX0_mendAt : ab_IM mX0_mendAt := ⟨wT3 172 rfl rfl, wSl 67 rfl rfl⟩
theorem moX1_compose : ab_MO mX1_compose 2 := ⟨wT2 146 rfl rfl, wT1 4 rfl rfl, by decide +kernel, by decide +kernel, by decide +kernel, by decide +kernel⟩
theorem imX1_compose : ab_IM mX1_compose := ⟨wT2 145 rfl rfl, wSl 22 rfl rfl⟩
theorem moX1_addTextsIn : ab_MO mX1_addTextsIn 2 := ⟨wT2 160 rfl rfl, wT1 4 rfl rfl, by decide +kernel, by decide +kernel, by decide +kernel, by decide +kernel⟩
theorem imX1_addTextsIn : ab_IM mX1_addTextsIn := ⟨wT2 159 rfl rfl, wSl 25 rfl rfl⟩
theorem moX1_addOwnOf : ab_MO mX1_addOwnOf 2 := ⟨wT2 151 rfl rfl, wT1 4 rfl rfl, by decide +kernel, by decide +kernel, by decide +kernel, by decide +kernel⟩
theorem imX1_addOwnOf : ab_IM mX1_addOwnOf := ⟨wT2 150 rfl rfl, wSl 23 rfl rfl⟩
theorem moX1_add : ab_MO mX1_add 2 := ⟨wT2 156 rfl rfl, wT1 4 rfl rfl, by decide +kernel, by decide +kernel, by decide +kernel, by decide +kernel⟩
theorem imX1_add : ab_IM mX1_add := ⟨wT2 155 rfl rfl, wSl 24 rfl rfl⟩
theorem moX1_lengthOf : ab_MO mX1_lengthOf 1 := ⟨wT2 165 rfl rfl, wT1 4 rfl rfl, by decide +kernel, by decide +kernel, by decide +kernel, by decide +kernel⟩
theorem imX1_lengthOf : ab_IM mX1_lengthOf := ⟨wT2 164 rfl rfl, wSl 26 rfl rfl⟩
theorem moX1_wordOf : ab_MO mX1_wordOf 2 := ⟨wT2 173 rfl rfl, wT1 4 rfl rfl, by decide +kernel, by decide +kernel, by decide +kernel, by decide +kernel⟩
theorem imX1_wordOf : ab_IM mX1_wordOf := ⟨wT2 172 rfl rfl, wSl 27 rfl rfl⟩
theorem moX1_areAlike : ab_MO mX1_areAlike 2 := ⟨wT3 138 rfl rfl, wT1 4 rfl rfl, by decide +kernel, by decide +kernel, by decide +kernel, by decide +kernel⟩
theorem imX1_areAlike : ab_IM mX1_areAlike := ⟨wT3 137 rfl rfl, wSl 61 rfl rfl⟩
theorem moX2_has : ab_MO mX2_has 1 := ⟨wT1 37 rfl rfl, wT1 2 rfl rfl, by decide +kernel, by decide +kernel, by decide +kernel, by decide +kernel⟩
theorem imX2_has : ab_IM mX2_has := ⟨wT1 36 rfl rfl, wSl 2 rfl rfl⟩
theorem moX2_isFull : ab_MO mX2_isFull 0 := ⟨wT2 28 rfl rfl, wT1 2 rfl rfl, by decide +kernel, by decide +kernel, by decide +kernel, by decide +kernel⟩
theorem imX2_isFull : ab_IM mX2_isFull := ⟨wT2 27 rfl rfl, wSl 6 rfl rfl⟩
theorem moX2_get : ab_MO mX2_get 2 := ⟨wT2 37 rfl rfl, wT1 2 rfl rfl, by decide +kernel, by decide +kernel, by decide +kernel, by decide +kernel⟩
theorem imX2_get : ab_IM mX2_get := ⟨wT2 36 rfl rfl, wSl 8 rfl rfl⟩
theorem moX2_put : ab_MO mX2_put 3 := ⟨wT1 58 rfl rfl, wT1 2 rfl rfl, by decide +kernel, by decide +kernel, by decide +kernel, by decide +kernel⟩
theorem imX2_put : ab_IM mX2_put := ⟨wT1 57 rfl rfl, wSl 5 rfl rfl⟩
theorem moX2_add : ab_MO mX2_add 2 := ⟨wT1 29 rfl rfl, wT1 2 rfl rfl, by decide +kernel, by decide +kernel, by decide +kernel, by decide +kernel⟩
theorem imX2_add : ab_IM mX2_add := ⟨wT1 28 rfl rfl, wSl 0 rfl rfl⟩
theorem moX2_insertInOrder : ab_MO mX2_insertInOrder 2 := ⟨wT1 33 rfl rfl, wT1 2 rfl rfl, by decide +kernel, by decide +kernel, by decide +kernel, by decide +kernel⟩
theorem imX2_insertInOrder : ab_IM mX2_insertInOrder := ⟨wT1 32 rfl rfl, wSl 1 rfl rfl⟩
theorem moX2_spotInOrder : ab_MO mX2_spotInOrder 1 := ⟨wT1 41 rfl rfl, wT1 2 rfl rfl, by decide +kernel, by decide +kernel, by decide +kernel, by decide +kernel⟩
theorem imX2_spotInOrder : ab_IM mX2_spotInOrder := ⟨wT1 40 rfl rfl, wSl 3 rfl rfl⟩
theorem moX2_putFirstValues : ab_MO mX2_putFirstValues 3 := ⟨wT1 54 rfl rfl, wT1 2 rfl rfl, by decide +kernel, by decide +kernel, by decide +kernel, by decide +kernel⟩
theorem imX2_putFirstValues : ab_IM mX2_putFirstValues := ⟨wT1 53 rfl rfl, wSl 4 rfl rfl⟩
theorem moX2_allows : ab_MO mX2_allows 2 := ⟨wT2 53 rfl rfl, wT1 2 rfl rfl, by decide +kernel, by decide +kernel, by decide +kernel, by decide +kernel⟩
theorem imX2_allows : ab_IM mX2_allows := ⟨wT2 52 rfl rfl, wSl 11 rfl rfl⟩
theorem moX2_hiddenNow : ab_MO mX2_hiddenNow 0 := ⟨wT2 89 rfl rfl, wT1 2 rfl rfl, by decide +kernel, by decide +kernel, by decide +kernel, by decide +kernel⟩
theorem imX2_hiddenNow : ab_IM mX2_hiddenNow := ⟨wT2 88 rfl rfl, wSl 18 rfl rfl⟩
theorem moX2_shownNow : ab_MO mX2_shownNow 0 := ⟨wT2 85 rfl rfl, wT1 2 rfl rfl, by decide +kernel, by decide +kernel, by decide +kernel, by decide +kernel⟩
theorem imX2_shownNow : ab_IM mX2_shownNow := ⟨wT2 84 rfl rfl, wSl 17 rfl rfl⟩
theorem moX2_shownUnder : ab_MO mX2_shownUnder 1 := ⟨wT2 93 rfl rfl, wT1 2 rfl rfl, by decide +kernel, by decide +kernel, by decide +kernel, by decide +kernel⟩
theorem imX2_shownUnder : ab_IM mX2_shownUnder := ⟨wT2 92 rfl rfl, wSl 19 rfl rfl⟩
theorem moX2_stopsAmong : ab_MO mX2_stopsAmong 1 := ⟨wT3 134 rfl rfl, wT1 2 rfl rfl, by decide +kernel, by decide +kernel, by decide +kernel, by decide +kernel⟩
theorem imX2_stopsAmong : ab_IM mX2_stopsAmong := ⟨wT3 133 rfl rfl, wSl 60 rfl rfl⟩
theorem moX2_openedBesides : ab_MO mX2_openedBesides 1 := ⟨wT2 61 rfl rfl, wT1 2 rfl rfl, by decide +kernel, by decide +kernel, by decide +kernel, by decide +kernel⟩
theorem imX2_openedBesides : ab_IM mX2_openedBesides := ⟨wT2 60 rfl rfl, wSl 13 rfl rfl⟩
theorem moX2_openedByButton : ab_MO mX2_openedByButton 1 := ⟨wT2 236 rfl rfl, wT1 2 rfl rfl, by decide +kernel, by decide +kernel, by decide +kernel, by decide +kernel⟩
theorem imX2_openedByButton : ab_IM mX2_openedByButton := ⟨wT2 235 rfl rfl, wSl 38 rfl rfl⟩
theorem moX2_trapAround : ab_MO mX2_trapAround 2 := ⟨wT3 4 rfl rfl, wT1 2 rfl rfl, by decide +kernel, by decide +kernel, by decide +kernel, by decide +kernel⟩
theorem imX2_trapAround : ab_IM mX2_trapAround := ⟨wT3 3 rfl rfl, wSl 40 rfl rfl⟩
theorem moX2_liveAround : ab_MO mX2_liveAround 1 := ⟨wT2 78 rfl rfl, wT1 2 rfl rfl, by decide +kernel, by decide +kernel, by decide +kernel, by decide +kernel⟩
theorem imX2_liveAround : ab_IM mX2_liveAround := ⟨wT2 77 rfl rfl, wSl 16 rfl rfl⟩
theorem moX2_contrastOf : ab_MO mX2_contrastOf 1 := ⟨wT2 120 rfl rfl, wT1 2 rfl rfl, by decide +kernel, by decide +kernel, by decide +kernel, by decide +kernel⟩
theorem imX2_contrastOf : ab_IM mX2_contrastOf := ⟨wT2 119 rfl rfl, wSl 21 rfl rfl⟩
theorem moX3_gather : ab_MO mX3_gather 1 := ⟨wT2 181 rfl rfl, wT1 5 rfl rfl, by decide +kernel, by decide +kernel, by decide +kernel, by decide +kernel⟩
theorem imX3_gather : ab_IM mX3_gather := ⟨wT2 180 rfl rfl, wSl 28 rfl rfl⟩
theorem moX3_isToBeSaid : ab_MO mX3_isToBeSaid 1 := ⟨wT2 186 rfl rfl, wT1 5 rfl rfl, by decide +kernel, by decide +kernel, by decide +kernel, by decide +kernel⟩
theorem imX3_isToBeSaid : ab_IM mX3_isToBeSaid := ⟨wT2 185 rfl rfl, wSl 29 rfl rfl⟩
theorem moX3_at : ab_MO mX3_at 1 := ⟨wT2 191 rfl rfl, wT1 5 rfl rfl, by decide +kernel, by decide +kernel, by decide +kernel, by decide +kernel⟩
theorem imX3_at : ab_IM mX3_at := ⟨wT2 190 rfl rfl, wSl 30 rfl rfl⟩
theorem moX3_compare : ab_MO mX3_compare 0 := ⟨wT2 199 rfl rfl, wT1 5 rfl rfl, by decide +kernel, by decide +kernel, by decide +kernel, by decide +kernel⟩
theorem imX3_compare : ab_IM mX3_compare := ⟨wT2 198 rfl rfl, wSl 31 rfl rfl⟩
theorem moX3_isAstray : ab_MO mX3_isAstray 2 := ⟨wT2 203 rfl rfl, wT1 5 rfl rfl, by decide +kernel, by decide +kernel, by decide +kernel, by decide +kernel⟩
theorem imX3_isAstray : ab_IM mX3_isAstray := ⟨wT2 202 rfl rfl, wSl 32 rfl rfl⟩
theorem moX3_hasArea : ab_MO mX3_hasArea 1 := ⟨wT2 207 rfl rfl, wT1 5 rfl rfl, by decide +kernel, by decide +kernel, by decide +kernel, by decide +kernel⟩
theorem imX3_hasArea : ab_IM mX3_hasArea := ⟨wT2 206 rfl rfl, wSl 33 rfl rfl⟩
theorem moX3_isAbove : ab_MO mX3_isAbove 2 := ⟨wT2 211 rfl rfl, wT1 5 rfl rfl, by decide +kernel, by decide +kernel, by decide +kernel, by decide +kernel⟩
theorem imX3_isAbove : ab_IM mX3_isAbove := ⟨wT2 210 rfl rfl, wSl 34 rfl rfl⟩
theorem moX3_isLeftOf : ab_MO mX3_isLeftOf 2 := ⟨wT2 215 rfl rfl, wT1 5 rfl rfl, by decide +kernel, by decide +kernel, by decide +kernel, by decide +kernel⟩
theorem imX3_isLeftOf : ab_IM mX3_isLeftOf := ⟨wT2 214 rfl rfl, wSl 35 rfl rfl⟩
theorem moX4_add : ab_MO mX4_add 1 := ⟨wT2 97 rfl rfl, wT1 9 rfl rfl, by decide +kernel, by decide +kernel, by decide +kernel, by decide +kernel⟩
theorem imX4_add : ab_IM mX4_add := ⟨wT2 96 rfl rfl, wSl 20 rfl rfl⟩
theorem moX4_takeFirst : ab_MO mX4_takeFirst 0 := ⟨wT3 103 rfl rfl, wT1 9 rfl rfl, by decide +kernel, by decide +kernel, by decide +kernel, by decide +kernel⟩
theorem imX4_takeFirst : ab_IM mX4_takeFirst := ⟨wT3 102 rfl rfl, wSl 55 rfl rfl⟩
theorem moX5_arrange : ab_MO mX5_arrange 0 := ⟨wT2 33 rfl rfl, wT1 6 rfl rfl, by decide +kernel, by decide +kernel, by decide +kernel, by decide +kernel⟩
theorem imX5_arrange : ab_IM mX5_arrange := ⟨wT2 32 rfl rfl, wSl 7 rfl rfl⟩
theorem moX5_insert : ab_MO mX5_insert 1 := ⟨wT2 41 rfl rfl, wT1 6 rfl rfl, by decide +kernel, by decide +kernel, by decide +kernel, by decide +kernel⟩
theorem imX5_insert : ab_IM mX5_insert := ⟨wT2 40 rfl rfl, wSl 9 rfl rfl⟩
theorem moX5_rank : ab_MO mX5_rank 1 := ⟨wT2 45 rfl rfl, wT1 6 rfl rfl, by decide +kernel, by decide +kernel, by decide +kernel, by decide +kernel⟩
theorem imX5_rank : ab_IM mX5_rank := ⟨wT2 44 rfl rfl, wSl 10 rfl rfl⟩
theorem moX5_at : ab_MO mX5_at 2 := ⟨wT2 223 rfl rfl, wT1 6 rfl rfl, by decide +kernel, by decide +kernel, by decide +kernel, by decide +kernel⟩
theorem imX5_at : ab_IM mX5_at := ⟨wT2 222 rfl rfl, wSl 36 rfl rfl⟩
theorem moX5_turn : ab_MO mX5_turn 3 := ⟨wT3 0 rfl rfl, wT1 6 rfl rfl, by decide +kernel, by decide +kernel, by decide +kernel, by decide +kernel⟩
theorem imX5_turn : ab_IM mX5_turn := ⟨wT2 239 rfl rfl, wSl 39 rfl rfl⟩
theorem moX5_spotBehind : ab_MO mX5_spotBehind 1 := ⟨wT3 12 rfl rfl, wT1 6 rfl rfl, by decide +kernel, by decide +kernel, by decide +kernel, by decide +kernel⟩
theorem imX5_spotBehind : ab_IM mX5_spotBehind := ⟨wT3 11 rfl rfl, wSl 42 rfl rfl⟩
theorem moX5_spotAhead : ab_MO mX5_spotAhead 1 := ⟨wT3 16 rfl rfl, wT1 6 rfl rfl, by decide +kernel, by decide +kernel, by decide +kernel, by decide +kernel⟩
theorem imX5_spotAhead : ab_IM mX5_spotAhead := ⟨wT3 15 rfl rfl, wSl 43 rfl rfl⟩
theorem moX5_spotOf : ab_MO mX5_spotOf 1 := ⟨wT3 8 rfl rfl, wT1 6 rfl rfl, by decide +kernel, by decide +kernel, by decide +kernel, by decide +kernel⟩
theorem imX5_spotOf : ab_IM mX5_spotOf := ⟨wT3 7 rfl rfl, wSl 41 rfl rfl⟩
theorem moX6_lengthTo : ab_MO mX6_lengthTo 2 := ⟨wT3 37 rfl rfl, wT1 7 rfl rfl, by decide +kernel, by decide +kernel, by decide +kernel, by decide +kernel⟩
theorem imX6_lengthTo : ab_IM mX6_lengthTo := ⟨wT3 36 rfl rfl, wSl 44 rfl rfl⟩
theorem moX6_firstKeyTo : ab_MO mX6_firstKeyTo 2 := ⟨wT3 87 rfl rfl, wT1 7 rfl rfl, by decide +kernel, by decide +kernel, by decide +kernel, by decide +kernel⟩
theorem imX6_firstKeyTo : ab_IM mX6_firstKeyTo := ⟨wT3 86 rfl rfl, wSl 53 rfl rfl⟩
theorem moX6_leadOutOf : ab_MO mX6_leadOutOf 2 := ⟨wT3 95 rfl rfl, wT1 7 rfl rfl, by decide +kernel, by decide +kernel, by decide +kernel, by decide +kernel⟩
theorem imX6_leadOutOf : ab_IM mX6_leadOutOf := ⟨wT3 94 rfl rfl, wSl 54 rfl rfl⟩
theorem moX6_find : ab_MO mX6_find 2 := ⟨wT3 41 rfl rfl, wT1 7 rfl rfl, by decide +kernel, by decide +kernel, by decide +kernel, by decide +kernel⟩
theorem imX6_find : ab_IM mX6_find := ⟨wT3 40 rfl rfl, wSl 45 rfl rfl⟩
theorem moX6_takeDoors : ab_MO mX6_takeDoors 0 := ⟨wT3 45 rfl rfl, wT1 7 rfl rfl, by decide +kernel, by decide +kernel, by decide +kernel, by decide +kernel⟩
theorem imX6_takeDoors : ab_IM mX6_takeDoors := ⟨wT3 44 rfl rfl, wSl 46 rfl rfl⟩
theorem moX6_doorsShutNow : ab_MO mX6_doorsShutNow 0 := ⟨wT3 52 rfl rfl, wT1 7 rfl rfl, by decide +kernel, by decide +kernel, by decide +kernel, by decide +kernel⟩
theorem imX6_doorsShutNow : ab_IM mX6_doorsShutNow := ⟨wT3 51 rfl rfl, wSl 47 rfl rfl⟩
theorem moX6_shownIf : ab_MO mX6_shownIf 1 := ⟨wT3 68 rfl rfl, wT1 7 rfl rfl, by decide +kernel, by decide +kernel, by decide +kernel, by decide +kernel⟩
theorem imX6_shownIf : ab_IM mX6_shownIf := ⟨wT3 67 rfl rfl, wSl 50 rfl rfl⟩
theorem moX6_focusIn : ab_MO mX6_focusIn 1 := ⟨wT3 60 rfl rfl, wT1 7 rfl rfl, by decide +kernel, by decide +kernel, by decide +kernel, by decide +kernel⟩
theorem smX6_focusIn : ab_SM mX6_focusIn := wT3 59 rfl rfl
theorem moX6_pressAllKeys : ab_MO mX6_pressAllKeys 1 := ⟨wT3 64 rfl rfl, wT1 7 rfl rfl, by decide +kernel, by decide +kernel, by decide +kernel, by decide +kernel⟩
theorem imX6_pressAllKeys : ab_IM mX6_pressAllKeys := ⟨wT3 63 rfl rfl, wSl 49 rfl rfl⟩
theorem moX6_doorOf : ab_MO mX6_doorOf 1 := ⟨wT3 78 rfl rfl, wT1 7 rfl rfl, by decide +kernel, by decide +kernel, by decide +kernel, by decide +kernel⟩
theorem imX6_doorOf : ab_IM mX6_doorOf := ⟨wT3 77 rfl rfl, wSl 52 rfl rfl⟩
theorem moX6_comeFrom : ab_MO mX6_comeFrom 4 := ⟨wT3 74 rfl rfl, wT1 7 rfl rfl, by decide +kernel, by decide +kernel, by decide +kernel, by decide +kernel⟩
theorem imX6_comeFrom : ab_IM mX6_comeFrom := ⟨wT3 73 rfl rfl, wSl 51 rfl rfl⟩
theorem moX6_come : ab_MO mX6_come 4 := ⟨wT3 57 rfl rfl, wT1 7 rfl rfl, by decide +kernel, by decide +kernel, by decide +kernel, by decide +kernel⟩
theorem imX6_come : ab_IM mX6_come := ⟨wT3 56 rfl rfl, wSl 48 rfl rfl⟩
theorem moX7_part : ab_MO mX7_part 2 := ⟨wT2 23 rfl rfl, wT1 1 rfl rfl, by decide +kernel, by decide +kernel, by decide +kernel, by decide +kernel⟩
theorem imX7_part : ab_IM mX7_part := ⟨wT2 21 rfl rfl, wT2 22 rfl rfl⟩
theorem moX7_set : ab_MO mX7_set 3 := ⟨wT2 49 rfl rfl, wT1 1 rfl rfl, by decide +kernel, by decide +kernel, by decide +kernel, by decide +kernel⟩
theorem imX7_set : ab_IM mX7_set := ⟨wT2 47 rfl rfl, wT2 48 rfl rfl⟩
theorem moX7_told : ab_MO mX7_told 2 := ⟨wT2 101 rfl rfl, wT1 1 rfl rfl, by decide +kernel, by decide +kernel, by decide +kernel, by decide +kernel⟩
theorem imX7_told : ab_IM mX7_told := ⟨wT2 99 rfl rfl, wT2 100 rfl rfl⟩
theorem moX7_box : ab_MO mX7_box 5 := ⟨wT2 105 rfl rfl, wT1 1 rfl rfl, by decide +kernel, by decide +kernel, by decide +kernel, by decide +kernel⟩
theorem imX7_box : ab_IM mX7_box := ⟨wT2 103 rfl rfl, wT2 104 rfl rfl⟩
theorem moX7_colours : ab_MO mX7_colours 3 := ⟨wT2 112 rfl rfl, wT1 1 rfl rfl, by decide +kernel, by decide +kernel, by decide +kernel, by decide +kernel⟩
theorem imX7_colours : ab_IM mX7_colours := ⟨wT2 110 rfl rfl, wT2 111 rfl rfl⟩
theorem moX7_contrast : ab_MO mX7_contrast 1 := ⟨wT2 138 rfl rfl, wT1 1 rfl rfl, by decide +kernel, by decide +kernel, by decide +kernel, by decide +kernel⟩
theorem imX7_contrast : ab_IM mX7_contrast := ⟨wT2 136 rfl rfl, wT2 137 rfl rfl⟩
theorem moX7_name : ab_MO mX7_name 1 := ⟨wT2 142 rfl rfl, wT1 1 rfl rfl, by decide +kernel, by decide +kernel, by decide +kernel, by decide +kernel⟩
theorem imX7_name : ab_IM mX7_name := ⟨wT2 140 rfl rfl, wT2 141 rfl rfl⟩
theorem moX7_word : ab_MO mX7_word 2 := ⟨wT2 169 rfl rfl, wT1 1 rfl rfl, by decide +kernel, by decide +kernel, by decide +kernel, by decide +kernel⟩
theorem imX7_word : ab_IM mX7_word := ⟨wT2 167 rfl rfl, wT2 168 rfl rfl⟩
theorem moX7_said : ab_MO mX7_said 1 := ⟨wT2 177 rfl rfl, wT1 1 rfl rfl, by decide +kernel, by decide +kernel, by decide +kernel, by decide +kernel⟩
theorem imX7_said : ab_IM mX7_said := ⟨wT2 175 rfl rfl, wT2 176 rfl rfl⟩
theorem moX7_pairs : ab_MO mX7_pairs 0 := ⟨wT2 195 rfl rfl, wT1 1 rfl rfl, by decide +kernel, by decide +kernel, by decide +kernel, by decide +kernel⟩
theorem imX7_pairs : ab_IM mX7_pairs := ⟨wT2 193 rfl rfl, wT2 194 rfl rfl⟩
theorem moX7_stop : ab_MO mX7_stop 1 := ⟨wT2 219 rfl rfl, wT1 1 rfl rfl, by decide +kernel, by decide +kernel, by decide +kernel, by decide +kernel⟩
theorem imX7_stop : ab_IM mX7_stop := ⟨wT2 217 rfl rfl, wT2 218 rfl rfl⟩
theorem moX7_press : ab_MO mX7_press 1 := ⟨wT2 228 rfl rfl, wT1 1 rfl rfl, by decide +kernel, by decide +kernel, by decide +kernel, by decide +kernel⟩
theorem imX7_press : ab_IM mX7_press := ⟨wT2 226 rfl rfl, wT2 227 rfl rfl⟩
theorem moX7_focus : ab_MO mX7_focus 0 := ⟨wT3 20 rfl rfl, wT1 1 rfl rfl, by decide +kernel, by decide +kernel, by decide +kernel, by decide +kernel⟩
theorem imX7_focus : ab_IM mX7_focus := ⟨wT3 18 rfl rfl, wT3 19 rfl rfl⟩
theorem moX7_caught : ab_MO mX7_caught 0 := ⟨wT3 24 rfl rfl, wT1 1 rfl rfl, by decide +kernel, by decide +kernel, by decide +kernel, by decide +kernel⟩
theorem imX7_caught : ab_IM mX7_caught := ⟨wT3 22 rfl rfl, wT3 23 rfl rfl⟩
theorem moX7_leave : ab_MO mX7_leave 0 := ⟨wT3 29 rfl rfl, wT1 1 rfl rfl, by decide +kernel, by decide +kernel, by decide +kernel, by decide +kernel⟩
theorem imX7_leave : ab_IM mX7_leave := ⟨wT3 27 rfl rfl, wT3 28 rfl rfl⟩
theorem moX7_walk : ab_MO mX7_walk 1 := ⟨wT3 33 rfl rfl, wT1 1 rfl rfl, by decide +kernel, by decide +kernel, by decide +kernel, by decide +kernel⟩
theorem imX7_walk : ab_IM mX7_walk := ⟨wT3 31 rfl rfl, wT3 32 rfl rfl⟩
theorem moX7_key : ab_MO mX7_key 1 := ⟨wT3 83 rfl rfl, wT1 1 rfl rfl, by decide +kernel, by decide +kernel, by decide +kernel, by decide +kernel⟩
theorem imX7_key : ab_IM mX7_key := ⟨wT3 81 rfl rfl, wT3 82 rfl rfl⟩
theorem moX7_keeper : ab_MO mX7_keeper 0 := ⟨wT3 91 rfl rfl, wT1 1 rfl rfl, by decide +kernel, by decide +kernel, by decide +kernel, by decide +kernel⟩
theorem imX7_keeper : ab_IM mX7_keeper := ⟨wT3 89 rfl rfl, wT3 90 rfl rfl⟩
theorem moX7_hear : ab_MO mX7_hear 0 := ⟨wT3 99 rfl rfl, wT1 1 rfl rfl, by decide +kernel, by decide +kernel, by decide +kernel, by decide +kernel⟩
theorem imX7_hear : ab_IM mX7_hear := ⟨wT3 97 rfl rfl, wT3 98 rfl rfl⟩
theorem moX7_wrongs : ab_MO mX7_wrongs 0 := ⟨wT3 107 rfl rfl, wT1 1 rfl rfl, by decide +kernel, by decide +kernel, by decide +kernel, by decide +kernel⟩
theorem imX7_wrongs : ab_IM mX7_wrongs := ⟨wT3 105 rfl rfl, wT3 106 rfl rfl⟩
theorem moX7_wrong : ab_MO mX7_wrong 2 := ⟨wT3 157 rfl rfl, wT1 1 rfl rfl, by decide +kernel, by decide +kernel, by decide +kernel, by decide +kernel⟩
theorem imX7_wrong : ab_IM mX7_wrong := ⟨wT3 155 rfl rfl, wT3 156 rfl rfl⟩
theorem moX7_mend : ab_MO mX7_mend 1 := ⟨wT3 169 rfl rfl, wT1 1 rfl rfl, by decide +kernel, by decide +kernel, by decide +kernel, by decide +kernel⟩
theorem imX7_mend : ab_IM mX7_mend := ⟨wT3 167 rfl rfl, wT3 168 rfl rfl⟩
theorem moX7_count : ab_MO mX7_count 1 := ⟨wT3 181 rfl rfl, wT1 1 rfl rfl, by decide +kernel, by decide +kernel, by decide +kernel, by decide +kernel⟩
theorem imX7_count : ab_IM mX7_count := ⟨wT3 179 rfl rfl, wT3 180 rfl rfl⟩
theorem moX7_digest : ab_MO mX7_digest 0 := ⟨wT3 186 rfl rfl, wT1 1 rfl rfl, by decide +kernel, by decide +kernel, by decide +kernel, by decide +kernel⟩
theorem imX7_digest : ab_IM mX7_digest := ⟨wT3 184 rfl rfl, wT3 185 rfl rfl⟩
theorem moX7_opensTooMany : ab_MO mX7_opensTooMany 2 := ⟨wT2 57 rfl rfl, wT1 1 rfl rfl, by decide +kernel, by decide +kernel, by decide +kernel, by decide +kernel⟩
theorem imX7_opensTooMany : ab_IM mX7_opensTooMany := ⟨wT2 56 rfl rfl, wSl 12 rfl rfl⟩
theorem moX7_change : ab_MO mX7_change 3 := ⟨wT2 68 rfl rfl, wT1 1 rfl rfl, by decide +kernel, by decide +kernel, by decide +kernel, by decide +kernel⟩
theorem imX7_change : ab_IM mX7_change := ⟨wT2 67 rfl rfl, wSl 14 rfl rfl⟩
theorem moX7_enter : ab_MO mX7_enter 0 := ⟨wT2 232 rfl rfl, wT1 1 rfl rfl, by decide +kernel, by decide +kernel, by decide +kernel, by decide +kernel⟩
theorem imX7_enter : ab_IM mX7_enter := ⟨wT2 231 rfl rfl, wSl 37 rfl rfl⟩
theorem moX7_speakOf : ab_MO mX7_speakOf 1 := ⟨wT2 74 rfl rfl, wT1 1 rfl rfl, by decide +kernel, by decide +kernel, by decide +kernel, by decide +kernel⟩
theorem imX7_speakOf : ab_IM mX7_speakOf := ⟨wT2 73 rfl rfl, wSl 15 rfl rfl⟩
theorem moX7_isLength : ab_MO mX7_isLength 1 := ⟨wT2 108 rfl rfl, wT1 1 rfl rfl, by decide +kernel, by decide +kernel, by decide +kernel, by decide +kernel⟩
theorem smX7_isLength : ab_SM mX7_isLength := wT2 107 rfl rfl
theorem moX7_isColour : ab_MO mX7_isColour 1 := ⟨wT2 115 rfl rfl, wT1 1 rfl rfl, by decide +kernel, by decide +kernel, by decide +kernel, by decide +kernel⟩
theorem smX7_isColour : ab_SM mX7_isColour := wT2 114 rfl rfl
theorem moX7_holds : ab_MO mX7_holds 2 := ⟨wT1 50 rfl rfl, wT1 1 rfl rfl, by decide +kernel, by decide +kernel, by decide +kernel, by decide +kernel⟩
theorem smX7_holds : ab_SM mX7_holds := wT1 49 rfl rfl
theorem moX7_lastOf : ab_MO mX7_lastOf 1 := ⟨wT2 81 rfl rfl, wT1 1 rfl rfl, by decide +kernel, by decide +kernel, by decide +kernel, by decide +kernel⟩
theorem smX7_lastOf : ab_SM mX7_lastOf := wT2 80 rfl rfl
theorem moX7_light : ab_MO mX7_light 1 := ⟨wT2 126 rfl rfl, wT1 1 rfl rfl, by decide +kernel, by decide +kernel, by decide +kernel, by decide +kernel⟩
theorem smX7_light : ab_SM mX7_light := wT2 125 rfl rfl
theorem moX7_contrastBetween : ab_MO mX7_contrastBetween 2 := ⟨wT2 123 rfl rfl, wT1 1 rfl rfl, by decide +kernel, by decide +kernel, by decide +kernel, by decide +kernel⟩
theorem smX7_contrastBetween : ab_SM mX7_contrastBetween := wT2 122 rfl rfl
theorem moX8_in : ab_MO mX8_in 3 := ⟨wT4 38 rfl rfl, wT1 10 rfl rfl, by decide +kernel, by decide +kernel, by decide +kernel, by decide +kernel⟩
theorem smX8_in : ab_SM mX8_in := wT4 37 rfl rfl
theorem moX8_get : ab_MO mX8_get 2 := ⟨wT4 58 rfl rfl, wT1 10 rfl rfl, by decide +kernel, by decide +kernel, by decide +kernel, by decide +kernel⟩
theorem imX8_get : ab_IM mX8_get := ⟨wT4 57 rfl rfl, wSl 73 rfl rfl⟩
theorem moX8_put : ab_MO mX8_put 3 := ⟨wT3 202 rfl rfl, wT1 10 rfl rfl, by decide +kernel, by decide +kernel, by decide +kernel, by decide +kernel⟩
theorem imX8_put : ab_IM mX8_put := ⟨wT3 201 rfl rfl, wSl 69 rfl rfl⟩
theorem moX8_begin : ab_MO mX8_begin 3 := ⟨wT3 198 rfl rfl, wT1 10 rfl rfl, by decide +kernel, by decide +kernel, by decide +kernel, by decide +kernel⟩
theorem imX8_begin : ab_IM mX8_begin := ⟨wT3 197 rfl rfl, wSl 68 rfl rfl⟩
theorem moX8_isPart : ab_MO mX8_isPart 1 := ⟨wT4 35 rfl rfl, wT1 10 rfl rfl, by decide +kernel, by decide +kernel, by decide +kernel, by decide +kernel⟩
theorem imX8_isPart : ab_IM mX8_isPart := ⟨wT4 34 rfl rfl, wSl 70 rfl rfl⟩
theorem moX8_part : ab_MO mX8_part 2 := ⟨wT4 31 rfl rfl, wT1 10 rfl rfl, by decide +kernel, by decide +kernel, by decide +kernel, by decide +kernel⟩
theorem imX8_part : ab_IM mX8_part := ⟨wT4 29 rfl rfl, wT4 30 rfl rfl⟩
theorem moX8_isShown : ab_MO mX8_isShown 1 := ⟨wT4 70 rfl rfl, wT1 10 rfl rfl, by decide +kernel, by decide +kernel, by decide +kernel, by decide +kernel⟩
theorem imX8_isShown : ab_IM mX8_isShown := ⟨wT4 69 rfl rfl, wSl 76 rfl rfl⟩
theorem moX8_lies : ab_MO mX8_lies 2 := ⟨wT4 123 rfl rfl, wT1 10 rfl rfl, by decide +kernel, by decide +kernel, by decide +kernel, by decide +kernel⟩
theorem imX8_lies : ab_IM mX8_lies := ⟨wT4 122 rfl rfl, wSl 81 rfl rfl⟩
theorem moX8_innermost : ab_MO mX8_innermost 2 := ⟨wT4 66 rfl rfl, wT1 10 rfl rfl, by decide +kernel, by decide +kernel, by decide +kernel, by decide +kernel⟩
theorem imX8_innermost : ab_IM mX8_innermost := ⟨wT4 65 rfl rfl, wSl 75 rfl rfl⟩
theorem moX8_line : ab_MO mX8_line 0 := ⟨wT4 119 rfl rfl, wT1 10 rfl rfl, by decide +kernel, by decide +kernel, by decide +kernel, by decide +kernel⟩
theorem imX8_line : ab_IM mX8_line := ⟨wT4 118 rfl rfl, wSl 80 rfl rfl⟩
theorem moX8_opened : ab_MO mX8_opened 0 := ⟨wT5 28 rfl rfl, wT1 10 rfl rfl, by decide +kernel, by decide +kernel, by decide +kernel, by decide +kernel⟩
theorem imX8_opened : ab_IM mX8_opened := ⟨wT5 27 rfl rfl, wSl 100 rfl rfl⟩
theorem moX8_isOpenedBy : ab_MO mX8_isOpenedBy 2 := ⟨wT4 54 rfl rfl, wT1 10 rfl rfl, by decide +kernel, by decide +kernel, by decide +kernel, by decide +kernel⟩
theorem imX8_isOpenedBy : ab_IM mX8_isOpenedBy := ⟨wT4 53 rfl rfl, wSl 72 rfl rfl⟩
theorem moX8_isFor : ab_MO mX8_isFor 2 := ⟨wT4 48 rfl rfl, wT1 10 rfl rfl, by decide +kernel, by decide +kernel, by decide +kernel, by decide +kernel⟩
theorem imX8_isFor : ab_IM mX8_isFor := ⟨wT4 47 rfl rfl, wSl 71 rfl rfl⟩
theorem moX8_speak : ab_MO mX8_speak 1 := ⟨wT4 62 rfl rfl, wT1 10 rfl rfl, by decide +kernel, by decide +kernel, by decide +kernel, by decide +kernel⟩
theorem imX8_speak : ab_IM mX8_speak := ⟨wT4 61 rfl rfl, wSl 74 rfl rfl⟩
theorem moX8_lookAtFocus : ab_MO mX8_lookAtFocus 0 := ⟨wT4 74 rfl rfl, wT1 10 rfl rfl, by decide +kernel, by decide +kernel, by decide +kernel, by decide +kernel⟩
theorem imX8_lookAtFocus : ab_IM mX8_lookAtFocus := ⟨wT4 73 rfl rfl, wSl 77 rfl rfl⟩
theorem moX8_set : ab_MO mX8_set 3 := ⟨wT4 43 rfl rfl, wT1 10 rfl rfl, by decide +kernel, by decide +kernel, by decide +kernel, by decide +kernel⟩
theorem imX8_set : ab_IM mX8_set := ⟨wT4 41 rfl rfl, wT4 42 rfl rfl⟩
theorem moX8_told : ab_MO mX8_told 2 := ⟨wT4 78 rfl rfl, wT1 10 rfl rfl, by decide +kernel, by decide +kernel, by decide +kernel, by decide +kernel⟩
theorem imX8_told : ab_IM mX8_told := ⟨wT4 76 rfl rfl, wT4 77 rfl rfl⟩
theorem moX8_box : ab_MO mX8_box 5 := ⟨wT4 83 rfl rfl, wT1 10 rfl rfl, by decide +kernel, by decide +kernel, by decide +kernel, by decide +kernel⟩
theorem imX8_box : ab_IM mX8_box := ⟨wT4 81 rfl rfl, wT4 82 rfl rfl⟩
theorem moX8_light : ab_MO mX8_light 1 := ⟨wT4 95 rfl rfl, wT1 10 rfl rfl, by decide +kernel, by decide +kernel, by decide +kernel, by decide +kernel⟩
theorem smX8_light : ab_SM mX8_light := wT4 94 rfl rfl
theorem moX8_contrastOf : ab_MO mX8_contrastOf 2 := ⟨wT4 92 rfl rfl, wT1 10 rfl rfl, by decide +kernel, by decide +kernel, by decide +kernel, by decide +kernel⟩
theorem smX8_contrastOf : ab_SM mX8_contrastOf := wT4 91 rfl rfl
theorem moX8_colours : ab_MO mX8_colours 3 := ⟨wT4 88 rfl rfl, wT1 10 rfl rfl, by decide +kernel, by decide +kernel, by decide +kernel, by decide +kernel⟩
theorem imX8_colours : ab_IM mX8_colours := ⟨wT4 86 rfl rfl, wT4 87 rfl rfl⟩
theorem moX8_contrast : ab_MO mX8_contrast 1 := ⟨wT4 103 rfl rfl, wT1 10 rfl rfl, by decide +kernel, by decide +kernel, by decide +kernel, by decide +kernel⟩
theorem imX8_contrast : ab_IM mX8_contrast := ⟨wT4 101 rfl rfl, wT4 102 rfl rfl⟩
theorem moX8_addWord : ab_MO mX8_addWord 2 := ⟨wT4 115 rfl rfl, wT1 10 rfl rfl, by decide +kernel, by decide +kernel, by decide +kernel, by decide +kernel⟩
theorem imX8_addWord : ab_IM mX8_addWord := ⟨wT4 114 rfl rfl, wSl 79 rfl rfl⟩
theorem moX8_findName : ab_MO mX8_findName 1 := ⟨wT4 111 rfl rfl, wT1 10 rfl rfl, by decide +kernel, by decide +kernel, by decide +kernel, by decide +kernel⟩
theorem imX8_findName : ab_IM mX8_findName := ⟨wT4 110 rfl rfl, wSl 78 rfl rfl⟩
theorem moX8_name : ab_MO mX8_name 1 := ⟨wT4 107 rfl rfl, wT1 10 rfl rfl, by decide +kernel, by decide +kernel, by decide +kernel, by decide +kernel⟩
theorem imX8_name : ab_IM mX8_name := ⟨wT4 105 rfl rfl, wT4 106 rfl rfl⟩
theorem moX8_word : ab_MO mX8_word 2 := ⟨wT4 127 rfl rfl, wT1 10 rfl rfl, by decide +kernel, by decide +kernel, by decide +kernel, by decide +kernel⟩
theorem imX8_word : ab_IM mX8_word := ⟨wT4 125 rfl rfl, wT4 126 rfl rfl⟩
theorem moX8_findSaid : ab_MO mX8_findSaid 0 := ⟨wT4 135 rfl rfl, wT1 10 rfl rfl, by decide +kernel, by decide +kernel, by decide +kernel, by decide +kernel⟩
theorem imX8_findSaid : ab_IM mX8_findSaid := ⟨wT4 134 rfl rfl, wSl 82 rfl rfl⟩
theorem moX8_said : ab_MO mX8_said 1 := ⟨wT4 131 rfl rfl, wT1 10 rfl rfl, by decide +kernel, by decide +kernel, by decide +kernel, by decide +kernel⟩
theorem imX8_said : ab_IM mX8_said := ⟨wT4 129 rfl rfl, wT4 130 rfl rfl⟩
theorem moX8_hasBox : ab_MO mX8_hasBox 1 := ⟨wT4 147 rfl rfl, wT1 10 rfl rfl, by decide +kernel, by decide +kernel, by decide +kernel, by decide +kernel⟩
theorem imX8_hasBox : ab_IM mX8_hasBox := ⟨wT4 146 rfl rfl, wSl 84 rfl rfl⟩
theorem moX8_isAbove : ab_MO mX8_isAbove 2 := ⟨wT4 151 rfl rfl, wT1 10 rfl rfl, by decide +kernel, by decide +kernel, by decide +kernel, by decide +kernel⟩
theorem imX8_isAbove : ab_IM mX8_isAbove := ⟨wT4 150 rfl rfl, wSl 85 rfl rfl⟩
theorem moX8_isAstray : ab_MO mX8_isAstray 2 := ⟨wT4 143 rfl rfl, wT1 10 rfl rfl, by decide +kernel, by decide +kernel, by decide +kernel, by decide +kernel⟩
theorem imX8_isAstray : ab_IM mX8_isAstray := ⟨wT4 142 rfl rfl, wSl 83 rfl rfl⟩
theorem moX8_pairs : ab_MO mX8_pairs 0 := ⟨wT4 139 rfl rfl, wT1 10 rfl rfl, by decide +kernel, by decide +kernel, by decide +kernel, by decide +kernel⟩
theorem imX8_pairs : ab_IM mX8_pairs := ⟨wT4 137 rfl rfl, wT4 138 rfl rfl⟩
theorem moX8_isStop : ab_MO mX8_isStop 1 := ⟨wT4 163 rfl rfl, wT1 10 rfl rfl, by decide +kernel, by decide +kernel, by decide +kernel, by decide +kernel⟩
theorem imX8_isStop : ab_IM mX8_isStop := ⟨wT4 162 rfl rfl, wSl 87 rfl rfl⟩
theorem moX8_findStops : ab_MO mX8_findStops 1 := ⟨wT4 159 rfl rfl, wT1 10 rfl rfl, by decide +kernel, by decide +kernel, by decide +kernel, by decide +kernel⟩
theorem imX8_findStops : ab_IM mX8_findStops := ⟨wT4 158 rfl rfl, wSl 86 rfl rfl⟩
theorem moX8_stop : ab_MO mX8_stop 1 := ⟨wT4 155 rfl rfl, wT1 10 rfl rfl, by decide +kernel, by decide +kernel, by decide +kernel, by decide +kernel⟩
theorem imX8_stop : ab_IM mX8_stop := ⟨wT4 153 rfl rfl, wT4 154 rfl rfl⟩
theorem moX8_trapOf : ab_MO mX8_trapOf 1 := ⟨wT4 176 rfl rfl, wT1 10 rfl rfl, by decide +kernel, by decide +kernel, by decide +kernel, by decide +kernel⟩
theorem imX8_trapOf : ab_IM mX8_trapOf := ⟨wT4 175 rfl rfl, wSl 89 rfl rfl⟩
theorem moX8_pressed : ab_MO mX8_pressed 2 := ⟨wT4 172 rfl rfl, wT1 10 rfl rfl, by decide +kernel, by decide +kernel, by decide +kernel, by decide +kernel⟩
theorem imX8_pressed : ab_IM mX8_pressed := ⟨wT4 171 rfl rfl, wSl 88 rfl rfl⟩
theorem moX8_press : ab_MO mX8_press 1 := ⟨wT4 167 rfl rfl, wT1 10 rfl rfl, by decide +kernel, by decide +kernel, by decide +kernel, by decide +kernel⟩
theorem imX8_press : ab_IM mX8_press := ⟨wT4 165 rfl rfl, wT4 166 rfl rfl⟩
theorem moX8_focus : ab_MO mX8_focus 0 := ⟨wT4 180 rfl rfl, wT1 10 rfl rfl, by decide +kernel, by decide +kernel, by decide +kernel, by decide +kernel⟩
theorem imX8_focus : ab_IM mX8_focus := ⟨wT4 178 rfl rfl, wT4 179 rfl rfl⟩
theorem moX8_caught : ab_MO mX8_caught 0 := ⟨wT4 184 rfl rfl, wT1 10 rfl rfl, by decide +kernel, by decide +kernel, by decide +kernel, by decide +kernel⟩
theorem imX8_caught : ab_IM mX8_caught := ⟨wT4 182 rfl rfl, wT4 183 rfl rfl⟩
theorem moX8_leave : ab_MO mX8_leave 0 := ⟨wT4 188 rfl rfl, wT1 10 rfl rfl, by decide +kernel, by decide +kernel, by decide +kernel, by decide +kernel⟩
theorem imX8_leave : ab_IM mX8_leave := ⟨wT4 186 rfl rfl, wT4 187 rfl rfl⟩
theorem moX8_findDoors : ab_MO mX8_findDoors 0 := ⟨wT4 200 rfl rfl, wT1 10 rfl rfl, by decide +kernel, by decide +kernel, by decide +kernel, by decide +kernel⟩
theorem imX8_findDoors : ab_IM mX8_findDoors := ⟨wT4 199 rfl rfl, wSl 91 rfl rfl⟩
theorem moX8_state : ab_MO mX8_state 0 := ⟨wT4 204 rfl rfl, wT1 10 rfl rfl, by decide +kernel, by decide +kernel, by decide +kernel, by decide +kernel⟩
theorem imX8_state : ab_IM mX8_state := ⟨wT4 203 rfl rfl, wSl 92 rfl rfl⟩
theorem moX8_come : ab_MO mX8_come 1 := ⟨wT4 208 rfl rfl, wT1 10 rfl rfl, by decide +kernel, by decide +kernel, by decide +kernel, by decide +kernel⟩
theorem imX8_come : ab_IM mX8_come := ⟨wT4 207 rfl rfl, wSl 93 rfl rfl⟩
theorem moX8_spread : ab_MO mX8_spread 0 := ⟨wT4 196 rfl rfl, wT1 10 rfl rfl, by decide +kernel, by decide +kernel, by decide +kernel, by decide +kernel⟩
theorem imX8_spread : ab_IM mX8_spread := ⟨wT4 195 rfl rfl, wSl 90 rfl rfl⟩
theorem moX8_leastTo : ab_MO mX8_leastTo 1 := ⟨wT4 212 rfl rfl, wT1 10 rfl rfl, by decide +kernel, by decide +kernel, by decide +kernel, by decide +kernel⟩
theorem imX8_leastTo : ab_IM mX8_leastTo := ⟨wT4 211 rfl rfl, wSl 94 rfl rfl⟩
theorem moX8_walk : ab_MO mX8_walk 1 := ⟨wT4 192 rfl rfl, wT1 10 rfl rfl, by decide +kernel, by decide +kernel, by decide +kernel, by decide +kernel⟩
theorem imX8_walk : ab_IM mX8_walk := ⟨wT4 190 rfl rfl, wT4 191 rfl rfl⟩
theorem moX8_key : ab_MO mX8_key 1 := ⟨wT4 216 rfl rfl, wT1 10 rfl rfl, by decide +kernel, by decide +kernel, by decide +kernel, by decide +kernel⟩
theorem imX8_key : ab_IM mX8_key := ⟨wT4 214 rfl rfl, wT4 215 rfl rfl⟩
theorem moX8_keeper : ab_MO mX8_keeper 0 := ⟨wT4 220 rfl rfl, wT1 10 rfl rfl, by decide +kernel, by decide +kernel, by decide +kernel, by decide +kernel⟩
theorem imX8_keeper : ab_IM mX8_keeper := ⟨wT4 218 rfl rfl, wT4 219 rfl rfl⟩
theorem moX8_hear : ab_MO mX8_hear 0 := ⟨wT4 224 rfl rfl, wT1 10 rfl rfl, by decide +kernel, by decide +kernel, by decide +kernel, by decide +kernel⟩
theorem imX8_hear : ab_IM mX8_hear := ⟨wT4 222 rfl rfl, wT4 223 rfl rfl⟩
theorem moX8_isTwin : ab_MO mX8_isTwin 1 := ⟨wT5 0 rfl rfl, wT1 10 rfl rfl, by decide +kernel, by decide +kernel, by decide +kernel, by decide +kernel⟩
theorem imX8_isTwin : ab_IM mX8_isTwin := ⟨wT4 239 rfl rfl, wSl 97 rfl rfl⟩
theorem moX8_isClosed : ab_MO mX8_isClosed 1 := ⟨wT5 5 rfl rfl, wT1 10 rfl rfl, by decide +kernel, by decide +kernel, by decide +kernel, by decide +kernel⟩
theorem imX8_isClosed : ab_IM mX8_isClosed := ⟨wT5 4 rfl rfl, wSl 98 rfl rfl⟩
theorem moX8_isAhead : ab_MO mX8_isAhead 1 := ⟨wT5 9 rfl rfl, wT1 10 rfl rfl, by decide +kernel, by decide +kernel, by decide +kernel, by decide +kernel⟩
theorem imX8_isAhead : ab_IM mX8_isAhead := ⟨wT5 8 rfl rfl, wSl 99 rfl rfl⟩
theorem moX8_isWrong : ab_MO mX8_isWrong 2 := ⟨wT4 236 rfl rfl, wT1 10 rfl rfl, by decide +kernel, by decide +kernel, by decide +kernel, by decide +kernel⟩
theorem imX8_isWrong : ab_IM mX8_isWrong := ⟨wT4 235 rfl rfl, wSl 96 rfl rfl⟩
theorem moX8_findWrongs : ab_MO mX8_findWrongs 0 := ⟨wT4 232 rfl rfl, wT1 10 rfl rfl, by decide +kernel, by decide +kernel, by decide +kernel, by decide +kernel⟩
theorem imX8_findWrongs : ab_IM mX8_findWrongs := ⟨wT4 231 rfl rfl, wSl 95 rfl rfl⟩
theorem moX8_wrongs : ab_MO mX8_wrongs 0 := ⟨wT4 228 rfl rfl, wT1 10 rfl rfl, by decide +kernel, by decide +kernel, by decide +kernel, by decide +kernel⟩
theorem imX8_wrongs : ab_IM mX8_wrongs := ⟨wT4 226 rfl rfl, wT4 227 rfl rfl⟩
theorem moX8_wrong : ab_MO mX8_wrong 2 := ⟨wT5 14 rfl rfl, wT1 10 rfl rfl, by decide +kernel, by decide +kernel, by decide +kernel, by decide +kernel⟩
theorem imX8_wrong : ab_IM mX8_wrong := ⟨wT5 12 rfl rfl, wT5 13 rfl rfl⟩
theorem moX8_mend : ab_MO mX8_mend 1 := ⟨wT5 18 rfl rfl, wT1 10 rfl rfl, by decide +kernel, by decide +kernel, by decide +kernel, by decide +kernel⟩
theorem imX8_mend : ab_IM mX8_mend := ⟨wT5 16 rfl rfl, wT5 17 rfl rfl⟩
theorem moX8_count : ab_MO mX8_count 1 := ⟨wT5 24 rfl rfl, wT1 10 rfl rfl, by decide +kernel, by decide +kernel, by decide +kernel, by decide +kernel⟩
theorem imX8_count : ab_IM mX8_count := ⟨wT5 22 rfl rfl, wT5 23 rfl rfl⟩
theorem moX8_digest : ab_MO mX8_digest 0 := ⟨wT5 32 rfl rfl, wT1 10 rfl rfl, by decide +kernel, by decide +kernel, by decide +kernel, by decide +kernel⟩
theorem imX8_digest : ab_IM mX8_digest := ⟨wT5 30 rfl rfl, wT5 31 rfl rfl⟩
theorem moJ6_bitCount_0f7a4 : ab_MO mJ6_bitCount_0f7a4 1 := ⟨wT1 44 rfl rfl, wT1 3 rfl rfl, by decide +kernel, by decide +kernel, by decide +kernel, by decide +kernel⟩
theorem smJ6_bitCount_0f7a4 : ab_SM mJ6_bitCount_0f7a4 := wT1 43 rfl rfl
theorem kX7_192 : Cond.constantLong RX7 192 (107) ∈ wAll := wT3 187 rfl rfl
theorem kX7_194 : Cond.constantLong RX7 194 (31) ∈ wAll := wT3 188 rfl rfl
theorem kX7_211 : Cond.constant RX7 211 (16777215) ∈ wAll := wT2 116 rfl rfl
theorem kX7_220 : Cond.constant RX7 220 (127500) ∈ wAll := wT2 130 rfl rfl
theorem kX7_224 : Cond.constantLong RX7 224 (1000) ∈ wAll := wT2 134 rfl rfl
theorem kX0_113 : Cond.constant RX0 113 (1000000) ∈ wAll := wT3 175 rfl rfl
theorem kX0_114 : Cond.constant RX0 114 (16777215) ∈ wAll := wT3 176 rfl rfl
theorem kX2_63 : Cond.constant RX2 63 (16777215) ∈ wAll := wT1 59 rfl rfl
theorem kX8_63 : Cond.constant RX8 63 (16777215) ∈ wAll := wT3 203 rfl rfl
theorem kX8_72 : Cond.constantLong RX8 72 (6) ∈ wAll := wT4 39 rfl rfl
theorem kX8_82 : Cond.constantLong RX8 82 (100) ∈ wAll := wT4 49 rfl rfl
theorem kX8_84 : Cond.constantLong RX8 84 (1000) ∈ wAll := wT4 50 rfl rfl
theorem kX8_95 : Cond.constantLong RX8 95 (9) ∈ wAll := wT4 44 rfl rfl
theorem kX8_107 : Cond.constantLong RX8 107 (17) ∈ wAll := wT4 79 rfl rfl
theorem kX8_109 : Cond.constantLong RX8 109 (10000) ∈ wAll := wT4 84 rfl rfl
theorem kX8_111 : Cond.constantLong RX8 111 (2126) ∈ wAll := wT4 96 rfl rfl
theorem kX8_113 : Cond.constantLong RX8 113 (7152) ∈ wAll := wT4 97 rfl rfl
theorem kX8_115 : Cond.constantLong RX8 115 (722) ∈ wAll := wT4 98 rfl rfl
theorem kX8_121 : Cond.constantLong RX8 121 (127500) ∈ wAll := wT4 99 rfl rfl
theorem kX8_123 : Cond.constantLong RX8 123 (16777215) ∈ wAll := wT4 89 rfl rfl
theorem kX8_169 : Cond.constantLong RX8 169 (2) ∈ wAll := wT4 168 rfl rfl
theorem kX8_209 : Cond.constantLong RX8 209 (19) ∈ wAll := wT5 10 rfl rfl
theorem kX8_220 : Cond.constant RX8 220 (1000000) ∈ wAll := wT5 19 rfl rfl
theorem kX8_227 : Cond.constantLong RX8 227 (107) ∈ wAll := wT5 33 rfl rfl
theorem kX8_229 : Cond.constantLong RX8 229 (31) ∈ wAll := wT5 34 rfl rfl
theorem kJ6_265 : Cond.constant RJ6 265 (1431655765) ∈ wAll := wT1 45 rfl rfl
theorem kJ6_266 : Cond.constant RJ6 266 (858993459) ∈ wAll := wT1 46 rfl rfl
theorem kJ6_267 : Cond.constant RJ6 267 (252645135) ∈ wAll := wT1 47 rfl rfl
theorem mq_max : Cond.methodLink RX7 215 Lib.Math.max.name ∈ wAll ∧ Cond.static Lib.Math.max.name ∈ wAll ∧ Cond.initialized "java/lang/Math" ∈ wAll ∧ Cond.code Lib.Math.max.name Lib.Math.max.code 2 (some .int) ∈ wAll := ⟨wT2 127 rfl rfl, wT2 128 rfl rfl, wT1 11 rfl rfl, wT2 129 rfl rfl⟩
theorem mq_min : Cond.methodLink RX7 221 Lib.Math.min.name ∈ wAll ∧ Cond.static Lib.Math.min.name ∈ wAll ∧ Cond.initialized "java/lang/Math" ∈ wAll ∧ Cond.code Lib.Math.min.name Lib.Math.min.code 2 (some .int) ∈ wAll := ⟨wT2 131 rfl rfl, wT2 132 rfl rfl, wT1 11 rfl rfl, wT2 133 rfl rfl⟩
end
section
theorem dX0_init_0 : decode cX0_init 0 = .ok (.aload_n 0, 1) := by decide +kernel
theorem dX0_init_1 : decode cX0_init 1 = .ok (.invokespecial 3, 3) := by decide +kernel
theorem dX0_init_4 : decode cX0_init 4 = .ok (.aload_n 0, 1) := by decide +kernel
theorem dX0_init_5 : decode cX0_init 5 = .ok (.sipush 144, 3) := by decide +kernel
theorem dX0_init_8 : decode cX0_init 8 = .ok (.newarray .int, 2) := by decide +kernel
theorem dX0_init_10 : decode cX0_init 10 = .ok (.putfield 9, 3) := by decide +kernel
theorem dX0_init_13 : decode cX0_init 13 = .ok (.aload_n 0, 1) := by decide +kernel
theorem dX0_init_14 : decode cX0_init 14 = .ok (.sipush 144, 3) := by decide +kernel
theorem dX0_init_17 : decode cX0_init 17 = .ok (.newarray .int, 2) := by decide +kernel
theorem dX0_init_19 : decode cX0_init 19 = .ok (.putfield 15, 3) := by decide +kernel
theorem dX0_init_22 : decode cX0_init 22 = .ok (.aload_n 0, 1) := by decide +kernel
theorem dX0_init_23 : decode cX0_init 23 = .ok (.aload_n 1, 1) := by decide +kernel
theorem dX0_init_24 : decode cX0_init 24 = .ok (.putfield 18, 3) := by decide +kernel
theorem dX0_init_27 : decode cX0_init 27 = .ok (.aload_n 0, 1) := by decide +kernel
theorem dX0_init_28 : decode cX0_init 28 = .ok (.aload_n 2, 1) := by decide +kernel
theorem dX0_init_29 : decode cX0_init 29 = .ok (.putfield 22, 3) := by decide +kernel
theorem dX0_init_32 : decode cX0_init 32 = .ok (.aload_n 0, 1) := by decide +kernel
theorem dX0_init_33 : decode cX0_init 33 = .ok (.aload_n 3, 1) := by decide +kernel
theorem dX0_init_34 : decode cX0_init 34 = .ok (.putfield 26, 3) := by decide +kernel
theorem dX0_init_37 : decode cX0_init 37 = .ok (.aload_n 0, 1) := by decide +kernel
theorem dX0_init_38 : decode cX0_init 38 = .ok (.iconst 0, 1) := by decide +kernel
theorem dX0_init_39 : decode cX0_init 39 = .ok (.putfield 30, 3) := by decide +kernel
theorem dX0_init_42 : decode cX0_init 42 = .ok (.return_, 1) := by decide +kernel
theorem dX0_gather_0 : decode cX0_gather 0 = .ok (.aload_n 0, 1) := by decide +kernel
theorem dX0_gather_1 : decode cX0_gather 1 = .ok (.getfield 18, 3) := by decide +kernel
theorem dX0_gather_4 : decode cX0_gather 4 = .ok (.invokevirtual 34, 3) := by decide +kernel
theorem dX0_gather_7 : decode cX0_gather 7 = .ok (.istore_n 1, 1) := by decide +kernel
theorem dX0_gather_8 : decode cX0_gather 8 = .ok (.aload_n 0, 1) := by decide +kernel
theorem dX0_gather_9 : decode cX0_gather 9 = .ok (.getfield 26, 3) := by decide +kernel
theorem dX0_gather_12 : decode cX0_gather 12 = .ok (.iload_n 1, 1) := by decide +kernel
theorem dX0_gather_13 : decode cX0_gather 13 = .ok (.invokevirtual 40, 3) := by decide +kernel
theorem dX0_gather_16 : decode cX0_gather 16 = .ok (.aload_n 0, 1) := by decide +kernel
theorem dX0_gather_17 : decode cX0_gather 17 = .ok (.getfield 26, 3) := by decide +kernel
theorem dX0_gather_20 : decode cX0_gather 20 = .ok (.invokevirtual 46, 3) := by decide +kernel
theorem dX0_gather_23 : decode cX0_gather 23 = .ok (.aload_n 0, 1) := by decide +kernel
theorem dX0_gather_24 : decode cX0_gather 24 = .ok (.iconst 0, 1) := by decide +kernel
theorem dX0_gather_25 : decode cX0_gather 25 = .ok (.putfield 30, 3) := by decide +kernel
theorem dX0_gather_28 : decode cX0_gather 28 = .ok (.iconst 0, 1) := by decide +kernel
theorem dX0_gather_29 : decode cX0_gather 29 = .ok (.istore_n 2, 1) := by decide +kernel
theorem dX0_gather_30 : decode cX0_gather 30 = .ok (.iload_n 2, 1) := by decide +kernel
theorem dX0_gather_31 : decode cX0_gather 31 = .ok (.aload_n 0, 1) := by decide +kernel
theorem dX0_gather_32 : decode cX0_gather 32 = .ok (.getfield 18, 3) := by decide +kernel
theorem dX0_gather_35 : decode cX0_gather 35 = .ok (.getfield 49, 3) := by decide +kernel
theorem dX0_gather_38 : decode cX0_gather 38 = .ok (.if_icmp .ge 80, 3) := by decide +kernel
theorem dX0_gather_41 : decode cX0_gather 41 = .ok (.aload_n 0, 1) := by decide +kernel
theorem dX0_gather_42 : decode cX0_gather 42 = .ok (.getfield 22, 3) := by decide +kernel
theorem dX0_gather_45 : decode cX0_gather 45 = .ok (.iload_n 2, 1) := by decide +kernel
theorem dX0_gather_46 : decode cX0_gather 46 = .ok (.iload_n 1, 1) := by decide +kernel
theorem dX0_gather_47 : decode cX0_gather 47 = .ok (.invokevirtual 50, 3) := by decide +kernel
theorem dX0_gather_50 : decode cX0_gather 50 = .ok (.iconst 0, 1) := by decide +kernel
theorem dX0_gather_51 : decode cX0_gather 51 = .ok (.istore_n 3, 1) := by decide +kernel
theorem dX0_gather_52 : decode cX0_gather 52 = .ok (.iload_n 3, 1) := by decide +kernel
theorem dX0_gather_53 : decode cX0_gather 53 = .ok (.bipush 6, 2) := by decide +kernel
theorem dX0_gather_55 : decode cX0_gather 55 = .ok (.if_icmp .ge 57, 3) := by decide +kernel
theorem dX0_gather_58 : decode cX0_gather 58 = .ok (.iload_n 1, 1) := by decide +kernel
theorem dX0_gather_59 : decode cX0_gather 59 = .ok (.iload_n 2, 1) := by decide +kernel
theorem dX0_gather_60 : decode cX0_gather 60 = .ok (.invokestatic 56, 3) := by decide +kernel
theorem dX0_gather_63 : decode cX0_gather 63 = .ok (.ifCond .eq 43, 3) := by decide +kernel
theorem dX0_gather_66 : decode cX0_gather 66 = .ok (.aload_n 0, 1) := by decide +kernel
theorem dX0_gather_67 : decode cX0_gather 67 = .ok (.iload_n 2, 1) := by decide +kernel
theorem dX0_gather_68 : decode cX0_gather 68 = .ok (.iload_n 3, 1) := by decide +kernel
theorem dX0_gather_69 : decode cX0_gather 69 = .ok (.iload_n 1, 1) := by decide +kernel
theorem dX0_gather_70 : decode cX0_gather 70 = .ok (.invokevirtual 60, 3) := by decide +kernel
theorem dX0_gather_73 : decode cX0_gather 73 = .ok (.ifCond .eq 33, 3) := by decide +kernel
theorem dX0_gather_76 : decode cX0_gather 76 = .ok (.aload_n 0, 1) := by decide +kernel
theorem dX0_gather_77 : decode cX0_gather 77 = .ok (.getfield 9, 3) := by decide +kernel
theorem dX0_gather_80 : decode cX0_gather 80 = .ok (.aload_n 0, 1) := by decide +kernel
theorem dX0_gather_81 : decode cX0_gather 81 = .ok (.getfield 30, 3) := by decide +kernel
theorem dX0_gather_84 : decode cX0_gather 84 = .ok (.iload_n 2, 1) := by decide +kernel
theorem dX0_gather_85 : decode cX0_gather 85 = .ok (.iastore, 1) := by decide +kernel
theorem dX0_gather_86 : decode cX0_gather 86 = .ok (.aload_n 0, 1) := by decide +kernel
theorem dX0_gather_87 : decode cX0_gather 87 = .ok (.getfield 15, 3) := by decide +kernel
theorem dX0_gather_90 : decode cX0_gather 90 = .ok (.aload_n 0, 1) := by decide +kernel
theorem dX0_gather_91 : decode cX0_gather 91 = .ok (.getfield 30, 3) := by decide +kernel
theorem dX0_gather_94 : decode cX0_gather 94 = .ok (.iload_n 3, 1) := by decide +kernel
theorem dX0_gather_95 : decode cX0_gather 95 = .ok (.iastore, 1) := by decide +kernel
theorem dX0_gather_96 : decode cX0_gather 96 = .ok (.aload_n 0, 1) := by decide +kernel
theorem dX0_gather_97 : decode cX0_gather 97 = .ok (.dup, 1) := by decide +kernel
theorem dX0_gather_98 : decode cX0_gather 98 = .ok (.getfield 30, 3) := by decide +kernel
theorem dX0_gather_101 : decode cX0_gather 101 = .ok (.iconst 1, 1) := by decide +kernel
theorem dX0_gather_102 : decode cX0_gather 102 = .ok (.iadd, 1) := by decide +kernel
theorem dX0_gather_103 : decode cX0_gather 103 = .ok (.putfield 30, 3) := by decide +kernel
theorem dX0_gather_106 : decode cX0_gather 106 = .ok (.iinc 3 1, 3) := by decide +kernel
theorem dX0_gather_109 : decode cX0_gather 109 = .ok (.goto (-57), 3) := by decide +kernel
theorem dX0_gather_112 : decode cX0_gather 112 = .ok (.iinc 2 1, 3) := by decide +kernel
theorem dX0_gather_115 : decode cX0_gather 115 = .ok (.goto (-85), 3) := by decide +kernel
theorem dX0_gather_118 : decode cX0_gather 118 = .ok (.return_, 1) := by decide +kernel
theorem dX0_hasFault_0 : decode cX0_hasFault 0 = .ok (.iload_n 2, 1) := by decide +kernel
theorem dX0_hasFault_1 : decode cX0_hasFault 1 = .ok (.tableswitch 95 0 4 #[35, 41, 48, 54, 83], 35) := by decide +kernel
theorem dX0_hasFault_36 : decode cX0_hasFault 36 = .ok (.aload_n 0, 1) := by decide +kernel
theorem dX0_hasFault_37 : decode cX0_hasFault 37 = .ok (.iload_n 1, 1) := by decide +kernel
theorem dX0_hasFault_38 : decode cX0_hasFault 38 = .ok (.invokevirtual 64, 3) := by decide +kernel
theorem dX0_hasFault_41 : decode cX0_hasFault 41 = .ok (.ireturn, 1) := by decide +kernel
theorem dX0_hasFault_42 : decode cX0_hasFault 42 = .ok (.aload_n 0, 1) := by decide +kernel
theorem dX0_hasFault_43 : decode cX0_hasFault 43 = .ok (.iload_n 1, 1) := by decide +kernel
theorem dX0_hasFault_44 : decode cX0_hasFault 44 = .ok (.iload_n 3, 1) := by decide +kernel
theorem dX0_hasFault_45 : decode cX0_hasFault 45 = .ok (.invokevirtual 68, 3) := by decide +kernel
theorem dX0_hasFault_48 : decode cX0_hasFault 48 = .ok (.ireturn, 1) := by decide +kernel
theorem dX0_hasFault_49 : decode cX0_hasFault 49 = .ok (.aload_n 0, 1) := by decide +kernel
theorem dX0_hasFault_50 : decode cX0_hasFault 50 = .ok (.iload_n 1, 1) := by decide +kernel
theorem dX0_hasFault_51 : decode cX0_hasFault 51 = .ok (.invokevirtual 71, 3) := by decide +kernel
theorem dX0_hasFault_54 : decode cX0_hasFault 54 = .ok (.ireturn, 1) := by decide +kernel
theorem dX0_hasFault_55 : decode cX0_hasFault 55 = .ok (.aload_n 0, 1) := by decide +kernel
theorem dX0_hasFault_56 : decode cX0_hasFault 56 = .ok (.getfield 18, 3) := by decide +kernel
theorem dX0_hasFault_59 : decode cX0_hasFault 59 = .ok (.iload_n 1, 1) := by decide +kernel
theorem dX0_hasFault_60 : decode cX0_hasFault 60 = .ok (.bipush 10, 2) := by decide +kernel
theorem dX0_hasFault_62 : decode cX0_hasFault 62 = .ok (.invokevirtual 74, 3) := by decide +kernel
theorem dX0_hasFault_65 : decode cX0_hasFault 65 = .ok (.iconst 5, 1) := by decide +kernel
theorem dX0_hasFault_66 : decode cX0_hasFault 66 = .ok (.if_icmp .ne 16, 3) := by decide +kernel
theorem dX0_hasFault_69 : decode cX0_hasFault 69 = .ok (.aload_n 0, 1) := by decide +kernel
theorem dX0_hasFault_70 : decode cX0_hasFault 70 = .ok (.iload_n 1, 1) := by decide +kernel
theorem dX0_hasFault_71 : decode cX0_hasFault 71 = .ok (.iload_n 3, 1) := by decide +kernel
theorem dX0_hasFault_72 : decode cX0_hasFault 72 = .ok (.invokevirtual 78, 3) := by decide +kernel
theorem dX0_hasFault_75 : decode cX0_hasFault 75 = .ok (.ifCond .eq 7, 3) := by decide +kernel
theorem dX0_hasFault_78 : decode cX0_hasFault 78 = .ok (.iconst 1, 1) := by decide +kernel
theorem dX0_hasFault_79 : decode cX0_hasFault 79 = .ok (.goto 4, 3) := by decide +kernel
theorem dX0_hasFault_82 : decode cX0_hasFault 82 = .ok (.iconst 0, 1) := by decide +kernel
theorem dX0_hasFault_83 : decode cX0_hasFault 83 = .ok (.ireturn, 1) := by decide +kernel
theorem dX0_hasFault_84 : decode cX0_hasFault 84 = .ok (.aload_n 0, 1) := by decide +kernel
theorem dX0_hasFault_85 : decode cX0_hasFault 85 = .ok (.getfield 26, 3) := by decide +kernel
theorem dX0_hasFault_88 : decode cX0_hasFault 88 = .ok (.getfield 81, 3) := by decide +kernel
theorem dX0_hasFault_91 : decode cX0_hasFault 91 = .ok (.iload_n 1, 1) := by decide +kernel
theorem dX0_hasFault_92 : decode cX0_hasFault 92 = .ok (.invokestatic 56, 3) := by decide +kernel
theorem dX0_hasFault_95 : decode cX0_hasFault 95 = .ok (.ireturn, 1) := by decide +kernel
theorem dX0_hasFault_96 : decode cX0_hasFault 96 = .ok (.aload_n 0, 1) := by decide +kernel
theorem dX0_hasFault_97 : decode cX0_hasFault 97 = .ok (.iload_n 1, 1) := by decide +kernel
theorem dX0_hasFault_98 : decode cX0_hasFault 98 = .ok (.invokevirtual 84, 3) := by decide +kernel
theorem dX0_hasFault_101 : decode cX0_hasFault 101 = .ok (.ireturn, 1) := by decide +kernel
theorem dX0_isNameless_0 : decode cX0_isNameless 0 = .ok (.aload_n 0, 1) := by decide +kernel
theorem dX0_isNameless_1 : decode cX0_isNameless 1 = .ok (.getfield 18, 3) := by decide +kernel
theorem dX0_isNameless_4 : decode cX0_isNameless 4 = .ok (.iload_n 1, 1) := by decide +kernel
theorem dX0_isNameless_5 : decode cX0_isNameless 5 = .ok (.bipush 10, 2) := by decide +kernel
theorem dX0_isNameless_7 : decode cX0_isNameless 7 = .ok (.invokevirtual 74, 3) := by decide +kernel
theorem dX0_isNameless_10 : decode cX0_isNameless 10 = .ok (.istore_n 2, 1) := by decide +kernel
theorem dX0_isNameless_11 : decode cX0_isNameless 11 = .ok (.aload_n 0, 1) := by decide +kernel
theorem dX0_isNameless_12 : decode cX0_isNameless 12 = .ok (.getfield 22, 3) := by decide +kernel
theorem dX0_isNameless_15 : decode cX0_isNameless 15 = .ok (.iload_n 1, 1) := by decide +kernel
theorem dX0_isNameless_16 : decode cX0_isNameless 16 = .ok (.invokevirtual 87, 3) := by decide +kernel
theorem dX0_isNameless_19 : decode cX0_isNameless 19 = .ok (.ifCond .ne 22, 3) := by decide +kernel
theorem dX0_isNameless_22 : decode cX0_isNameless 22 = .ok (.iload_n 2, 1) := by decide +kernel
theorem dX0_isNameless_23 : decode cX0_isNameless 23 = .ok (.iconst 2, 1) := by decide +kernel
theorem dX0_isNameless_24 : decode cX0_isNameless 24 = .ok (.if_icmp .eq 13, 3) := by decide +kernel
theorem dX0_isNameless_27 : decode cX0_isNameless 27 = .ok (.iload_n 2, 1) := by decide +kernel
theorem dX0_isNameless_28 : decode cX0_isNameless 28 = .ok (.iconst 3, 1) := by decide +kernel
theorem dX0_isNameless_29 : decode cX0_isNameless 29 = .ok (.if_icmp .eq 8, 3) := by decide +kernel
theorem dX0_isNameless_32 : decode cX0_isNameless 32 = .ok (.iload_n 2, 1) := by decide +kernel
theorem dX0_isNameless_33 : decode cX0_isNameless 33 = .ok (.iconst 4, 1) := by decide +kernel
theorem dX0_isNameless_34 : decode cX0_isNameless 34 = .ok (.if_icmp .ne 7, 3) := by decide +kernel
theorem dX0_isNameless_37 : decode cX0_isNameless 37 = .ok (.iconst 1, 1) := by decide +kernel
theorem dX0_isNameless_38 : decode cX0_isNameless 38 = .ok (.goto 4, 3) := by decide +kernel
theorem dX0_isNameless_41 : decode cX0_isNameless 41 = .ok (.iconst 0, 1) := by decide +kernel
theorem dX0_isNameless_42 : decode cX0_isNameless 42 = .ok (.ireturn, 1) := by decide +kernel
theorem dX0_isTwin_0 : decode cX0_isTwin 0 = .ok (.aload_n 0, 1) := by decide +kernel
theorem dX0_isTwin_1 : decode cX0_isTwin 1 = .ok (.getfield 18, 3) := by decide +kernel
theorem dX0_isTwin_4 : decode cX0_isTwin 4 = .ok (.iload_n 2, 1) := by decide +kernel
theorem dX0_isTwin_5 : decode cX0_isTwin 5 = .ok (.invokevirtual 91, 3) := by decide +kernel
theorem dX0_isTwin_8 : decode cX0_isTwin 8 = .ok (.istore_n 3, 1) := by decide +kernel
theorem dX0_isTwin_9 : decode cX0_isTwin 9 = .ok (.iload_n 3, 1) := by decide +kernel
theorem dX0_isTwin_10 : decode cX0_isTwin 10 = .ok (.iload_n 1, 1) := by decide +kernel
theorem dX0_isTwin_11 : decode cX0_isTwin 11 = .ok (.invokestatic 56, 3) := by decide +kernel
theorem dX0_isTwin_14 : decode cX0_isTwin 14 = .ok (.ifCond .eq 14, 3) := by decide +kernel
theorem dX0_isTwin_17 : decode cX0_isTwin 17 = .ok (.aload_n 0, 1) := by decide +kernel
theorem dX0_isTwin_18 : decode cX0_isTwin 18 = .ok (.getfield 22, 3) := by decide +kernel
theorem dX0_isTwin_21 : decode cX0_isTwin 21 = .ok (.iload_n 1, 1) := by decide +kernel
theorem dX0_isTwin_22 : decode cX0_isTwin 22 = .ok (.invokevirtual 87, 3) := by decide +kernel
theorem dX0_isTwin_25 : decode cX0_isTwin 25 = .ok (.ifCond .ne 5, 3) := by decide +kernel
theorem dX0_isTwin_28 : decode cX0_isTwin 28 = .ok (.iconst 0, 1) := by decide +kernel
theorem dX0_isTwin_29 : decode cX0_isTwin 29 = .ok (.ireturn, 1) := by decide +kernel
theorem dX0_isTwin_30 : decode cX0_isTwin 30 = .ok (.iconst 0, 1) := by decide +kernel
theorem dX0_isTwin_31 : decode cX0_isTwin 31 = .ok (.istore 4, 2) := by decide +kernel
theorem dX0_isTwin_33 : decode cX0_isTwin 33 = .ok (.iload 4, 2) := by decide +kernel
theorem dX0_isTwin_35 : decode cX0_isTwin 35 = .ok (.iload_n 1, 1) := by decide +kernel
theorem dX0_isTwin_36 : decode cX0_isTwin 36 = .ok (.if_icmp .ge 33, 3) := by decide +kernel
theorem dX0_isTwin_39 : decode cX0_isTwin 39 = .ok (.iload_n 3, 1) := by decide +kernel
theorem dX0_isTwin_40 : decode cX0_isTwin 40 = .ok (.iload 4, 2) := by decide +kernel
theorem dX0_isTwin_42 : decode cX0_isTwin 42 = .ok (.invokestatic 56, 3) := by decide +kernel
theorem dX0_isTwin_45 : decode cX0_isTwin 45 = .ok (.ifCond .eq 18, 3) := by decide +kernel
theorem dX0_isTwin_48 : decode cX0_isTwin 48 = .ok (.aload_n 0, 1) := by decide +kernel
theorem dX0_isTwin_49 : decode cX0_isTwin 49 = .ok (.getfield 22, 3) := by decide +kernel
theorem dX0_isTwin_52 : decode cX0_isTwin 52 = .ok (.iload_n 1, 1) := by decide +kernel
theorem dX0_isTwin_53 : decode cX0_isTwin 53 = .ok (.iload 4, 2) := by decide +kernel
theorem dX0_isTwin_55 : decode cX0_isTwin 55 = .ok (.invokevirtual 94, 3) := by decide +kernel
theorem dX0_isTwin_58 : decode cX0_isTwin 58 = .ok (.ifCond .eq 5, 3) := by decide +kernel
theorem dX0_isTwin_61 : decode cX0_isTwin 61 = .ok (.iconst 1, 1) := by decide +kernel
theorem dX0_isTwin_62 : decode cX0_isTwin 62 = .ok (.ireturn, 1) := by decide +kernel
theorem dX0_isTwin_63 : decode cX0_isTwin 63 = .ok (.iinc 4 1, 3) := by decide +kernel
theorem dX0_isTwin_66 : decode cX0_isTwin 66 = .ok (.goto (-33), 3) := by decide +kernel
theorem dX0_isTwin_69 : decode cX0_isTwin 69 = .ok (.iconst 0, 1) := by decide +kernel
theorem dX0_isTwin_70 : decode cX0_isTwin 70 = .ok (.ireturn, 1) := by decide +kernel
theorem dX0_isPale_0 : decode cX0_isPale 0 = .ok (.aload_n 0, 1) := by decide +kernel
theorem dX0_isPale_1 : decode cX0_isPale 1 = .ok (.getfield 18, 3) := by decide +kernel
theorem dX0_isPale_4 : decode cX0_isPale 4 = .ok (.iload_n 1, 1) := by decide +kernel
theorem dX0_isPale_5 : decode cX0_isPale 5 = .ok (.bipush 10, 2) := by decide +kernel
theorem dX0_isPale_7 : decode cX0_isPale 7 = .ok (.invokevirtual 74, 3) := by decide +kernel
theorem dX0_isPale_10 : decode cX0_isPale 10 = .ok (.istore_n 2, 1) := by decide +kernel
theorem dX0_isPale_11 : decode cX0_isPale 11 = .ok (.iload_n 2, 1) := by decide +kernel
theorem dX0_isPale_12 : decode cX0_isPale 12 = .ok (.iconst 1, 1) := by decide +kernel
theorem dX0_isPale_13 : decode cX0_isPale 13 = .ok (.if_icmp .ne 23, 3) := by decide +kernel
theorem dX0_isPale_16 : decode cX0_isPale 16 = .ok (.aload_n 0, 1) := by decide +kernel
theorem dX0_isPale_17 : decode cX0_isPale 17 = .ok (.getfield 18, 3) := by decide +kernel
theorem dX0_isPale_20 : decode cX0_isPale 20 = .ok (.iload_n 1, 1) := by decide +kernel
theorem dX0_isPale_21 : decode cX0_isPale 21 = .ok (.invokevirtual 97, 3) := by decide +kernel
theorem dX0_isPale_24 : decode cX0_isPale 24 = .ok (.sipush 4500, 3) := by decide +kernel
theorem dX0_isPale_27 : decode cX0_isPale 27 = .ok (.if_icmp .ge 7, 3) := by decide +kernel
theorem dX0_isPale_30 : decode cX0_isPale 30 = .ok (.iconst 1, 1) := by decide +kernel
theorem dX0_isPale_31 : decode cX0_isPale 31 = .ok (.goto 4, 3) := by decide +kernel
theorem dX0_isPale_34 : decode cX0_isPale 34 = .ok (.iconst 0, 1) := by decide +kernel
theorem dX0_isPale_35 : decode cX0_isPale 35 = .ok (.ireturn, 1) := by decide +kernel
theorem dX0_isPale_36 : decode cX0_isPale 36 = .ok (.iload_n 2, 1) := by decide +kernel
theorem dX0_isPale_37 : decode cX0_isPale 37 = .ok (.iconst 2, 1) := by decide +kernel
theorem dX0_isPale_38 : decode cX0_isPale 38 = .ok (.if_icmp .eq 8, 3) := by decide +kernel
theorem dX0_isPale_41 : decode cX0_isPale 41 = .ok (.iload_n 2, 1) := by decide +kernel
theorem dX0_isPale_42 : decode cX0_isPale 42 = .ok (.iconst 3, 1) := by decide +kernel
theorem dX0_isPale_43 : decode cX0_isPale 43 = .ok (.if_icmp .ne 21, 3) := by decide +kernel
theorem dX0_isPale_46 : decode cX0_isPale 46 = .ok (.aload_n 0, 1) := by decide +kernel
theorem dX0_isPale_47 : decode cX0_isPale 47 = .ok (.getfield 18, 3) := by decide +kernel
theorem dX0_isPale_50 : decode cX0_isPale 50 = .ok (.iload_n 1, 1) := by decide +kernel
theorem dX0_isPale_51 : decode cX0_isPale 51 = .ok (.invokevirtual 97, 3) := by decide +kernel
theorem dX0_isPale_54 : decode cX0_isPale 54 = .ok (.sipush 3000, 3) := by decide +kernel
theorem dX0_isPale_57 : decode cX0_isPale 57 = .ok (.if_icmp .ge 7, 3) := by decide +kernel
theorem dX0_isPale_60 : decode cX0_isPale 60 = .ok (.iconst 1, 1) := by decide +kernel
theorem dX0_isPale_61 : decode cX0_isPale 61 = .ok (.goto 4, 3) := by decide +kernel
theorem dX0_isPale_64 : decode cX0_isPale 64 = .ok (.iconst 0, 1) := by decide +kernel
theorem dX0_isPale_65 : decode cX0_isPale 65 = .ok (.ireturn, 1) := by decide +kernel
theorem dX0_isClosed_0 : decode cX0_isClosed 0 = .ok (.aload_n 0, 1) := by decide +kernel
theorem dX0_isClosed_1 : decode cX0_isClosed 1 = .ok (.getfield 18, 3) := by decide +kernel
theorem dX0_isClosed_4 : decode cX0_isClosed 4 = .ok (.iload_n 2, 1) := by decide +kernel
theorem dX0_isClosed_5 : decode cX0_isClosed 5 = .ok (.invokevirtual 91, 3) := by decide +kernel
theorem dX0_isClosed_8 : decode cX0_isClosed 8 = .ok (.aload_n 0, 1) := by decide +kernel
theorem dX0_isClosed_9 : decode cX0_isClosed 9 = .ok (.getfield 18, 3) := by decide +kernel
theorem dX0_isClosed_12 : decode cX0_isClosed 12 = .ok (.getfield 100, 3) := by decide +kernel
theorem dX0_isClosed_15 : decode cX0_isClosed 15 = .ok (.iload_n 1, 1) := by decide +kernel
theorem dX0_isClosed_16 : decode cX0_isClosed 16 = .ok (.iaload, 1) := by decide +kernel
theorem dX0_isClosed_17 : decode cX0_isClosed 17 = .ok (.iand, 1) := by decide +kernel
theorem dX0_isClosed_18 : decode cX0_isClosed 18 = .ok (.istore_n 3, 1) := by decide +kernel
theorem dX0_isClosed_19 : decode cX0_isClosed 19 = .ok (.aload_n 0, 1) := by decide +kernel
theorem dX0_isClosed_20 : decode cX0_isClosed 20 = .ok (.getfield 18, 3) := by decide +kernel
theorem dX0_isClosed_23 : decode cX0_isClosed 23 = .ok (.getfield 103, 3) := by decide +kernel
theorem dX0_isClosed_26 : decode cX0_isClosed 26 = .ok (.iload_n 1, 1) := by decide +kernel
theorem dX0_isClosed_27 : decode cX0_isClosed 27 = .ok (.iaload, 1) := by decide +kernel
theorem dX0_isClosed_28 : decode cX0_isClosed 28 = .ok (.iconst 1, 1) := by decide +kernel
theorem dX0_isClosed_29 : decode cX0_isClosed 29 = .ok (.iload_n 1, 1) := by decide +kernel
theorem dX0_isClosed_30 : decode cX0_isClosed 30 = .ok (.ishl, 1) := by decide +kernel
theorem dX0_isClosed_31 : decode cX0_isClosed 31 = .ok (.ior, 1) := by decide +kernel
theorem dX0_isClosed_32 : decode cX0_isClosed 32 = .ok (.istore 4, 2) := by decide +kernel
theorem dX0_isClosed_34 : decode cX0_isClosed 34 = .ok (.iconst 0, 1) := by decide +kernel
theorem dX0_isClosed_35 : decode cX0_isClosed 35 = .ok (.istore 5, 2) := by decide +kernel
theorem dX0_isClosed_37 : decode cX0_isClosed 37 = .ok (.iload 5, 2) := by decide +kernel
theorem dX0_isClosed_39 : decode cX0_isClosed 39 = .ok (.aload_n 0, 1) := by decide +kernel
theorem dX0_isClosed_40 : decode cX0_isClosed 40 = .ok (.getfield 18, 3) := by decide +kernel
theorem dX0_isClosed_43 : decode cX0_isClosed 43 = .ok (.getfield 49, 3) := by decide +kernel
theorem dX0_isClosed_46 : decode cX0_isClosed 46 = .ok (.if_icmp .ge 37, 3) := by decide +kernel
theorem dX0_isClosed_49 : decode cX0_isClosed 49 = .ok (.iload_n 3, 1) := by decide +kernel
theorem dX0_isClosed_50 : decode cX0_isClosed 50 = .ok (.iload 5, 2) := by decide +kernel
theorem dX0_isClosed_52 : decode cX0_isClosed 52 = .ok (.invokestatic 56, 3) := by decide +kernel
theorem dX0_isClosed_55 : decode cX0_isClosed 55 = .ok (.ifCond .eq 22, 3) := by decide +kernel
theorem dX0_isClosed_58 : decode cX0_isClosed 58 = .ok (.iload 4, 2) := by decide +kernel
theorem dX0_isClosed_60 : decode cX0_isClosed 60 = .ok (.aload_n 0, 1) := by decide +kernel
theorem dX0_isClosed_61 : decode cX0_isClosed 61 = .ok (.getfield 18, 3) := by decide +kernel
theorem dX0_isClosed_64 : decode cX0_isClosed 64 = .ok (.iload 5, 2) := by decide +kernel
theorem dX0_isClosed_66 : decode cX0_isClosed 66 = .ok (.invokevirtual 106, 3) := by decide +kernel
theorem dX0_isClosed_69 : decode cX0_isClosed 69 = .ok (.invokestatic 56, 3) := by decide +kernel
theorem dX0_isClosed_72 : decode cX0_isClosed 72 = .ok (.ifCond .eq 5, 3) := by decide +kernel
theorem dX0_isClosed_75 : decode cX0_isClosed 75 = .ok (.iconst 0, 1) := by decide +kernel
theorem dX0_isClosed_76 : decode cX0_isClosed 76 = .ok (.ireturn, 1) := by decide +kernel
theorem dX0_isClosed_77 : decode cX0_isClosed 77 = .ok (.iinc 5 1, 3) := by decide +kernel
theorem dX0_isClosed_80 : decode cX0_isClosed 80 = .ok (.goto (-43), 3) := by decide +kernel
theorem dX0_isClosed_83 : decode cX0_isClosed 83 = .ok (.iload_n 3, 1) := by decide +kernel
theorem dX0_isClosed_84 : decode cX0_isClosed 84 = .ok (.ifCond .eq 7, 3) := by decide +kernel
theorem dX0_isClosed_87 : decode cX0_isClosed 87 = .ok (.iconst 1, 1) := by decide +kernel
theorem dX0_isClosed_88 : decode cX0_isClosed 88 = .ok (.goto 4, 3) := by decide +kernel
theorem dX0_isClosed_91 : decode cX0_isClosed 91 = .ok (.iconst 0, 1) := by decide +kernel
theorem dX0_isClosed_92 : decode cX0_isClosed 92 = .ok (.ireturn, 1) := by decide +kernel
theorem dX0_isShort_0 : decode cX0_isShort 0 = .ok (.aload_n 0, 1) := by decide +kernel
theorem dX0_isShort_1 : decode cX0_isShort 1 = .ok (.getfield 18, 3) := by decide +kernel
theorem dX0_isShort_4 : decode cX0_isShort 4 = .ok (.iload_n 1, 1) := by decide +kernel
theorem dX0_isShort_5 : decode cX0_isShort 5 = .ok (.bipush 8, 2) := by decide +kernel
theorem dX0_isShort_7 : decode cX0_isShort 7 = .ok (.invokevirtual 74, 3) := by decide +kernel
theorem dX0_isShort_10 : decode cX0_isShort 10 = .ok (.istore_n 2, 1) := by decide +kernel
theorem dX0_isShort_11 : decode cX0_isShort 11 = .ok (.iload_n 2, 1) := by decide +kernel
theorem dX0_isShort_12 : decode cX0_isShort 12 = .ok (.ifCond .le 26, 3) := by decide +kernel
theorem dX0_isShort_15 : decode cX0_isShort 15 = .ok (.iload_n 2, 1) := by decide +kernel
theorem dX0_isShort_16 : decode cX0_isShort 16 = .ok (.bipush 20, 2) := by decide +kernel
theorem dX0_isShort_18 : decode cX0_isShort 18 = .ok (.if_icmp .ge 20, 3) := by decide +kernel
theorem dX0_isShort_21 : decode cX0_isShort 21 = .ok (.aload_n 0, 1) := by decide +kernel
theorem dX0_isShort_22 : decode cX0_isShort 22 = .ok (.getfield 18, 3) := by decide +kernel
theorem dX0_isShort_25 : decode cX0_isShort 25 = .ok (.iload_n 1, 1) := by decide +kernel
theorem dX0_isShort_26 : decode cX0_isShort 26 = .ok (.bipush 9, 2) := by decide +kernel
theorem dX0_isShort_28 : decode cX0_isShort 28 = .ok (.invokevirtual 74, 3) := by decide +kernel
theorem dX0_isShort_31 : decode cX0_isShort 31 = .ok (.ifCond .ne 7, 3) := by decide +kernel
theorem dX0_isShort_34 : decode cX0_isShort 34 = .ok (.iconst 1, 1) := by decide +kernel
theorem dX0_isShort_35 : decode cX0_isShort 35 = .ok (.goto 4, 3) := by decide +kernel
theorem dX0_isShort_38 : decode cX0_isShort 38 = .ok (.iconst 0, 1) := by decide +kernel
theorem dX0_isShort_39 : decode cX0_isShort 39 = .ok (.ireturn, 1) := by decide +kernel
theorem dX0_partAt_0 : decode cX0_partAt 0 = .ok (.iload_n 1, 1) := by decide +kernel
theorem dX0_partAt_1 : decode cX0_partAt 1 = .ok (.ifCond .lt 20, 3) := by decide +kernel
theorem dX0_partAt_4 : decode cX0_partAt 4 = .ok (.iload_n 1, 1) := by decide +kernel
theorem dX0_partAt_5 : decode cX0_partAt 5 = .ok (.aload_n 0, 1) := by decide +kernel
theorem dX0_partAt_6 : decode cX0_partAt 6 = .ok (.getfield 30, 3) := by decide +kernel
theorem dX0_partAt_9 : decode cX0_partAt 9 = .ok (.if_icmp .ge 12, 3) := by decide +kernel
theorem dX0_partAt_12 : decode cX0_partAt 12 = .ok (.aload_n 0, 1) := by decide +kernel
theorem dX0_partAt_13 : decode cX0_partAt 13 = .ok (.getfield 9, 3) := by decide +kernel
theorem dX0_partAt_16 : decode cX0_partAt 16 = .ok (.iload_n 1, 1) := by decide +kernel
theorem dX0_partAt_17 : decode cX0_partAt 17 = .ok (.iaload, 1) := by decide +kernel
theorem dX0_partAt_18 : decode cX0_partAt 18 = .ok (.goto 4, 3) := by decide +kernel
theorem dX0_partAt_21 : decode cX0_partAt 21 = .ok (.iconst (-1), 1) := by decide +kernel
theorem dX0_partAt_22 : decode cX0_partAt 22 = .ok (.ireturn, 1) := by decide +kernel
theorem dX0_sortAt_0 : decode cX0_sortAt 0 = .ok (.iload_n 1, 1) := by decide +kernel
theorem dX0_sortAt_1 : decode cX0_sortAt 1 = .ok (.ifCond .lt 20, 3) := by decide +kernel
theorem dX0_sortAt_4 : decode cX0_sortAt 4 = .ok (.iload_n 1, 1) := by decide +kernel
theorem dX0_sortAt_5 : decode cX0_sortAt 5 = .ok (.aload_n 0, 1) := by decide +kernel
theorem dX0_sortAt_6 : decode cX0_sortAt 6 = .ok (.getfield 30, 3) := by decide +kernel
theorem dX0_sortAt_9 : decode cX0_sortAt 9 = .ok (.if_icmp .ge 12, 3) := by decide +kernel
theorem dX0_sortAt_12 : decode cX0_sortAt 12 = .ok (.aload_n 0, 1) := by decide +kernel
theorem dX0_sortAt_13 : decode cX0_sortAt 13 = .ok (.getfield 15, 3) := by decide +kernel
theorem dX0_sortAt_16 : decode cX0_sortAt 16 = .ok (.iload_n 1, 1) := by decide +kernel
theorem dX0_sortAt_17 : decode cX0_sortAt 17 = .ok (.iaload, 1) := by decide +kernel
theorem dX0_sortAt_18 : decode cX0_sortAt 18 = .ok (.goto 4, 3) := by decide +kernel
theorem dX0_sortAt_21 : decode cX0_sortAt 21 = .ok (.iconst (-1), 1) := by decide +kernel
theorem dX0_sortAt_22 : decode cX0_sortAt 22 = .ok (.ireturn, 1) := by decide +kernel
theorem dX0_mendAt_0 : decode cX0_mendAt 0 = .ok (.iload_n 2, 1) := by decide +kernel
theorem dX0_mendAt_1 : decode cX0_mendAt 1 = .ok (.ifCond .eq 8, 3) := by decide +kernel
theorem dX0_mendAt_4 : decode cX0_mendAt 4 = .ok (.iload_n 2, 1) := by decide +kernel
theorem dX0_mendAt_5 : decode cX0_mendAt 5 = .ok (.iconst 1, 1) := by decide +kernel
theorem dX0_mendAt_6 : decode cX0_mendAt 6 = .ok (.if_icmp .ne 39, 3) := by decide +kernel
theorem dX0_mendAt_9 : decode cX0_mendAt 9 = .ok (.aload_n 0, 1) := by decide +kernel
theorem dX0_mendAt_10 : decode cX0_mendAt 10 = .ok (.getfield 18, 3) := by decide +kernel
theorem dX0_mendAt_13 : decode cX0_mendAt 13 = .ok (.iload_n 1, 1) := by decide +kernel
theorem dX0_mendAt_14 : decode cX0_mendAt 14 = .ok (.iconst 3, 1) := by decide +kernel
theorem dX0_mendAt_15 : decode cX0_mendAt 15 = .ok (.iconst (-1), 1) := by decide +kernel
theorem dX0_mendAt_16 : decode cX0_mendAt 16 = .ok (.invokevirtual 109, 3) := by decide +kernel
theorem dX0_mendAt_19 : decode cX0_mendAt 19 = .ok (.aload_n 0, 1) := by decide +kernel
theorem dX0_mendAt_20 : decode cX0_mendAt 20 = .ok (.getfield 18, 3) := by decide +kernel
theorem dX0_mendAt_23 : decode cX0_mendAt 23 = .ok (.iload_n 1, 1) := by decide +kernel
theorem dX0_mendAt_24 : decode cX0_mendAt 24 = .ok (.iconst 4, 1) := by decide +kernel
theorem dX0_mendAt_25 : decode cX0_mendAt 25 = .ok (.iconst (-1), 1) := by decide +kernel
theorem dX0_mendAt_26 : decode cX0_mendAt 26 = .ok (.invokevirtual 109, 3) := by decide +kernel
theorem dX0_mendAt_29 : decode cX0_mendAt 29 = .ok (.aload_n 0, 1) := by decide +kernel
theorem dX0_mendAt_30 : decode cX0_mendAt 30 = .ok (.getfield 18, 3) := by decide +kernel
theorem dX0_mendAt_33 : decode cX0_mendAt 33 = .ok (.iload_n 1, 1) := by decide +kernel
theorem dX0_mendAt_34 : decode cX0_mendAt 34 = .ok (.iconst 1, 1) := by decide +kernel
theorem dX0_mendAt_35 : decode cX0_mendAt 35 = .ok (.ldc 113, 2) := by decide +kernel
theorem dX0_mendAt_37 : decode cX0_mendAt 37 = .ok (.iload_n 1, 1) := by decide +kernel
theorem dX0_mendAt_38 : decode cX0_mendAt 38 = .ok (.iadd, 1) := by decide +kernel
theorem dX0_mendAt_39 : decode cX0_mendAt 39 = .ok (.invokevirtual 109, 3) := by decide +kernel
theorem dX0_mendAt_42 : decode cX0_mendAt 42 = .ok (.goto 80, 3) := by decide +kernel
theorem dX0_mendAt_45 : decode cX0_mendAt 45 = .ok (.iload_n 2, 1) := by decide +kernel
theorem dX0_mendAt_46 : decode cX0_mendAt 46 = .ok (.iconst 2, 1) := by decide +kernel
theorem dX0_mendAt_47 : decode cX0_mendAt 47 = .ok (.if_icmp .ne 59, 3) := by decide +kernel
theorem dX0_mendAt_50 : decode cX0_mendAt 50 = .ok (.aload_n 0, 1) := by decide +kernel
theorem dX0_mendAt_51 : decode cX0_mendAt 51 = .ok (.getfield 18, 3) := by decide +kernel
theorem dX0_mendAt_54 : decode cX0_mendAt 54 = .ok (.iload_n 1, 1) := by decide +kernel
theorem dX0_mendAt_55 : decode cX0_mendAt 55 = .ok (.bipush 17, 2) := by decide +kernel
theorem dX0_mendAt_57 : decode cX0_mendAt 57 = .ok (.invokevirtual 74, 3) := by decide +kernel
theorem dX0_mendAt_60 : decode cX0_mendAt 60 = .ok (.istore_n 3, 1) := by decide +kernel
theorem dX0_mendAt_61 : decode cX0_mendAt 61 = .ok (.ldc 114, 2) := by decide +kernel
theorem dX0_mendAt_63 : decode cX0_mendAt 63 = .ok (.iload_n 3, 1) := by decide +kernel
theorem dX0_mendAt_64 : decode cX0_mendAt 64 = .ok (.invokestatic 115, 3) := by decide +kernel
theorem dX0_mendAt_67 : decode cX0_mendAt 67 = .ok (.iconst 0, 1) := by decide +kernel
theorem dX0_mendAt_68 : decode cX0_mendAt 68 = .ok (.iload_n 3, 1) := by decide +kernel
theorem dX0_mendAt_69 : decode cX0_mendAt 69 = .ok (.invokestatic 115, 3) := by decide +kernel
theorem dX0_mendAt_72 : decode cX0_mendAt 72 = .ok (.if_icmp .le 7, 3) := by decide +kernel
theorem dX0_mendAt_75 : decode cX0_mendAt 75 = .ok (.iconst 1, 1) := by decide +kernel
theorem dX0_mendAt_76 : decode cX0_mendAt 76 = .ok (.goto 4, 3) := by decide +kernel
theorem dX0_mendAt_79 : decode cX0_mendAt 79 = .ok (.iconst 0, 1) := by decide +kernel
theorem dX0_mendAt_80 : decode cX0_mendAt 80 = .ok (.istore 4, 2) := by decide +kernel
theorem dX0_mendAt_82 : decode cX0_mendAt 82 = .ok (.aload_n 0, 1) := by decide +kernel
theorem dX0_mendAt_83 : decode cX0_mendAt 83 = .ok (.getfield 18, 3) := by decide +kernel
theorem dX0_mendAt_86 : decode cX0_mendAt 86 = .ok (.iload_n 1, 1) := by decide +kernel
theorem dX0_mendAt_87 : decode cX0_mendAt 87 = .ok (.bipush 16, 2) := by decide +kernel
theorem dX0_mendAt_89 : decode cX0_mendAt 89 = .ok (.iload 4, 2) := by decide +kernel
theorem dX0_mendAt_91 : decode cX0_mendAt 91 = .ok (.ifCond .eq 8, 3) := by decide +kernel
theorem dX0_mendAt_94 : decode cX0_mendAt 94 = .ok (.ldc 114, 2) := by decide +kernel
theorem dX0_mendAt_96 : decode cX0_mendAt 96 = .ok (.goto 4, 3) := by decide +kernel
theorem dX0_mendAt_99 : decode cX0_mendAt 99 = .ok (.iconst 0, 1) := by decide +kernel
theorem dX0_mendAt_100 : decode cX0_mendAt 100 = .ok (.invokevirtual 109, 3) := by decide +kernel
theorem dX0_mendAt_103 : decode cX0_mendAt 103 = .ok (.goto 19, 3) := by decide +kernel
theorem dX0_mendAt_106 : decode cX0_mendAt 106 = .ok (.iload_n 2, 1) := by decide +kernel
theorem dX0_mendAt_107 : decode cX0_mendAt 107 = .ok (.iconst 5, 1) := by decide +kernel
theorem dX0_mendAt_108 : decode cX0_mendAt 108 = .ok (.if_icmp .ne 14, 3) := by decide +kernel
theorem dX0_mendAt_111 : decode cX0_mendAt 111 = .ok (.aload_n 0, 1) := by decide +kernel
theorem dX0_mendAt_112 : decode cX0_mendAt 112 = .ok (.getfield 18, 3) := by decide +kernel
theorem dX0_mendAt_115 : decode cX0_mendAt 115 = .ok (.iload_n 1, 1) := by decide +kernel
theorem dX0_mendAt_116 : decode cX0_mendAt 116 = .ok (.bipush 9, 2) := by decide +kernel
theorem dX0_mendAt_118 : decode cX0_mendAt 118 = .ok (.iconst 1, 1) := by decide +kernel
theorem dX0_mendAt_119 : decode cX0_mendAt 119 = .ok (.invokevirtual 109, 3) := by decide +kernel
theorem dX0_mendAt_122 : decode cX0_mendAt 122 = .ok (.return_, 1) := by decide +kernel
theorem dX1_init_0 : decode cX1_init 0 = .ok (.aload_n 0, 1) := by decide +kernel
theorem dX1_init_1 : decode cX1_init 1 = .ok (.invokespecial 3, 3) := by decide +kernel
theorem dX1_init_4 : decode cX1_init 4 = .ok (.aload_n 0, 1) := by decide +kernel
theorem dX1_init_5 : decode cX1_init 5 = .ok (.sipush 192, 3) := by decide +kernel
theorem dX1_init_8 : decode cX1_init 8 = .ok (.newarray .int, 2) := by decide +kernel
theorem dX1_init_10 : decode cX1_init 10 = .ok (.putfield 9, 3) := by decide +kernel
theorem dX1_init_13 : decode cX1_init 13 = .ok (.aload_n 0, 1) := by decide +kernel
theorem dX1_init_14 : decode cX1_init 14 = .ok (.bipush 24, 2) := by decide +kernel
theorem dX1_init_16 : decode cX1_init 16 = .ok (.newarray .int, 2) := by decide +kernel
theorem dX1_init_18 : decode cX1_init 18 = .ok (.putfield 15, 3) := by decide +kernel
theorem dX1_init_21 : decode cX1_init 21 = .ok (.aload_n 0, 1) := by decide +kernel
theorem dX1_init_22 : decode cX1_init 22 = .ok (.aload_n 1, 1) := by decide +kernel
theorem dX1_init_23 : decode cX1_init 23 = .ok (.putfield 18, 3) := by decide +kernel
theorem dX1_init_26 : decode cX1_init 26 = .ok (.return_, 1) := by decide +kernel
theorem dX1_compose_0 : decode cX1_compose 0 = .ok (.aload_n 0, 1) := by decide +kernel
theorem dX1_compose_1 : decode cX1_compose 1 = .ok (.getfield 15, 3) := by decide +kernel
theorem dX1_compose_4 : decode cX1_compose 4 = .ok (.iload_n 1, 1) := by decide +kernel
theorem dX1_compose_5 : decode cX1_compose 5 = .ok (.iconst 0, 1) := by decide +kernel
theorem dX1_compose_6 : decode cX1_compose 6 = .ok (.iastore, 1) := by decide +kernel
theorem dX1_compose_7 : decode cX1_compose 7 = .ok (.aload_n 0, 1) := by decide +kernel
theorem dX1_compose_8 : decode cX1_compose 8 = .ok (.iload_n 1, 1) := by decide +kernel
theorem dX1_compose_9 : decode cX1_compose 9 = .ok (.aload_n 0, 1) := by decide +kernel
theorem dX1_compose_10 : decode cX1_compose 10 = .ok (.getfield 18, 3) := by decide +kernel
theorem dX1_compose_13 : decode cX1_compose 13 = .ok (.iload_n 1, 1) := by decide +kernel
theorem dX1_compose_14 : decode cX1_compose 14 = .ok (.iconst 3, 1) := by decide +kernel
theorem dX1_compose_15 : decode cX1_compose 15 = .ok (.invokevirtual 22, 3) := by decide +kernel
theorem dX1_compose_18 : decode cX1_compose 18 = .ok (.invokevirtual 28, 3) := by decide +kernel
theorem dX1_compose_21 : decode cX1_compose 21 = .ok (.aload_n 0, 1) := by decide +kernel
theorem dX1_compose_22 : decode cX1_compose 22 = .ok (.iload_n 1, 1) := by decide +kernel
theorem dX1_compose_23 : decode cX1_compose 23 = .ok (.aload_n 0, 1) := by decide +kernel
theorem dX1_compose_24 : decode cX1_compose 24 = .ok (.getfield 18, 3) := by decide +kernel
theorem dX1_compose_27 : decode cX1_compose 27 = .ok (.iload_n 1, 1) := by decide +kernel
theorem dX1_compose_28 : decode cX1_compose 28 = .ok (.iconst 4, 1) := by decide +kernel
theorem dX1_compose_29 : decode cX1_compose 29 = .ok (.invokevirtual 22, 3) := by decide +kernel
theorem dX1_compose_32 : decode cX1_compose 32 = .ok (.invokevirtual 28, 3) := by decide +kernel
theorem dX1_compose_35 : decode cX1_compose 35 = .ok (.aload_n 0, 1) := by decide +kernel
theorem dX1_compose_36 : decode cX1_compose 36 = .ok (.getfield 15, 3) := by decide +kernel
theorem dX1_compose_39 : decode cX1_compose 39 = .ok (.iload_n 1, 1) := by decide +kernel
theorem dX1_compose_40 : decode cX1_compose 40 = .ok (.iaload, 1) := by decide +kernel
theorem dX1_compose_41 : decode cX1_compose 41 = .ok (.ifCond .ne 17, 3) := by decide +kernel
theorem dX1_compose_44 : decode cX1_compose 44 = .ok (.aload_n 0, 1) := by decide +kernel
theorem dX1_compose_45 : decode cX1_compose 45 = .ok (.iload_n 1, 1) := by decide +kernel
theorem dX1_compose_46 : decode cX1_compose 46 = .ok (.aload_n 0, 1) := by decide +kernel
theorem dX1_compose_47 : decode cX1_compose 47 = .ok (.getfield 18, 3) := by decide +kernel
theorem dX1_compose_50 : decode cX1_compose 50 = .ok (.iload_n 1, 1) := by decide +kernel
theorem dX1_compose_51 : decode cX1_compose 51 = .ok (.iconst 1, 1) := by decide +kernel
theorem dX1_compose_52 : decode cX1_compose 52 = .ok (.invokevirtual 22, 3) := by decide +kernel
theorem dX1_compose_55 : decode cX1_compose 55 = .ok (.invokevirtual 32, 3) := by decide +kernel
theorem dX1_compose_58 : decode cX1_compose 58 = .ok (.aload_n 0, 1) := by decide +kernel
theorem dX1_compose_59 : decode cX1_compose 59 = .ok (.getfield 15, 3) := by decide +kernel
theorem dX1_compose_62 : decode cX1_compose 62 = .ok (.iload_n 1, 1) := by decide +kernel
theorem dX1_compose_63 : decode cX1_compose 63 = .ok (.iaload, 1) := by decide +kernel
theorem dX1_compose_64 : decode cX1_compose 64 = .ok (.ifCond .ne 17, 3) := by decide +kernel
theorem dX1_compose_67 : decode cX1_compose 67 = .ok (.aload_n 0, 1) := by decide +kernel
theorem dX1_compose_68 : decode cX1_compose 68 = .ok (.iload_n 1, 1) := by decide +kernel
theorem dX1_compose_69 : decode cX1_compose 69 = .ok (.aload_n 0, 1) := by decide +kernel
theorem dX1_compose_70 : decode cX1_compose 70 = .ok (.getfield 18, 3) := by decide +kernel
theorem dX1_compose_73 : decode cX1_compose 73 = .ok (.iload_n 1, 1) := by decide +kernel
theorem dX1_compose_74 : decode cX1_compose 74 = .ok (.iconst 0, 1) := by decide +kernel
theorem dX1_compose_75 : decode cX1_compose 75 = .ok (.invokevirtual 22, 3) := by decide +kernel
theorem dX1_compose_78 : decode cX1_compose 78 = .ok (.invokevirtual 32, 3) := by decide +kernel
theorem dX1_compose_81 : decode cX1_compose 81 = .ok (.aload_n 0, 1) := by decide +kernel
theorem dX1_compose_82 : decode cX1_compose 82 = .ok (.getfield 15, 3) := by decide +kernel
theorem dX1_compose_85 : decode cX1_compose 85 = .ok (.iload_n 1, 1) := by decide +kernel
theorem dX1_compose_86 : decode cX1_compose 86 = .ok (.iaload, 1) := by decide +kernel
theorem dX1_compose_87 : decode cX1_compose 87 = .ok (.ifCond .ne 23, 3) := by decide +kernel
theorem dX1_compose_90 : decode cX1_compose 90 = .ok (.aload_n 0, 1) := by decide +kernel
theorem dX1_compose_91 : decode cX1_compose 91 = .ok (.getfield 18, 3) := by decide +kernel
theorem dX1_compose_94 : decode cX1_compose 94 = .ok (.iload_n 1, 1) := by decide +kernel
theorem dX1_compose_95 : decode cX1_compose 95 = .ok (.bipush 10, 2) := by decide +kernel
theorem dX1_compose_97 : decode cX1_compose 97 = .ok (.invokevirtual 22, 3) := by decide +kernel
theorem dX1_compose_100 : decode cX1_compose 100 = .ok (.iconst 2, 1) := by decide +kernel
theorem dX1_compose_101 : decode cX1_compose 101 = .ok (.if_icmp .ne 9, 3) := by decide +kernel
theorem dX1_compose_104 : decode cX1_compose 104 = .ok (.aload_n 0, 1) := by decide +kernel
theorem dX1_compose_105 : decode cX1_compose 105 = .ok (.iload_n 1, 1) := by decide +kernel
theorem dX1_compose_106 : decode cX1_compose 106 = .ok (.iload_n 2, 1) := by decide +kernel
theorem dX1_compose_107 : decode cX1_compose 107 = .ok (.invokevirtual 35, 3) := by decide +kernel
theorem dX1_compose_110 : decode cX1_compose 110 = .ok (.aload_n 0, 1) := by decide +kernel
theorem dX1_compose_111 : decode cX1_compose 111 = .ok (.getfield 15, 3) := by decide +kernel
theorem dX1_compose_114 : decode cX1_compose 114 = .ok (.iload_n 1, 1) := by decide +kernel
theorem dX1_compose_115 : decode cX1_compose 115 = .ok (.iaload, 1) := by decide +kernel
theorem dX1_compose_116 : decode cX1_compose 116 = .ok (.ifCond .ne 17, 3) := by decide +kernel
theorem dX1_compose_119 : decode cX1_compose 119 = .ok (.aload_n 0, 1) := by decide +kernel
theorem dX1_compose_120 : decode cX1_compose 120 = .ok (.iload_n 1, 1) := by decide +kernel
theorem dX1_compose_121 : decode cX1_compose 121 = .ok (.aload_n 0, 1) := by decide +kernel
theorem dX1_compose_122 : decode cX1_compose 122 = .ok (.getfield 18, 3) := by decide +kernel
theorem dX1_compose_125 : decode cX1_compose 125 = .ok (.iload_n 1, 1) := by decide +kernel
theorem dX1_compose_126 : decode cX1_compose 126 = .ok (.iconst 2, 1) := by decide +kernel
theorem dX1_compose_127 : decode cX1_compose 127 = .ok (.invokevirtual 22, 3) := by decide +kernel
theorem dX1_compose_130 : decode cX1_compose 130 = .ok (.invokevirtual 32, 3) := by decide +kernel
theorem dX1_compose_133 : decode cX1_compose 133 = .ok (.return_, 1) := by decide +kernel
theorem dX1_addTextsIn_0 : decode cX1_addTextsIn 0 = .ok (.aload_n 0, 1) := by decide +kernel
theorem dX1_addTextsIn_1 : decode cX1_addTextsIn 1 = .ok (.getfield 18, 3) := by decide +kernel
theorem dX1_addTextsIn_4 : decode cX1_addTextsIn 4 = .ok (.getfield 38, 3) := by decide +kernel
theorem dX1_addTextsIn_7 : decode cX1_addTextsIn 7 = .ok (.iload_n 1, 1) := by decide +kernel
theorem dX1_addTextsIn_8 : decode cX1_addTextsIn 8 = .ok (.iaload, 1) := by decide +kernel
theorem dX1_addTextsIn_9 : decode cX1_addTextsIn 9 = .ok (.aload_n 0, 1) := by decide +kernel
theorem dX1_addTextsIn_10 : decode cX1_addTextsIn 10 = .ok (.getfield 18, 3) := by decide +kernel
theorem dX1_addTextsIn_13 : decode cX1_addTextsIn 13 = .ok (.getfield 41, 3) := by decide +kernel
theorem dX1_addTextsIn_16 : decode cX1_addTextsIn 16 = .ok (.iconst 1, 1) := by decide +kernel
theorem dX1_addTextsIn_17 : decode cX1_addTextsIn 17 = .ok (.iaload, 1) := by decide +kernel
theorem dX1_addTextsIn_18 : decode cX1_addTextsIn 18 = .ok (.iand, 1) := by decide +kernel
theorem dX1_addTextsIn_19 : decode cX1_addTextsIn 19 = .ok (.iload_n 2, 1) := by decide +kernel
theorem dX1_addTextsIn_20 : decode cX1_addTextsIn 20 = .ok (.iand, 1) := by decide +kernel
theorem dX1_addTextsIn_21 : decode cX1_addTextsIn 21 = .ok (.istore_n 3, 1) := by decide +kernel
theorem dX1_addTextsIn_22 : decode cX1_addTextsIn 22 = .ok (.iconst 0, 1) := by decide +kernel
theorem dX1_addTextsIn_23 : decode cX1_addTextsIn 23 = .ok (.istore 4, 2) := by decide +kernel
theorem dX1_addTextsIn_25 : decode cX1_addTextsIn 25 = .ok (.iload 4, 2) := by decide +kernel
theorem dX1_addTextsIn_27 : decode cX1_addTextsIn 27 = .ok (.aload_n 0, 1) := by decide +kernel
theorem dX1_addTextsIn_28 : decode cX1_addTextsIn 28 = .ok (.getfield 18, 3) := by decide +kernel
theorem dX1_addTextsIn_31 : decode cX1_addTextsIn 31 = .ok (.getfield 44, 3) := by decide +kernel
theorem dX1_addTextsIn_34 : decode cX1_addTextsIn 34 = .ok (.if_icmp .ge 41, 3) := by decide +kernel
theorem dX1_addTextsIn_37 : decode cX1_addTextsIn 37 = .ok (.iload_n 3, 1) := by decide +kernel
theorem dX1_addTextsIn_38 : decode cX1_addTextsIn 38 = .ok (.aload_n 0, 1) := by decide +kernel
theorem dX1_addTextsIn_39 : decode cX1_addTextsIn 39 = .ok (.getfield 18, 3) := by decide +kernel
theorem dX1_addTextsIn_42 : decode cX1_addTextsIn 42 = .ok (.getfield 48, 3) := by decide +kernel
theorem dX1_addTextsIn_45 : decode cX1_addTextsIn 45 = .ok (.iload 4, 2) := by decide +kernel
theorem dX1_addTextsIn_47 : decode cX1_addTextsIn 47 = .ok (.iaload, 1) := by decide +kernel
theorem dX1_addTextsIn_48 : decode cX1_addTextsIn 48 = .ok (.invokestatic 51, 3) := by decide +kernel
theorem dX1_addTextsIn_51 : decode cX1_addTextsIn 51 = .ok (.ifCond .eq 18, 3) := by decide +kernel
theorem dX1_addTextsIn_54 : decode cX1_addTextsIn 54 = .ok (.aload_n 0, 1) := by decide +kernel
theorem dX1_addTextsIn_55 : decode cX1_addTextsIn 55 = .ok (.iload_n 1, 1) := by decide +kernel
theorem dX1_addTextsIn_56 : decode cX1_addTextsIn 56 = .ok (.aload_n 0, 1) := by decide +kernel
theorem dX1_addTextsIn_57 : decode cX1_addTextsIn 57 = .ok (.getfield 18, 3) := by decide +kernel
theorem dX1_addTextsIn_60 : decode cX1_addTextsIn 60 = .ok (.getfield 48, 3) := by decide +kernel
theorem dX1_addTextsIn_63 : decode cX1_addTextsIn 63 = .ok (.iload 4, 2) := by decide +kernel
theorem dX1_addTextsIn_65 : decode cX1_addTextsIn 65 = .ok (.iaload, 1) := by decide +kernel
theorem dX1_addTextsIn_66 : decode cX1_addTextsIn 66 = .ok (.invokevirtual 28, 3) := by decide +kernel
theorem dX1_addTextsIn_69 : decode cX1_addTextsIn 69 = .ok (.iinc 4 1, 3) := by decide +kernel
theorem dX1_addTextsIn_72 : decode cX1_addTextsIn 72 = .ok (.goto (-47), 3) := by decide +kernel
theorem dX1_addTextsIn_75 : decode cX1_addTextsIn 75 = .ok (.return_, 1) := by decide +kernel
theorem dX1_addOwnOf_0 : decode cX1_addOwnOf 0 = .ok (.aload_n 0, 1) := by decide +kernel
theorem dX1_addOwnOf_1 : decode cX1_addOwnOf 1 = .ok (.getfield 18, 3) := by decide +kernel
theorem dX1_addOwnOf_4 : decode cX1_addOwnOf 4 = .ok (.iload_n 2, 1) := by decide +kernel
theorem dX1_addOwnOf_5 : decode cX1_addOwnOf 5 = .ok (.invokevirtual 55, 3) := by decide +kernel
theorem dX1_addOwnOf_8 : decode cX1_addOwnOf 8 = .ok (.ifCond .eq 17, 3) := by decide +kernel
theorem dX1_addOwnOf_11 : decode cX1_addOwnOf 11 = .ok (.aload_n 0, 1) := by decide +kernel
theorem dX1_addOwnOf_12 : decode cX1_addOwnOf 12 = .ok (.iload_n 1, 1) := by decide +kernel
theorem dX1_addOwnOf_13 : decode cX1_addOwnOf 13 = .ok (.aload_n 0, 1) := by decide +kernel
theorem dX1_addOwnOf_14 : decode cX1_addOwnOf 14 = .ok (.getfield 18, 3) := by decide +kernel
theorem dX1_addOwnOf_17 : decode cX1_addOwnOf 17 = .ok (.iload_n 2, 1) := by decide +kernel
theorem dX1_addOwnOf_18 : decode cX1_addOwnOf 18 = .ok (.iconst 0, 1) := by decide +kernel
theorem dX1_addOwnOf_19 : decode cX1_addOwnOf 19 = .ok (.invokevirtual 22, 3) := by decide +kernel
theorem dX1_addOwnOf_22 : decode cX1_addOwnOf 22 = .ok (.invokevirtual 32, 3) := by decide +kernel
theorem dX1_addOwnOf_25 : decode cX1_addOwnOf 25 = .ok (.return_, 1) := by decide +kernel
theorem dX1_add_0 : decode cX1_add 0 = .ok (.iload_n 2, 1) := by decide +kernel
theorem dX1_add_1 : decode cX1_add 1 = .ok (.ifCond .eq 41, 3) := by decide +kernel
theorem dX1_add_4 : decode cX1_add 4 = .ok (.aload_n 0, 1) := by decide +kernel
theorem dX1_add_5 : decode cX1_add 5 = .ok (.getfield 15, 3) := by decide +kernel
theorem dX1_add_8 : decode cX1_add 8 = .ok (.iload_n 1, 1) := by decide +kernel
theorem dX1_add_9 : decode cX1_add 9 = .ok (.iaload, 1) := by decide +kernel
theorem dX1_add_10 : decode cX1_add 10 = .ok (.bipush 8, 2) := by decide +kernel
theorem dX1_add_12 : decode cX1_add 12 = .ok (.if_icmp .ge 30, 3) := by decide +kernel
theorem dX1_add_15 : decode cX1_add 15 = .ok (.aload_n 0, 1) := by decide +kernel
theorem dX1_add_16 : decode cX1_add 16 = .ok (.getfield 9, 3) := by decide +kernel
theorem dX1_add_19 : decode cX1_add 19 = .ok (.iload_n 1, 1) := by decide +kernel
theorem dX1_add_20 : decode cX1_add 20 = .ok (.bipush 8, 2) := by decide +kernel
theorem dX1_add_22 : decode cX1_add 22 = .ok (.imul, 1) := by decide +kernel
theorem dX1_add_23 : decode cX1_add 23 = .ok (.aload_n 0, 1) := by decide +kernel
theorem dX1_add_24 : decode cX1_add 24 = .ok (.getfield 15, 3) := by decide +kernel
theorem dX1_add_27 : decode cX1_add 27 = .ok (.iload_n 1, 1) := by decide +kernel
theorem dX1_add_28 : decode cX1_add 28 = .ok (.iaload, 1) := by decide +kernel
theorem dX1_add_29 : decode cX1_add 29 = .ok (.iadd, 1) := by decide +kernel
theorem dX1_add_30 : decode cX1_add 30 = .ok (.iload_n 2, 1) := by decide +kernel
theorem dX1_add_31 : decode cX1_add 31 = .ok (.iastore, 1) := by decide +kernel
theorem dX1_add_32 : decode cX1_add 32 = .ok (.aload_n 0, 1) := by decide +kernel
theorem dX1_add_33 : decode cX1_add 33 = .ok (.getfield 15, 3) := by decide +kernel
theorem dX1_add_36 : decode cX1_add 36 = .ok (.iload_n 1, 1) := by decide +kernel
theorem dX1_add_37 : decode cX1_add 37 = .ok (.dup2, 1) := by decide +kernel
theorem dX1_add_38 : decode cX1_add 38 = .ok (.iaload, 1) := by decide +kernel
theorem dX1_add_39 : decode cX1_add 39 = .ok (.iconst 1, 1) := by decide +kernel
theorem dX1_add_40 : decode cX1_add 40 = .ok (.iadd, 1) := by decide +kernel
theorem dX1_add_41 : decode cX1_add 41 = .ok (.iastore, 1) := by decide +kernel
theorem dX1_add_42 : decode cX1_add 42 = .ok (.return_, 1) := by decide +kernel
theorem dX1_lengthOf_0 : decode cX1_lengthOf 0 = .ok (.aload_n 0, 1) := by decide +kernel
theorem dX1_lengthOf_1 : decode cX1_lengthOf 1 = .ok (.getfield 15, 3) := by decide +kernel
theorem dX1_lengthOf_4 : decode cX1_lengthOf 4 = .ok (.iload_n 1, 1) := by decide +kernel
theorem dX1_lengthOf_5 : decode cX1_lengthOf 5 = .ok (.iaload, 1) := by decide +kernel
theorem dX1_lengthOf_6 : decode cX1_lengthOf 6 = .ok (.ireturn, 1) := by decide +kernel
theorem dX1_wordOf_0 : decode cX1_wordOf 0 = .ok (.iload_n 2, 1) := by decide +kernel
theorem dX1_wordOf_1 : decode cX1_wordOf 1 = .ok (.ifCond .lt 27, 3) := by decide +kernel
theorem dX1_wordOf_4 : decode cX1_wordOf 4 = .ok (.iload_n 2, 1) := by decide +kernel
theorem dX1_wordOf_5 : decode cX1_wordOf 5 = .ok (.aload_n 0, 1) := by decide +kernel
theorem dX1_wordOf_6 : decode cX1_wordOf 6 = .ok (.getfield 15, 3) := by decide +kernel
theorem dX1_wordOf_9 : decode cX1_wordOf 9 = .ok (.iload_n 1, 1) := by decide +kernel
theorem dX1_wordOf_10 : decode cX1_wordOf 10 = .ok (.iaload, 1) := by decide +kernel
theorem dX1_wordOf_11 : decode cX1_wordOf 11 = .ok (.if_icmp .ge 17, 3) := by decide +kernel
theorem dX1_wordOf_14 : decode cX1_wordOf 14 = .ok (.aload_n 0, 1) := by decide +kernel
theorem dX1_wordOf_15 : decode cX1_wordOf 15 = .ok (.getfield 9, 3) := by decide +kernel
theorem dX1_wordOf_18 : decode cX1_wordOf 18 = .ok (.iload_n 1, 1) := by decide +kernel
theorem dX1_wordOf_19 : decode cX1_wordOf 19 = .ok (.bipush 8, 2) := by decide +kernel
theorem dX1_wordOf_21 : decode cX1_wordOf 21 = .ok (.imul, 1) := by decide +kernel
theorem dX1_wordOf_22 : decode cX1_wordOf 22 = .ok (.iload_n 2, 1) := by decide +kernel
theorem dX1_wordOf_23 : decode cX1_wordOf 23 = .ok (.iadd, 1) := by decide +kernel
theorem dX1_wordOf_24 : decode cX1_wordOf 24 = .ok (.iaload, 1) := by decide +kernel
theorem dX1_wordOf_25 : decode cX1_wordOf 25 = .ok (.goto 4, 3) := by decide +kernel
theorem dX1_wordOf_28 : decode cX1_wordOf 28 = .ok (.iconst 0, 1) := by decide +kernel
theorem dX1_wordOf_29 : decode cX1_wordOf 29 = .ok (.ireturn, 1) := by decide +kernel
theorem dX1_areAlike_0 : decode cX1_areAlike 0 = .ok (.aload_n 0, 1) := by decide +kernel
theorem dX1_areAlike_1 : decode cX1_areAlike 1 = .ok (.getfield 15, 3) := by decide +kernel
theorem dX1_areAlike_4 : decode cX1_areAlike 4 = .ok (.iload_n 1, 1) := by decide +kernel
theorem dX1_areAlike_5 : decode cX1_areAlike 5 = .ok (.iaload, 1) := by decide +kernel
theorem dX1_areAlike_6 : decode cX1_areAlike 6 = .ok (.aload_n 0, 1) := by decide +kernel
theorem dX1_areAlike_7 : decode cX1_areAlike 7 = .ok (.getfield 15, 3) := by decide +kernel
theorem dX1_areAlike_10 : decode cX1_areAlike 10 = .ok (.iload_n 2, 1) := by decide +kernel
theorem dX1_areAlike_11 : decode cX1_areAlike 11 = .ok (.iaload, 1) := by decide +kernel
theorem dX1_areAlike_12 : decode cX1_areAlike 12 = .ok (.if_icmp .eq 5, 3) := by decide +kernel
theorem dX1_areAlike_15 : decode cX1_areAlike 15 = .ok (.iconst 0, 1) := by decide +kernel
theorem dX1_areAlike_16 : decode cX1_areAlike 16 = .ok (.ireturn, 1) := by decide +kernel
theorem dX1_areAlike_17 : decode cX1_areAlike 17 = .ok (.iconst 0, 1) := by decide +kernel
theorem dX1_areAlike_18 : decode cX1_areAlike 18 = .ok (.istore_n 3, 1) := by decide +kernel
theorem dX1_areAlike_19 : decode cX1_areAlike 19 = .ok (.iload_n 3, 1) := by decide +kernel
theorem dX1_areAlike_20 : decode cX1_areAlike 20 = .ok (.aload_n 0, 1) := by decide +kernel
theorem dX1_areAlike_21 : decode cX1_areAlike 21 = .ok (.getfield 15, 3) := by decide +kernel
theorem dX1_areAlike_24 : decode cX1_areAlike 24 = .ok (.iload_n 1, 1) := by decide +kernel
theorem dX1_areAlike_25 : decode cX1_areAlike 25 = .ok (.iaload, 1) := by decide +kernel
theorem dX1_areAlike_26 : decode cX1_areAlike 26 = .ok (.if_icmp .ge 26, 3) := by decide +kernel
theorem dX1_areAlike_29 : decode cX1_areAlike 29 = .ok (.aload_n 0, 1) := by decide +kernel
theorem dX1_areAlike_30 : decode cX1_areAlike 30 = .ok (.iload_n 1, 1) := by decide +kernel
theorem dX1_areAlike_31 : decode cX1_areAlike 31 = .ok (.iload_n 3, 1) := by decide +kernel
theorem dX1_areAlike_32 : decode cX1_areAlike 32 = .ok (.invokevirtual 59, 3) := by decide +kernel
theorem dX1_areAlike_35 : decode cX1_areAlike 35 = .ok (.aload_n 0, 1) := by decide +kernel
theorem dX1_areAlike_36 : decode cX1_areAlike 36 = .ok (.iload_n 2, 1) := by decide +kernel
theorem dX1_areAlike_37 : decode cX1_areAlike 37 = .ok (.iload_n 3, 1) := by decide +kernel
theorem dX1_areAlike_38 : decode cX1_areAlike 38 = .ok (.invokevirtual 59, 3) := by decide +kernel
theorem dX1_areAlike_41 : decode cX1_areAlike 41 = .ok (.if_icmp .eq 5, 3) := by decide +kernel
theorem dX1_areAlike_44 : decode cX1_areAlike 44 = .ok (.iconst 0, 1) := by decide +kernel
theorem dX1_areAlike_45 : decode cX1_areAlike 45 = .ok (.ireturn, 1) := by decide +kernel
theorem dX1_areAlike_46 : decode cX1_areAlike 46 = .ok (.iinc 3 1, 3) := by decide +kernel
theorem dX1_areAlike_49 : decode cX1_areAlike 49 = .ok (.goto (-30), 3) := by decide +kernel
theorem dX1_areAlike_52 : decode cX1_areAlike 52 = .ok (.iconst 1, 1) := by decide +kernel
theorem dX1_areAlike_53 : decode cX1_areAlike 53 = .ok (.ireturn, 1) := by decide +kernel
theorem dX2_init_0 : decode cX2_init 0 = .ok (.aload_n 0, 1) := by decide +kernel
theorem dX2_init_1 : decode cX2_init 1 = .ok (.invokespecial 3, 3) := by decide +kernel
theorem dX2_init_4 : decode cX2_init 4 = .ok (.aload_n 0, 1) := by decide +kernel
theorem dX2_init_5 : decode cX2_init 5 = .ok (.sipush 432, 3) := by decide +kernel
theorem dX2_init_8 : decode cX2_init 8 = .ok (.newarray .int, 2) := by decide +kernel
theorem dX2_init_10 : decode cX2_init 10 = .ok (.putfield 9, 3) := by decide +kernel
theorem dX2_init_13 : decode cX2_init 13 = .ok (.aload_n 0, 1) := by decide +kernel
theorem dX2_init_14 : decode cX2_init 14 = .ok (.bipush 24, 2) := by decide +kernel
theorem dX2_init_16 : decode cX2_init 16 = .ok (.newarray .int, 2) := by decide +kernel
theorem dX2_init_18 : decode cX2_init 18 = .ok (.putfield 15, 3) := by decide +kernel
theorem dX2_init_21 : decode cX2_init 21 = .ok (.aload_n 0, 1) := by decide +kernel
theorem dX2_init_22 : decode cX2_init 22 = .ok (.bipush 24, 2) := by decide +kernel
theorem dX2_init_24 : decode cX2_init 24 = .ok (.newarray .int, 2) := by decide +kernel
theorem dX2_init_26 : decode cX2_init 26 = .ok (.putfield 18, 3) := by decide +kernel
theorem dX2_init_29 : decode cX2_init 29 = .ok (.aload_n 0, 1) := by decide +kernel
theorem dX2_init_30 : decode cX2_init 30 = .ok (.bipush 7, 2) := by decide +kernel
theorem dX2_init_32 : decode cX2_init 32 = .ok (.newarray .int, 2) := by decide +kernel
theorem dX2_init_34 : decode cX2_init 34 = .ok (.putfield 21, 3) := by decide +kernel
theorem dX2_init_37 : decode cX2_init 37 = .ok (.aload_n 0, 1) := by decide +kernel
theorem dX2_init_38 : decode cX2_init 38 = .ok (.bipush 24, 2) := by decide +kernel
theorem dX2_init_40 : decode cX2_init 40 = .ok (.newarray .int, 2) := by decide +kernel
theorem dX2_init_42 : decode cX2_init 42 = .ok (.putfield 24, 3) := by decide +kernel
theorem dX2_init_45 : decode cX2_init 45 = .ok (.aload_n 0, 1) := by decide +kernel
theorem dX2_init_46 : decode cX2_init 46 = .ok (.iconst 0, 1) := by decide +kernel
theorem dX2_init_47 : decode cX2_init 47 = .ok (.putfield 27, 3) := by decide +kernel
theorem dX2_init_50 : decode cX2_init 50 = .ok (.aload_n 0, 1) := by decide +kernel
theorem dX2_init_51 : decode cX2_init 51 = .ok (.iconst (-1), 1) := by decide +kernel
theorem dX2_init_52 : decode cX2_init 52 = .ok (.iconst 0, 1) := by decide +kernel
theorem dX2_init_53 : decode cX2_init 53 = .ok (.invokevirtual 31, 3) := by decide +kernel
theorem dX2_init_56 : decode cX2_init 56 = .ok (.pop, 1) := by decide +kernel
theorem dX2_init_57 : decode cX2_init 57 = .ok (.return_, 1) := by decide +kernel
theorem dX2_has_0 : decode cX2_has 0 = .ok (.iload_n 1, 1) := by decide +kernel
theorem dX2_has_1 : decode cX2_has 1 = .ok (.ifCond .lt 15, 3) := by decide +kernel
theorem dX2_has_4 : decode cX2_has 4 = .ok (.iload_n 1, 1) := by decide +kernel
theorem dX2_has_5 : decode cX2_has 5 = .ok (.aload_n 0, 1) := by decide +kernel
theorem dX2_has_6 : decode cX2_has 6 = .ok (.getfield 27, 3) := by decide +kernel
theorem dX2_has_9 : decode cX2_has 9 = .ok (.if_icmp .ge 7, 3) := by decide +kernel
theorem dX2_has_12 : decode cX2_has 12 = .ok (.iconst 1, 1) := by decide +kernel
theorem dX2_has_13 : decode cX2_has 13 = .ok (.goto 4, 3) := by decide +kernel
theorem dX2_has_16 : decode cX2_has 16 = .ok (.iconst 0, 1) := by decide +kernel
theorem dX2_has_17 : decode cX2_has 17 = .ok (.ireturn, 1) := by decide +kernel
theorem dX2_isFull_0 : decode cX2_isFull 0 = .ok (.aload_n 0, 1) := by decide +kernel
theorem dX2_isFull_1 : decode cX2_isFull 1 = .ok (.getfield 27, 3) := by decide +kernel
theorem dX2_isFull_4 : decode cX2_isFull 4 = .ok (.bipush 24, 2) := by decide +kernel
theorem dX2_isFull_6 : decode cX2_isFull 6 = .ok (.if_icmp .lt 7, 3) := by decide +kernel
theorem dX2_isFull_9 : decode cX2_isFull 9 = .ok (.iconst 1, 1) := by decide +kernel
theorem dX2_isFull_10 : decode cX2_isFull 10 = .ok (.goto 4, 3) := by decide +kernel
theorem dX2_isFull_13 : decode cX2_isFull 13 = .ok (.iconst 0, 1) := by decide +kernel
theorem dX2_isFull_14 : decode cX2_isFull 14 = .ok (.ireturn, 1) := by decide +kernel
theorem dX2_get_0 : decode cX2_get 0 = .ok (.aload_n 0, 1) := by decide +kernel
theorem dX2_get_1 : decode cX2_get 1 = .ok (.getfield 9, 3) := by decide +kernel
theorem dX2_get_4 : decode cX2_get 4 = .ok (.iload_n 1, 1) := by decide +kernel
theorem dX2_get_5 : decode cX2_get 5 = .ok (.bipush 18, 2) := by decide +kernel
theorem dX2_get_7 : decode cX2_get 7 = .ok (.imul, 1) := by decide +kernel
theorem dX2_get_8 : decode cX2_get 8 = .ok (.iload_n 2, 1) := by decide +kernel
theorem dX2_get_9 : decode cX2_get 9 = .ok (.iadd, 1) := by decide +kernel
theorem dX2_get_10 : decode cX2_get 10 = .ok (.iaload, 1) := by decide +kernel
theorem dX2_get_11 : decode cX2_get 11 = .ok (.ireturn, 1) := by decide +kernel
theorem dX2_put_0 : decode cX2_put 0 = .ok (.aload_n 0, 1) := by decide +kernel
theorem dX2_put_1 : decode cX2_put 1 = .ok (.getfield 9, 3) := by decide +kernel
theorem dX2_put_4 : decode cX2_put 4 = .ok (.iload_n 1, 1) := by decide +kernel
theorem dX2_put_5 : decode cX2_put 5 = .ok (.bipush 18, 2) := by decide +kernel
theorem dX2_put_7 : decode cX2_put 7 = .ok (.imul, 1) := by decide +kernel
theorem dX2_put_8 : decode cX2_put 8 = .ok (.iload_n 2, 1) := by decide +kernel
theorem dX2_put_9 : decode cX2_put 9 = .ok (.iadd, 1) := by decide +kernel
theorem dX2_put_10 : decode cX2_put 10 = .ok (.iload_n 3, 1) := by decide +kernel
theorem dX2_put_11 : decode cX2_put 11 = .ok (.iastore, 1) := by decide +kernel
theorem dX2_put_12 : decode cX2_put 12 = .ok (.return_, 1) := by decide +kernel
theorem dX2_add_0 : decode cX2_add 0 = .ok (.aload_n 0, 1) := by decide +kernel
theorem dX2_add_1 : decode cX2_add 1 = .ok (.getfield 27, 3) := by decide +kernel
theorem dX2_add_4 : decode cX2_add 4 = .ok (.istore_n 3, 1) := by decide +kernel
theorem dX2_add_5 : decode cX2_add 5 = .ok (.aload_n 0, 1) := by decide +kernel
theorem dX2_add_6 : decode cX2_add 6 = .ok (.iload_n 3, 1) := by decide +kernel
theorem dX2_add_7 : decode cX2_add 7 = .ok (.iload_n 1, 1) := by decide +kernel
theorem dX2_add_8 : decode cX2_add 8 = .ok (.invokevirtual 35, 3) := by decide +kernel
theorem dX2_add_11 : decode cX2_add 11 = .ok (.aload_n 0, 1) := by decide +kernel
theorem dX2_add_12 : decode cX2_add 12 = .ok (.getfield 15, 3) := by decide +kernel
theorem dX2_add_15 : decode cX2_add 15 = .ok (.iload_n 3, 1) := by decide +kernel
theorem dX2_add_16 : decode cX2_add 16 = .ok (.aload_n 0, 1) := by decide +kernel
theorem dX2_add_17 : decode cX2_add 17 = .ok (.iload_n 1, 1) := by decide +kernel
theorem dX2_add_18 : decode cX2_add 18 = .ok (.invokevirtual 39, 3) := by decide +kernel
theorem dX2_add_21 : decode cX2_add 21 = .ok (.ifCond .eq 16, 3) := by decide +kernel
theorem dX2_add_24 : decode cX2_add 24 = .ok (.aload_n 0, 1) := by decide +kernel
theorem dX2_add_25 : decode cX2_add 25 = .ok (.getfield 15, 3) := by decide +kernel
theorem dX2_add_28 : decode cX2_add 28 = .ok (.iload_n 1, 1) := by decide +kernel
theorem dX2_add_29 : decode cX2_add 29 = .ok (.iaload, 1) := by decide +kernel
theorem dX2_add_30 : decode cX2_add 30 = .ok (.iconst 1, 1) := by decide +kernel
theorem dX2_add_31 : decode cX2_add 31 = .ok (.iload_n 1, 1) := by decide +kernel
theorem dX2_add_32 : decode cX2_add 32 = .ok (.ishl, 1) := by decide +kernel
theorem dX2_add_33 : decode cX2_add 33 = .ok (.ior, 1) := by decide +kernel
theorem dX2_add_34 : decode cX2_add 34 = .ok (.goto 4, 3) := by decide +kernel
theorem dX2_add_37 : decode cX2_add 37 = .ok (.iconst 0, 1) := by decide +kernel
theorem dX2_add_38 : decode cX2_add 38 = .ok (.iastore, 1) := by decide +kernel
theorem dX2_add_39 : decode cX2_add 39 = .ok (.iconst 0, 1) := by decide +kernel
theorem dX2_add_40 : decode cX2_add 40 = .ok (.istore 4, 2) := by decide +kernel
theorem dX2_add_42 : decode cX2_add 42 = .ok (.iload 4, 2) := by decide +kernel
theorem dX2_add_44 : decode cX2_add 44 = .ok (.iload_n 3, 1) := by decide +kernel
theorem dX2_add_45 : decode cX2_add 45 = .ok (.if_icmp .ge 36, 3) := by decide +kernel
theorem dX2_add_48 : decode cX2_add 48 = .ok (.aload_n 0, 1) := by decide +kernel
theorem dX2_add_49 : decode cX2_add 49 = .ok (.getfield 15, 3) := by decide +kernel
theorem dX2_add_52 : decode cX2_add 52 = .ok (.iload_n 3, 1) := by decide +kernel
theorem dX2_add_53 : decode cX2_add 53 = .ok (.iaload, 1) := by decide +kernel
theorem dX2_add_54 : decode cX2_add 54 = .ok (.iload 4, 2) := by decide +kernel
theorem dX2_add_56 : decode cX2_add 56 = .ok (.invokestatic 43, 3) := by decide +kernel
theorem dX2_add_59 : decode cX2_add 59 = .ok (.ifCond .eq 16, 3) := by decide +kernel
theorem dX2_add_62 : decode cX2_add 62 = .ok (.aload_n 0, 1) := by decide +kernel
theorem dX2_add_63 : decode cX2_add 63 = .ok (.getfield 18, 3) := by decide +kernel
theorem dX2_add_66 : decode cX2_add 66 = .ok (.iload 4, 2) := by decide +kernel
theorem dX2_add_68 : decode cX2_add 68 = .ok (.dup2, 1) := by decide +kernel
theorem dX2_add_69 : decode cX2_add 69 = .ok (.iaload, 1) := by decide +kernel
theorem dX2_add_70 : decode cX2_add 70 = .ok (.iconst 1, 1) := by decide +kernel
theorem dX2_add_71 : decode cX2_add 71 = .ok (.iload_n 3, 1) := by decide +kernel
theorem dX2_add_72 : decode cX2_add 72 = .ok (.ishl, 1) := by decide +kernel
theorem dX2_add_73 : decode cX2_add 73 = .ok (.ior, 1) := by decide +kernel
theorem dX2_add_74 : decode cX2_add 74 = .ok (.iastore, 1) := by decide +kernel
theorem dX2_add_75 : decode cX2_add 75 = .ok (.iinc 4 1, 3) := by decide +kernel
theorem dX2_add_78 : decode cX2_add 78 = .ok (.goto (-36), 3) := by decide +kernel
theorem dX2_add_81 : decode cX2_add 81 = .ok (.aload_n 0, 1) := by decide +kernel
theorem dX2_add_82 : decode cX2_add 82 = .ok (.getfield 21, 3) := by decide +kernel
theorem dX2_add_85 : decode cX2_add 85 = .ok (.iload_n 2, 1) := by decide +kernel
theorem dX2_add_86 : decode cX2_add 86 = .ok (.dup2, 1) := by decide +kernel
theorem dX2_add_87 : decode cX2_add 87 = .ok (.iaload, 1) := by decide +kernel
theorem dX2_add_88 : decode cX2_add 88 = .ok (.iconst 1, 1) := by decide +kernel
theorem dX2_add_89 : decode cX2_add 89 = .ok (.iload_n 3, 1) := by decide +kernel
theorem dX2_add_90 : decode cX2_add 90 = .ok (.ishl, 1) := by decide +kernel
theorem dX2_add_91 : decode cX2_add 91 = .ok (.ior, 1) := by decide +kernel
theorem dX2_add_92 : decode cX2_add 92 = .ok (.iastore, 1) := by decide +kernel
theorem dX2_add_93 : decode cX2_add 93 = .ok (.aload_n 0, 1) := by decide +kernel
theorem dX2_add_94 : decode cX2_add 94 = .ok (.iload_n 3, 1) := by decide +kernel
theorem dX2_add_95 : decode cX2_add 95 = .ok (.iload_n 1, 1) := by decide +kernel
theorem dX2_add_96 : decode cX2_add 96 = .ok (.iload_n 2, 1) := by decide +kernel
theorem dX2_add_97 : decode cX2_add 97 = .ok (.invokevirtual 47, 3) := by decide +kernel
theorem dX2_add_100 : decode cX2_add 100 = .ok (.aload_n 0, 1) := by decide +kernel
theorem dX2_add_101 : decode cX2_add 101 = .ok (.dup, 1) := by decide +kernel
theorem dX2_add_102 : decode cX2_add 102 = .ok (.getfield 27, 3) := by decide +kernel
theorem dX2_add_105 : decode cX2_add 105 = .ok (.iconst 1, 1) := by decide +kernel
theorem dX2_add_106 : decode cX2_add 106 = .ok (.iadd, 1) := by decide +kernel
theorem dX2_add_107 : decode cX2_add 107 = .ok (.putfield 27, 3) := by decide +kernel
theorem dX2_add_110 : decode cX2_add 110 = .ok (.iload_n 3, 1) := by decide +kernel
theorem dX2_add_111 : decode cX2_add 111 = .ok (.ireturn, 1) := by decide +kernel
theorem dX2_insertInOrder_0 : decode cX2_insertInOrder 0 = .ok (.aload_n 0, 1) := by decide +kernel
theorem dX2_insertInOrder_1 : decode cX2_insertInOrder 1 = .ok (.iload_n 2, 1) := by decide +kernel
theorem dX2_insertInOrder_2 : decode cX2_insertInOrder 2 = .ok (.invokevirtual 39, 3) := by decide +kernel
theorem dX2_insertInOrder_5 : decode cX2_insertInOrder 5 = .ok (.ifCond .eq 23, 3) := by decide +kernel
theorem dX2_insertInOrder_8 : decode cX2_insertInOrder 8 = .ok (.aload_n 0, 1) := by decide +kernel
theorem dX2_insertInOrder_9 : decode cX2_insertInOrder 9 = .ok (.iload_n 2, 1) := by decide +kernel
theorem dX2_insertInOrder_10 : decode cX2_insertInOrder 10 = .ok (.invokevirtual 51, 3) := by decide +kernel
theorem dX2_insertInOrder_13 : decode cX2_insertInOrder 13 = .ok (.iconst 1, 1) := by decide +kernel
theorem dX2_insertInOrder_14 : decode cX2_insertInOrder 14 = .ok (.iadd, 1) := by decide +kernel
theorem dX2_insertInOrder_15 : decode cX2_insertInOrder 15 = .ok (.aload_n 0, 1) := by decide +kernel
theorem dX2_insertInOrder_16 : decode cX2_insertInOrder 16 = .ok (.getfield 18, 3) := by decide +kernel
theorem dX2_insertInOrder_19 : decode cX2_insertInOrder 19 = .ok (.iload_n 2, 1) := by decide +kernel
theorem dX2_insertInOrder_20 : decode cX2_insertInOrder 20 = .ok (.iaload, 1) := by decide +kernel
theorem dX2_insertInOrder_21 : decode cX2_insertInOrder 21 = .ok (.invokestatic 55, 3) := by decide +kernel
theorem dX2_insertInOrder_24 : decode cX2_insertInOrder 24 = .ok (.iadd, 1) := by decide +kernel
theorem dX2_insertInOrder_25 : decode cX2_insertInOrder 25 = .ok (.goto 4, 3) := by decide +kernel
theorem dX2_insertInOrder_28 : decode cX2_insertInOrder 28 = .ok (.iconst 0, 1) := by decide +kernel
theorem dX2_insertInOrder_29 : decode cX2_insertInOrder 29 = .ok (.istore_n 3, 1) := by decide +kernel
theorem dX2_insertInOrder_30 : decode cX2_insertInOrder 30 = .ok (.iload_n 1, 1) := by decide +kernel
theorem dX2_insertInOrder_31 : decode cX2_insertInOrder 31 = .ok (.istore 4, 2) := by decide +kernel
theorem dX2_insertInOrder_33 : decode cX2_insertInOrder 33 = .ok (.iload 4, 2) := by decide +kernel
theorem dX2_insertInOrder_35 : decode cX2_insertInOrder 35 = .ok (.iload_n 3, 1) := by decide +kernel
theorem dX2_insertInOrder_36 : decode cX2_insertInOrder 36 = .ok (.if_icmp .le 25, 3) := by decide +kernel
theorem dX2_insertInOrder_39 : decode cX2_insertInOrder 39 = .ok (.aload_n 0, 1) := by decide +kernel
theorem dX2_insertInOrder_40 : decode cX2_insertInOrder 40 = .ok (.getfield 24, 3) := by decide +kernel
theorem dX2_insertInOrder_43 : decode cX2_insertInOrder 43 = .ok (.iload 4, 2) := by decide +kernel
theorem dX2_insertInOrder_45 : decode cX2_insertInOrder 45 = .ok (.aload_n 0, 1) := by decide +kernel
theorem dX2_insertInOrder_46 : decode cX2_insertInOrder 46 = .ok (.getfield 24, 3) := by decide +kernel
theorem dX2_insertInOrder_49 : decode cX2_insertInOrder 49 = .ok (.iload 4, 2) := by decide +kernel
theorem dX2_insertInOrder_51 : decode cX2_insertInOrder 51 = .ok (.iconst 1, 1) := by decide +kernel
theorem dX2_insertInOrder_52 : decode cX2_insertInOrder 52 = .ok (.isub, 1) := by decide +kernel
theorem dX2_insertInOrder_53 : decode cX2_insertInOrder 53 = .ok (.iaload, 1) := by decide +kernel
theorem dX2_insertInOrder_54 : decode cX2_insertInOrder 54 = .ok (.iastore, 1) := by decide +kernel
theorem dX2_insertInOrder_55 : decode cX2_insertInOrder 55 = .ok (.iinc 4 (-1), 3) := by decide +kernel
theorem dX2_insertInOrder_58 : decode cX2_insertInOrder 58 = .ok (.goto (-25), 3) := by decide +kernel
theorem dX2_insertInOrder_61 : decode cX2_insertInOrder 61 = .ok (.aload_n 0, 1) := by decide +kernel
theorem dX2_insertInOrder_62 : decode cX2_insertInOrder 62 = .ok (.getfield 24, 3) := by decide +kernel
theorem dX2_insertInOrder_65 : decode cX2_insertInOrder 65 = .ok (.iload_n 3, 1) := by decide +kernel
theorem dX2_insertInOrder_66 : decode cX2_insertInOrder 66 = .ok (.iload_n 1, 1) := by decide +kernel
theorem dX2_insertInOrder_67 : decode cX2_insertInOrder 67 = .ok (.iastore, 1) := by decide +kernel
theorem dX2_insertInOrder_68 : decode cX2_insertInOrder 68 = .ok (.return_, 1) := by decide +kernel
theorem dX2_spotInOrder_0 : decode cX2_spotInOrder 0 = .ok (.iconst 0, 1) := by decide +kernel
theorem dX2_spotInOrder_1 : decode cX2_spotInOrder 1 = .ok (.istore_n 2, 1) := by decide +kernel
theorem dX2_spotInOrder_2 : decode cX2_spotInOrder 2 = .ok (.iconst 0, 1) := by decide +kernel
theorem dX2_spotInOrder_3 : decode cX2_spotInOrder 3 = .ok (.istore_n 3, 1) := by decide +kernel
theorem dX2_spotInOrder_4 : decode cX2_spotInOrder 4 = .ok (.iload_n 3, 1) := by decide +kernel
theorem dX2_spotInOrder_5 : decode cX2_spotInOrder 5 = .ok (.aload_n 0, 1) := by decide +kernel
theorem dX2_spotInOrder_6 : decode cX2_spotInOrder 6 = .ok (.getfield 27, 3) := by decide +kernel
theorem dX2_spotInOrder_9 : decode cX2_spotInOrder 9 = .ok (.if_icmp .ge 21, 3) := by decide +kernel
theorem dX2_spotInOrder_12 : decode cX2_spotInOrder 12 = .ok (.aload_n 0, 1) := by decide +kernel
theorem dX2_spotInOrder_13 : decode cX2_spotInOrder 13 = .ok (.getfield 24, 3) := by decide +kernel
theorem dX2_spotInOrder_16 : decode cX2_spotInOrder 16 = .ok (.iload_n 3, 1) := by decide +kernel
theorem dX2_spotInOrder_17 : decode cX2_spotInOrder 17 = .ok (.iaload, 1) := by decide +kernel
theorem dX2_spotInOrder_18 : decode cX2_spotInOrder 18 = .ok (.iload_n 1, 1) := by decide +kernel
theorem dX2_spotInOrder_19 : decode cX2_spotInOrder 19 = .ok (.if_icmp .ne 5, 3) := by decide +kernel
theorem dX2_spotInOrder_22 : decode cX2_spotInOrder 22 = .ok (.iload_n 3, 1) := by decide +kernel
theorem dX2_spotInOrder_23 : decode cX2_spotInOrder 23 = .ok (.istore_n 2, 1) := by decide +kernel
theorem dX2_spotInOrder_24 : decode cX2_spotInOrder 24 = .ok (.iinc 3 1, 3) := by decide +kernel
theorem dX2_spotInOrder_27 : decode cX2_spotInOrder 27 = .ok (.goto (-23), 3) := by decide +kernel
theorem dX2_spotInOrder_30 : decode cX2_spotInOrder 30 = .ok (.iload_n 2, 1) := by decide +kernel
theorem dX2_spotInOrder_31 : decode cX2_spotInOrder 31 = .ok (.ireturn, 1) := by decide +kernel
theorem dX2_putFirstValues_0 : decode cX2_putFirstValues 0 = .ok (.aload_n 0, 1) := by decide +kernel
theorem dX2_putFirstValues_1 : decode cX2_putFirstValues 1 = .ok (.iload_n 1, 1) := by decide +kernel
theorem dX2_putFirstValues_2 : decode cX2_putFirstValues 2 = .ok (.iconst 3, 1) := by decide +kernel
theorem dX2_putFirstValues_3 : decode cX2_putFirstValues 3 = .ok (.iconst (-1), 1) := by decide +kernel
theorem dX2_putFirstValues_4 : decode cX2_putFirstValues 4 = .ok (.invokevirtual 60, 3) := by decide +kernel
theorem dX2_putFirstValues_7 : decode cX2_putFirstValues 7 = .ok (.aload_n 0, 1) := by decide +kernel
theorem dX2_putFirstValues_8 : decode cX2_putFirstValues 8 = .ok (.iload_n 1, 1) := by decide +kernel
theorem dX2_putFirstValues_9 : decode cX2_putFirstValues 9 = .ok (.iconst 4, 1) := by decide +kernel
theorem dX2_putFirstValues_10 : decode cX2_putFirstValues 10 = .ok (.iconst (-1), 1) := by decide +kernel
theorem dX2_putFirstValues_11 : decode cX2_putFirstValues 11 = .ok (.invokevirtual 60, 3) := by decide +kernel
theorem dX2_putFirstValues_14 : decode cX2_putFirstValues 14 = .ok (.aload_n 0, 1) := by decide +kernel
theorem dX2_putFirstValues_15 : decode cX2_putFirstValues 15 = .ok (.iload_n 1, 1) := by decide +kernel
theorem dX2_putFirstValues_16 : decode cX2_putFirstValues 16 = .ok (.bipush 7, 2) := by decide +kernel
theorem dX2_putFirstValues_18 : decode cX2_putFirstValues 18 = .ok (.iconst (-1), 1) := by decide +kernel
theorem dX2_putFirstValues_19 : decode cX2_putFirstValues 19 = .ok (.invokevirtual 60, 3) := by decide +kernel
theorem dX2_putFirstValues_22 : decode cX2_putFirstValues 22 = .ok (.aload_n 0, 1) := by decide +kernel
theorem dX2_putFirstValues_23 : decode cX2_putFirstValues 23 = .ok (.iload_n 1, 1) := by decide +kernel
theorem dX2_putFirstValues_24 : decode cX2_putFirstValues 24 = .ok (.bipush 10, 2) := by decide +kernel
theorem dX2_putFirstValues_26 : decode cX2_putFirstValues 26 = .ok (.iload_n 3, 1) := by decide +kernel
theorem dX2_putFirstValues_27 : decode cX2_putFirstValues 27 = .ok (.invokevirtual 60, 3) := by decide +kernel
theorem dX2_putFirstValues_30 : decode cX2_putFirstValues 30 = .ok (.aload_n 0, 1) := by decide +kernel
theorem dX2_putFirstValues_31 : decode cX2_putFirstValues 31 = .ok (.iload_n 1, 1) := by decide +kernel
theorem dX2_putFirstValues_32 : decode cX2_putFirstValues 32 = .ok (.bipush 11, 2) := by decide +kernel
theorem dX2_putFirstValues_34 : decode cX2_putFirstValues 34 = .ok (.iload_n 2, 1) := by decide +kernel
theorem dX2_putFirstValues_35 : decode cX2_putFirstValues 35 = .ok (.invokevirtual 60, 3) := by decide +kernel
theorem dX2_putFirstValues_38 : decode cX2_putFirstValues 38 = .ok (.aload_n 0, 1) := by decide +kernel
theorem dX2_putFirstValues_39 : decode cX2_putFirstValues 39 = .ok (.iload_n 1, 1) := by decide +kernel
theorem dX2_putFirstValues_40 : decode cX2_putFirstValues 40 = .ok (.bipush 17, 2) := by decide +kernel
theorem dX2_putFirstValues_42 : decode cX2_putFirstValues 42 = .ok (.ldc 63, 2) := by decide +kernel
theorem dX2_putFirstValues_44 : decode cX2_putFirstValues 44 = .ok (.invokevirtual 60, 3) := by decide +kernel
theorem dX2_putFirstValues_47 : decode cX2_putFirstValues 47 = .ok (.return_, 1) := by decide +kernel
theorem dX2_allows_0 : decode cX2_allows 0 = .ok (.iload_n 1, 1) := by decide +kernel
theorem dX2_allows_1 : decode cX2_allows 1 = .ok (.tableswitch 147 0 9 #[55, 55, 55, 57, 57, 99, 114, 76, 130, 99], 55) := by decide +kernel
theorem dX2_allows_56 : decode cX2_allows 56 = .ok (.iconst 1, 1) := by decide +kernel
theorem dX2_allows_57 : decode cX2_allows 57 = .ok (.ireturn, 1) := by decide +kernel
theorem dX2_allows_58 : decode cX2_allows 58 = .ok (.iload_n 2, 1) := by decide +kernel
theorem dX2_allows_59 : decode cX2_allows 59 = .ok (.iconst (-1), 1) := by decide +kernel
theorem dX2_allows_60 : decode cX2_allows 60 = .ok (.if_icmp .eq 11, 3) := by decide +kernel
theorem dX2_allows_63 : decode cX2_allows 63 = .ok (.aload_n 0, 1) := by decide +kernel
theorem dX2_allows_64 : decode cX2_allows 64 = .ok (.iload_n 2, 1) := by decide +kernel
theorem dX2_allows_65 : decode cX2_allows 65 = .ok (.invokevirtual 39, 3) := by decide +kernel
theorem dX2_allows_68 : decode cX2_allows 68 = .ok (.ifCond .eq 7, 3) := by decide +kernel
theorem dX2_allows_71 : decode cX2_allows 71 = .ok (.iconst 1, 1) := by decide +kernel
theorem dX2_allows_72 : decode cX2_allows 72 = .ok (.goto 4, 3) := by decide +kernel
theorem dX2_allows_75 : decode cX2_allows 75 = .ok (.iconst 0, 1) := by decide +kernel
theorem dX2_allows_76 : decode cX2_allows 76 = .ok (.ireturn, 1) := by decide +kernel
theorem dX2_allows_77 : decode cX2_allows 77 = .ok (.iload_n 2, 1) := by decide +kernel
theorem dX2_allows_78 : decode cX2_allows 78 = .ok (.iconst (-1), 1) := by decide +kernel
theorem dX2_allows_79 : decode cX2_allows 79 = .ok (.if_icmp .eq 15, 3) := by decide +kernel
theorem dX2_allows_82 : decode cX2_allows 82 = .ok (.iload_n 2, 1) := by decide +kernel
theorem dX2_allows_83 : decode cX2_allows 83 = .ok (.ifCond .eq 15, 3) := by decide +kernel
theorem dX2_allows_86 : decode cX2_allows 86 = .ok (.aload_n 0, 1) := by decide +kernel
theorem dX2_allows_87 : decode cX2_allows 87 = .ok (.iload_n 2, 1) := by decide +kernel
theorem dX2_allows_88 : decode cX2_allows 88 = .ok (.invokevirtual 39, 3) := by decide +kernel
theorem dX2_allows_91 : decode cX2_allows 91 = .ok (.ifCond .eq 7, 3) := by decide +kernel
theorem dX2_allows_94 : decode cX2_allows 94 = .ok (.iconst 1, 1) := by decide +kernel
theorem dX2_allows_95 : decode cX2_allows 95 = .ok (.goto 4, 3) := by decide +kernel
theorem dX2_allows_98 : decode cX2_allows 98 = .ok (.iconst 0, 1) := by decide +kernel
theorem dX2_allows_99 : decode cX2_allows 99 = .ok (.ireturn, 1) := by decide +kernel
theorem dX2_allows_100 : decode cX2_allows 100 = .ok (.iload_n 2, 1) := by decide +kernel
theorem dX2_allows_101 : decode cX2_allows 101 = .ok (.ifCond .eq 8, 3) := by decide +kernel
theorem dX2_allows_104 : decode cX2_allows 104 = .ok (.iload_n 2, 1) := by decide +kernel
theorem dX2_allows_105 : decode cX2_allows 105 = .ok (.iconst 1, 1) := by decide +kernel
theorem dX2_allows_106 : decode cX2_allows 106 = .ok (.if_icmp .ne 7, 3) := by decide +kernel
theorem dX2_allows_109 : decode cX2_allows 109 = .ok (.iconst 1, 1) := by decide +kernel
theorem dX2_allows_110 : decode cX2_allows 110 = .ok (.goto 4, 3) := by decide +kernel
theorem dX2_allows_113 : decode cX2_allows 113 = .ok (.iconst 0, 1) := by decide +kernel
theorem dX2_allows_114 : decode cX2_allows 114 = .ok (.ireturn, 1) := by decide +kernel
theorem dX2_allows_115 : decode cX2_allows 115 = .ok (.iload_n 2, 1) := by decide +kernel
theorem dX2_allows_116 : decode cX2_allows 116 = .ok (.ifCond .lt 13, 3) := by decide +kernel
theorem dX2_allows_119 : decode cX2_allows 119 = .ok (.iload_n 2, 1) := by decide +kernel
theorem dX2_allows_120 : decode cX2_allows 120 = .ok (.bipush 100, 2) := by decide +kernel
theorem dX2_allows_122 : decode cX2_allows 122 = .ok (.if_icmp .gt 7, 3) := by decide +kernel
theorem dX2_allows_125 : decode cX2_allows 125 = .ok (.iconst 1, 1) := by decide +kernel
theorem dX2_allows_126 : decode cX2_allows 126 = .ok (.goto 4, 3) := by decide +kernel
theorem dX2_allows_129 : decode cX2_allows 129 = .ok (.iconst 0, 1) := by decide +kernel
theorem dX2_allows_130 : decode cX2_allows 130 = .ok (.ireturn, 1) := by decide +kernel
theorem dX2_allows_131 : decode cX2_allows 131 = .ok (.iload_n 2, 1) := by decide +kernel
theorem dX2_allows_132 : decode cX2_allows 132 = .ok (.ifCond .lt 14, 3) := by decide +kernel
theorem dX2_allows_135 : decode cX2_allows 135 = .ok (.iload_n 2, 1) := by decide +kernel
theorem dX2_allows_136 : decode cX2_allows 136 = .ok (.sipush 1000, 3) := by decide +kernel
theorem dX2_allows_139 : decode cX2_allows 139 = .ok (.if_icmp .gt 7, 3) := by decide +kernel
theorem dX2_allows_142 : decode cX2_allows 142 = .ok (.iconst 1, 1) := by decide +kernel
theorem dX2_allows_143 : decode cX2_allows 143 = .ok (.goto 4, 3) := by decide +kernel
theorem dX2_allows_146 : decode cX2_allows 146 = .ok (.iconst 0, 1) := by decide +kernel
theorem dX2_allows_147 : decode cX2_allows 147 = .ok (.ireturn, 1) := by decide +kernel
theorem dX2_allows_148 : decode cX2_allows 148 = .ok (.iconst 0, 1) := by decide +kernel
theorem dX2_allows_149 : decode cX2_allows 149 = .ok (.ireturn, 1) := by decide +kernel
theorem dX2_hiddenNow_0 : decode cX2_hiddenNow 0 = .ok (.iconst 0, 1) := by decide +kernel
theorem dX2_hiddenNow_1 : decode cX2_hiddenNow 1 = .ok (.istore_n 1, 1) := by decide +kernel
theorem dX2_hiddenNow_2 : decode cX2_hiddenNow 2 = .ok (.iconst 0, 1) := by decide +kernel
theorem dX2_hiddenNow_3 : decode cX2_hiddenNow 3 = .ok (.istore_n 2, 1) := by decide +kernel
theorem dX2_hiddenNow_4 : decode cX2_hiddenNow 4 = .ok (.iload_n 2, 1) := by decide +kernel
theorem dX2_hiddenNow_5 : decode cX2_hiddenNow 5 = .ok (.aload_n 0, 1) := by decide +kernel
theorem dX2_hiddenNow_6 : decode cX2_hiddenNow 6 = .ok (.getfield 27, 3) := by decide +kernel
theorem dX2_hiddenNow_9 : decode cX2_hiddenNow 9 = .ok (.if_icmp .ge 24, 3) := by decide +kernel
theorem dX2_hiddenNow_12 : decode cX2_hiddenNow 12 = .ok (.aload_n 0, 1) := by decide +kernel
theorem dX2_hiddenNow_13 : decode cX2_hiddenNow 13 = .ok (.iload_n 2, 1) := by decide +kernel
theorem dX2_hiddenNow_14 : decode cX2_hiddenNow 14 = .ok (.iconst 5, 1) := by decide +kernel
theorem dX2_hiddenNow_15 : decode cX2_hiddenNow 15 = .ok (.invokevirtual 64, 3) := by decide +kernel
theorem dX2_hiddenNow_18 : decode cX2_hiddenNow 18 = .ok (.ifCond .eq 9, 3) := by decide +kernel
theorem dX2_hiddenNow_21 : decode cX2_hiddenNow 21 = .ok (.iload_n 1, 1) := by decide +kernel
theorem dX2_hiddenNow_22 : decode cX2_hiddenNow 22 = .ok (.iconst 1, 1) := by decide +kernel
theorem dX2_hiddenNow_23 : decode cX2_hiddenNow 23 = .ok (.iload_n 2, 1) := by decide +kernel
theorem dX2_hiddenNow_24 : decode cX2_hiddenNow 24 = .ok (.ishl, 1) := by decide +kernel
theorem dX2_hiddenNow_25 : decode cX2_hiddenNow 25 = .ok (.ior, 1) := by decide +kernel
theorem dX2_hiddenNow_26 : decode cX2_hiddenNow 26 = .ok (.istore_n 1, 1) := by decide +kernel
theorem dX2_hiddenNow_27 : decode cX2_hiddenNow 27 = .ok (.iinc 2 1, 3) := by decide +kernel
theorem dX2_hiddenNow_30 : decode cX2_hiddenNow 30 = .ok (.goto (-26), 3) := by decide +kernel
theorem dX2_hiddenNow_33 : decode cX2_hiddenNow 33 = .ok (.iload_n 1, 1) := by decide +kernel
theorem dX2_hiddenNow_34 : decode cX2_hiddenNow 34 = .ok (.ireturn, 1) := by decide +kernel
theorem dX2_shownNow_0 : decode cX2_shownNow 0 = .ok (.aload_n 0, 1) := by decide +kernel
theorem dX2_shownNow_1 : decode cX2_shownNow 1 = .ok (.aload_n 0, 1) := by decide +kernel
theorem dX2_shownNow_2 : decode cX2_shownNow 2 = .ok (.invokevirtual 67, 3) := by decide +kernel
theorem dX2_shownNow_5 : decode cX2_shownNow 5 = .ok (.invokevirtual 71, 3) := by decide +kernel
theorem dX2_shownNow_8 : decode cX2_shownNow 8 = .ok (.ireturn, 1) := by decide +kernel
theorem dX2_shownUnder_0 : decode cX2_shownUnder 0 = .ok (.iconst 0, 1) := by decide +kernel
theorem dX2_shownUnder_1 : decode cX2_shownUnder 1 = .ok (.istore_n 2, 1) := by decide +kernel
theorem dX2_shownUnder_2 : decode cX2_shownUnder 2 = .ok (.iconst 0, 1) := by decide +kernel
theorem dX2_shownUnder_3 : decode cX2_shownUnder 3 = .ok (.istore_n 3, 1) := by decide +kernel
theorem dX2_shownUnder_4 : decode cX2_shownUnder 4 = .ok (.iload_n 3, 1) := by decide +kernel
theorem dX2_shownUnder_5 : decode cX2_shownUnder 5 = .ok (.aload_n 0, 1) := by decide +kernel
theorem dX2_shownUnder_6 : decode cX2_shownUnder 6 = .ok (.getfield 27, 3) := by decide +kernel
theorem dX2_shownUnder_9 : decode cX2_shownUnder 9 = .ok (.if_icmp .ge 34, 3) := by decide +kernel
theorem dX2_shownUnder_12 : decode cX2_shownUnder 12 = .ok (.aload_n 0, 1) := by decide +kernel
theorem dX2_shownUnder_13 : decode cX2_shownUnder 13 = .ok (.getfield 15, 3) := by decide +kernel
theorem dX2_shownUnder_16 : decode cX2_shownUnder 16 = .ok (.iload_n 3, 1) := by decide +kernel
theorem dX2_shownUnder_17 : decode cX2_shownUnder 17 = .ok (.iaload, 1) := by decide +kernel
theorem dX2_shownUnder_18 : decode cX2_shownUnder 18 = .ok (.iconst 1, 1) := by decide +kernel
theorem dX2_shownUnder_19 : decode cX2_shownUnder 19 = .ok (.iload_n 3, 1) := by decide +kernel
theorem dX2_shownUnder_20 : decode cX2_shownUnder 20 = .ok (.ishl, 1) := by decide +kernel
theorem dX2_shownUnder_21 : decode cX2_shownUnder 21 = .ok (.ior, 1) := by decide +kernel
theorem dX2_shownUnder_22 : decode cX2_shownUnder 22 = .ok (.istore 4, 2) := by decide +kernel
theorem dX2_shownUnder_24 : decode cX2_shownUnder 24 = .ok (.iload 4, 2) := by decide +kernel
theorem dX2_shownUnder_26 : decode cX2_shownUnder 26 = .ok (.iload_n 1, 1) := by decide +kernel
theorem dX2_shownUnder_27 : decode cX2_shownUnder 27 = .ok (.iand, 1) := by decide +kernel
theorem dX2_shownUnder_28 : decode cX2_shownUnder 28 = .ok (.ifCond .ne 9, 3) := by decide +kernel
theorem dX2_shownUnder_31 : decode cX2_shownUnder 31 = .ok (.iload_n 2, 1) := by decide +kernel
theorem dX2_shownUnder_32 : decode cX2_shownUnder 32 = .ok (.iconst 1, 1) := by decide +kernel
theorem dX2_shownUnder_33 : decode cX2_shownUnder 33 = .ok (.iload_n 3, 1) := by decide +kernel
theorem dX2_shownUnder_34 : decode cX2_shownUnder 34 = .ok (.ishl, 1) := by decide +kernel
theorem dX2_shownUnder_35 : decode cX2_shownUnder 35 = .ok (.ior, 1) := by decide +kernel
theorem dX2_shownUnder_36 : decode cX2_shownUnder 36 = .ok (.istore_n 2, 1) := by decide +kernel
theorem dX2_shownUnder_37 : decode cX2_shownUnder 37 = .ok (.iinc 3 1, 3) := by decide +kernel
theorem dX2_shownUnder_40 : decode cX2_shownUnder 40 = .ok (.goto (-36), 3) := by decide +kernel
theorem dX2_shownUnder_43 : decode cX2_shownUnder 43 = .ok (.iload_n 2, 1) := by decide +kernel
theorem dX2_shownUnder_44 : decode cX2_shownUnder 44 = .ok (.ireturn, 1) := by decide +kernel
theorem dX2_stopsAmong_0 : decode cX2_stopsAmong 0 = .ok (.iload_n 1, 1) := by decide +kernel
theorem dX2_stopsAmong_1 : decode cX2_stopsAmong 1 = .ok (.aload_n 0, 1) := by decide +kernel
theorem dX2_stopsAmong_2 : decode cX2_stopsAmong 2 = .ok (.getfield 21, 3) := by decide +kernel
theorem dX2_stopsAmong_5 : decode cX2_stopsAmong 5 = .ok (.iconst 2, 1) := by decide +kernel
theorem dX2_stopsAmong_6 : decode cX2_stopsAmong 6 = .ok (.iaload, 1) := by decide +kernel
theorem dX2_stopsAmong_7 : decode cX2_stopsAmong 7 = .ok (.aload_n 0, 1) := by decide +kernel
theorem dX2_stopsAmong_8 : decode cX2_stopsAmong 8 = .ok (.getfield 21, 3) := by decide +kernel
theorem dX2_stopsAmong_11 : decode cX2_stopsAmong 11 = .ok (.iconst 3, 1) := by decide +kernel
theorem dX2_stopsAmong_12 : decode cX2_stopsAmong 12 = .ok (.iaload, 1) := by decide +kernel
theorem dX2_stopsAmong_13 : decode cX2_stopsAmong 13 = .ok (.ior, 1) := by decide +kernel
theorem dX2_stopsAmong_14 : decode cX2_stopsAmong 14 = .ok (.iand, 1) := by decide +kernel
theorem dX2_stopsAmong_15 : decode cX2_stopsAmong 15 = .ok (.ireturn, 1) := by decide +kernel
theorem dX2_openedBesides_0 : decode cX2_openedBesides 0 = .ok (.iconst 0, 1) := by decide +kernel
theorem dX2_openedBesides_1 : decode cX2_openedBesides 1 = .ok (.istore_n 2, 1) := by decide +kernel
theorem dX2_openedBesides_2 : decode cX2_openedBesides 2 = .ok (.iconst 0, 1) := by decide +kernel
theorem dX2_openedBesides_3 : decode cX2_openedBesides 3 = .ok (.istore_n 3, 1) := by decide +kernel
theorem dX2_openedBesides_4 : decode cX2_openedBesides 4 = .ok (.iload_n 3, 1) := by decide +kernel
theorem dX2_openedBesides_5 : decode cX2_openedBesides 5 = .ok (.aload_n 0, 1) := by decide +kernel
theorem dX2_openedBesides_6 : decode cX2_openedBesides 6 = .ok (.getfield 27, 3) := by decide +kernel
theorem dX2_openedBesides_9 : decode cX2_openedBesides 9 = .ok (.if_icmp .ge 36, 3) := by decide +kernel
theorem dX2_openedBesides_12 : decode cX2_openedBesides 12 = .ok (.aload_n 0, 1) := by decide +kernel
theorem dX2_openedBesides_13 : decode cX2_openedBesides 13 = .ok (.iload_n 3, 1) := by decide +kernel
theorem dX2_openedBesides_14 : decode cX2_openedBesides 14 = .ok (.bipush 7, 2) := by decide +kernel
theorem dX2_openedBesides_16 : decode cX2_openedBesides 16 = .ok (.invokevirtual 64, 3) := by decide +kernel
theorem dX2_openedBesides_19 : decode cX2_openedBesides 19 = .ok (.istore 4, 2) := by decide +kernel
theorem dX2_openedBesides_21 : decode cX2_openedBesides 21 = .ok (.iload_n 3, 1) := by decide +kernel
theorem dX2_openedBesides_22 : decode cX2_openedBesides 22 = .ok (.iload_n 1, 1) := by decide +kernel
theorem dX2_openedBesides_23 : decode cX2_openedBesides 23 = .ok (.if_icmp .eq 16, 3) := by decide +kernel
theorem dX2_openedBesides_26 : decode cX2_openedBesides 26 = .ok (.iload 4, 2) := by decide +kernel
theorem dX2_openedBesides_28 : decode cX2_openedBesides 28 = .ok (.iconst (-1), 1) := by decide +kernel
theorem dX2_openedBesides_29 : decode cX2_openedBesides 29 = .ok (.if_icmp .eq 10, 3) := by decide +kernel
theorem dX2_openedBesides_32 : decode cX2_openedBesides 32 = .ok (.iload_n 2, 1) := by decide +kernel
theorem dX2_openedBesides_33 : decode cX2_openedBesides 33 = .ok (.iconst 1, 1) := by decide +kernel
theorem dX2_openedBesides_34 : decode cX2_openedBesides 34 = .ok (.iload 4, 2) := by decide +kernel
theorem dX2_openedBesides_36 : decode cX2_openedBesides 36 = .ok (.ishl, 1) := by decide +kernel
theorem dX2_openedBesides_37 : decode cX2_openedBesides 37 = .ok (.ior, 1) := by decide +kernel
theorem dX2_openedBesides_38 : decode cX2_openedBesides 38 = .ok (.istore_n 2, 1) := by decide +kernel
theorem dX2_openedBesides_39 : decode cX2_openedBesides 39 = .ok (.iinc 3 1, 3) := by decide +kernel
theorem dX2_openedBesides_42 : decode cX2_openedBesides 42 = .ok (.goto (-38), 3) := by decide +kernel
theorem dX2_openedBesides_45 : decode cX2_openedBesides 45 = .ok (.iload_n 2, 1) := by decide +kernel
theorem dX2_openedBesides_46 : decode cX2_openedBesides 46 = .ok (.ireturn, 1) := by decide +kernel
theorem dX2_openedByButton_0 : decode cX2_openedByButton 0 = .ok (.aload_n 0, 1) := by decide +kernel
theorem dX2_openedByButton_1 : decode cX2_openedByButton 1 = .ok (.getfield 21, 3) := by decide +kernel
theorem dX2_openedByButton_4 : decode cX2_openedByButton 4 = .ok (.iconst 2, 1) := by decide +kernel
theorem dX2_openedByButton_5 : decode cX2_openedByButton 5 = .ok (.iaload, 1) := by decide +kernel
theorem dX2_openedByButton_6 : decode cX2_openedByButton 6 = .ok (.iload_n 1, 1) := by decide +kernel
theorem dX2_openedByButton_7 : decode cX2_openedByButton 7 = .ok (.invokestatic 43, 3) := by decide +kernel
theorem dX2_openedByButton_10 : decode cX2_openedByButton 10 = .ok (.ifCond .eq 13, 3) := by decide +kernel
theorem dX2_openedByButton_13 : decode cX2_openedByButton 13 = .ok (.aload_n 0, 1) := by decide +kernel
theorem dX2_openedByButton_14 : decode cX2_openedByButton 14 = .ok (.iload_n 1, 1) := by decide +kernel
theorem dX2_openedByButton_15 : decode cX2_openedByButton 15 = .ok (.bipush 7, 2) := by decide +kernel
theorem dX2_openedByButton_17 : decode cX2_openedByButton 17 = .ok (.invokevirtual 64, 3) := by decide +kernel
theorem dX2_openedByButton_20 : decode cX2_openedByButton 20 = .ok (.goto 4, 3) := by decide +kernel
theorem dX2_openedByButton_23 : decode cX2_openedByButton 23 = .ok (.iconst (-1), 1) := by decide +kernel
theorem dX2_openedByButton_24 : decode cX2_openedByButton 24 = .ok (.ireturn, 1) := by decide +kernel
theorem dX2_trapAround_0 : decode cX2_trapAround 0 = .ok (.aload_n 0, 1) := by decide +kernel
theorem dX2_trapAround_1 : decode cX2_trapAround 1 = .ok (.iload_n 1, 1) := by decide +kernel
theorem dX2_trapAround_2 : decode cX2_trapAround 2 = .ok (.invokevirtual 39, 3) := by decide +kernel
theorem dX2_trapAround_5 : decode cX2_trapAround 5 = .ok (.ifCond .eq 24, 3) := by decide +kernel
theorem dX2_trapAround_8 : decode cX2_trapAround 8 = .ok (.aload_n 0, 1) := by decide +kernel
theorem dX2_trapAround_9 : decode cX2_trapAround 9 = .ok (.getfield 15, 3) := by decide +kernel
theorem dX2_trapAround_12 : decode cX2_trapAround 12 = .ok (.iload_n 1, 1) := by decide +kernel
theorem dX2_trapAround_13 : decode cX2_trapAround 13 = .ok (.iaload, 1) := by decide +kernel
theorem dX2_trapAround_14 : decode cX2_trapAround 14 = .ok (.aload_n 0, 1) := by decide +kernel
theorem dX2_trapAround_15 : decode cX2_trapAround 15 = .ok (.getfield 21, 3) := by decide +kernel
theorem dX2_trapAround_18 : decode cX2_trapAround 18 = .ok (.iconst 5, 1) := by decide +kernel
theorem dX2_trapAround_19 : decode cX2_trapAround 19 = .ok (.iaload, 1) := by decide +kernel
theorem dX2_trapAround_20 : decode cX2_trapAround 20 = .ok (.iand, 1) := by decide +kernel
theorem dX2_trapAround_21 : decode cX2_trapAround 21 = .ok (.iload_n 2, 1) := by decide +kernel
theorem dX2_trapAround_22 : decode cX2_trapAround 22 = .ok (.iand, 1) := by decide +kernel
theorem dX2_trapAround_23 : decode cX2_trapAround 23 = .ok (.invokestatic 74, 3) := by decide +kernel
theorem dX2_trapAround_26 : decode cX2_trapAround 26 = .ok (.goto 4, 3) := by decide +kernel
theorem dX2_trapAround_29 : decode cX2_trapAround 29 = .ok (.iconst (-1), 1) := by decide +kernel
theorem dX2_trapAround_30 : decode cX2_trapAround 30 = .ok (.ireturn, 1) := by decide +kernel
theorem dX2_liveAround_0 : decode cX2_liveAround 0 = .ok (.aload_n 0, 1) := by decide +kernel
theorem dX2_liveAround_1 : decode cX2_liveAround 1 = .ok (.iload_n 1, 1) := by decide +kernel
theorem dX2_liveAround_2 : decode cX2_liveAround 2 = .ok (.invokevirtual 39, 3) := by decide +kernel
theorem dX2_liveAround_5 : decode cX2_liveAround 5 = .ok (.ifCond .eq 23, 3) := by decide +kernel
theorem dX2_liveAround_8 : decode cX2_liveAround 8 = .ok (.aload_n 0, 1) := by decide +kernel
theorem dX2_liveAround_9 : decode cX2_liveAround 9 = .ok (.getfield 15, 3) := by decide +kernel
theorem dX2_liveAround_12 : decode cX2_liveAround 12 = .ok (.iload_n 1, 1) := by decide +kernel
theorem dX2_liveAround_13 : decode cX2_liveAround 13 = .ok (.iaload, 1) := by decide +kernel
theorem dX2_liveAround_14 : decode cX2_liveAround 14 = .ok (.aload_n 0, 1) := by decide +kernel
theorem dX2_liveAround_15 : decode cX2_liveAround 15 = .ok (.getfield 21, 3) := by decide +kernel
theorem dX2_liveAround_18 : decode cX2_liveAround 18 = .ok (.bipush 6, 2) := by decide +kernel
theorem dX2_liveAround_20 : decode cX2_liveAround 20 = .ok (.iaload, 1) := by decide +kernel
theorem dX2_liveAround_21 : decode cX2_liveAround 21 = .ok (.iand, 1) := by decide +kernel
theorem dX2_liveAround_22 : decode cX2_liveAround 22 = .ok (.invokestatic 74, 3) := by decide +kernel
theorem dX2_liveAround_25 : decode cX2_liveAround 25 = .ok (.goto 4, 3) := by decide +kernel
theorem dX2_liveAround_28 : decode cX2_liveAround 28 = .ok (.iconst (-1), 1) := by decide +kernel
theorem dX2_liveAround_29 : decode cX2_liveAround 29 = .ok (.ireturn, 1) := by decide +kernel
theorem dX2_contrastOf_0 : decode cX2_contrastOf 0 = .ok (.aload_n 0, 1) := by decide +kernel
theorem dX2_contrastOf_1 : decode cX2_contrastOf 1 = .ok (.iload_n 1, 1) := by decide +kernel
theorem dX2_contrastOf_2 : decode cX2_contrastOf 2 = .ok (.bipush 16, 2) := by decide +kernel
theorem dX2_contrastOf_4 : decode cX2_contrastOf 4 = .ok (.invokevirtual 64, 3) := by decide +kernel
theorem dX2_contrastOf_7 : decode cX2_contrastOf 7 = .ok (.aload_n 0, 1) := by decide +kernel
theorem dX2_contrastOf_8 : decode cX2_contrastOf 8 = .ok (.iload_n 1, 1) := by decide +kernel
theorem dX2_contrastOf_9 : decode cX2_contrastOf 9 = .ok (.bipush 17, 2) := by decide +kernel
theorem dX2_contrastOf_11 : decode cX2_contrastOf 11 = .ok (.invokevirtual 64, 3) := by decide +kernel
theorem dX2_contrastOf_14 : decode cX2_contrastOf 14 = .ok (.invokestatic 77, 3) := by decide +kernel
theorem dX2_contrastOf_17 : decode cX2_contrastOf 17 = .ok (.ireturn, 1) := by decide +kernel
theorem dX3_init_0 : decode cX3_init 0 = .ok (.aload_n 0, 1) := by decide +kernel
theorem dX3_init_1 : decode cX3_init 1 = .ok (.invokespecial 3, 3) := by decide +kernel
theorem dX3_init_4 : decode cX3_init 4 = .ok (.aload_n 0, 1) := by decide +kernel
theorem dX3_init_5 : decode cX3_init 5 = .ok (.bipush 24, 2) := by decide +kernel
theorem dX3_init_7 : decode cX3_init 7 = .ok (.newarray .int, 2) := by decide +kernel
theorem dX3_init_9 : decode cX3_init 9 = .ok (.putfield 9, 3) := by decide +kernel
theorem dX3_init_12 : decode cX3_init 12 = .ok (.aload_n 0, 1) := by decide +kernel
theorem dX3_init_13 : decode cX3_init 13 = .ok (.aload_n 1, 1) := by decide +kernel
theorem dX3_init_14 : decode cX3_init 14 = .ok (.putfield 15, 3) := by decide +kernel
theorem dX3_init_17 : decode cX3_init 17 = .ok (.aload_n 0, 1) := by decide +kernel
theorem dX3_init_18 : decode cX3_init 18 = .ok (.iconst 0, 1) := by decide +kernel
theorem dX3_init_19 : decode cX3_init 19 = .ok (.putfield 19, 3) := by decide +kernel
theorem dX3_init_22 : decode cX3_init 22 = .ok (.aload_n 0, 1) := by decide +kernel
theorem dX3_init_23 : decode cX3_init 23 = .ok (.iconst 0, 1) := by decide +kernel
theorem dX3_init_24 : decode cX3_init 24 = .ok (.putfield 23, 3) := by decide +kernel
theorem dX3_init_27 : decode cX3_init 27 = .ok (.aload_n 0, 1) := by decide +kernel
theorem dX3_init_28 : decode cX3_init 28 = .ok (.iconst 0, 1) := by decide +kernel
theorem dX3_init_29 : decode cX3_init 29 = .ok (.putfield 26, 3) := by decide +kernel
theorem dX3_init_32 : decode cX3_init 32 = .ok (.return_, 1) := by decide +kernel
theorem dX3_gather_0 : decode cX3_gather 0 = .ok (.aload_n 0, 1) := by decide +kernel
theorem dX3_gather_1 : decode cX3_gather 1 = .ok (.iconst 0, 1) := by decide +kernel
theorem dX3_gather_2 : decode cX3_gather 2 = .ok (.putfield 19, 3) := by decide +kernel
theorem dX3_gather_5 : decode cX3_gather 5 = .ok (.iconst 0, 1) := by decide +kernel
theorem dX3_gather_6 : decode cX3_gather 6 = .ok (.istore_n 2, 1) := by decide +kernel
theorem dX3_gather_7 : decode cX3_gather 7 = .ok (.iload_n 2, 1) := by decide +kernel
theorem dX3_gather_8 : decode cX3_gather 8 = .ok (.aload_n 0, 1) := by decide +kernel
theorem dX3_gather_9 : decode cX3_gather 9 = .ok (.getfield 15, 3) := by decide +kernel
theorem dX3_gather_12 : decode cX3_gather 12 = .ok (.getfield 29, 3) := by decide +kernel
theorem dX3_gather_15 : decode cX3_gather 15 = .ok (.if_icmp .ge 55, 3) := by decide +kernel
theorem dX3_gather_18 : decode cX3_gather 18 = .ok (.aload_n 0, 1) := by decide +kernel
theorem dX3_gather_19 : decode cX3_gather 19 = .ok (.getfield 15, 3) := by decide +kernel
theorem dX3_gather_22 : decode cX3_gather 22 = .ok (.getfield 32, 3) := by decide +kernel
theorem dX3_gather_25 : decode cX3_gather 25 = .ok (.iload_n 2, 1) := by decide +kernel
theorem dX3_gather_26 : decode cX3_gather 26 = .ok (.iaload, 1) := by decide +kernel
theorem dX3_gather_27 : decode cX3_gather 27 = .ok (.istore_n 3, 1) := by decide +kernel
theorem dX3_gather_28 : decode cX3_gather 28 = .ok (.iload_n 1, 1) := by decide +kernel
theorem dX3_gather_29 : decode cX3_gather 29 = .ok (.iload_n 3, 1) := by decide +kernel
theorem dX3_gather_30 : decode cX3_gather 30 = .ok (.invokestatic 35, 3) := by decide +kernel
theorem dX3_gather_33 : decode cX3_gather 33 = .ok (.ifCond .eq 31, 3) := by decide +kernel
theorem dX3_gather_36 : decode cX3_gather 36 = .ok (.aload_n 0, 1) := by decide +kernel
theorem dX3_gather_37 : decode cX3_gather 37 = .ok (.iload_n 3, 1) := by decide +kernel
theorem dX3_gather_38 : decode cX3_gather 38 = .ok (.invokevirtual 39, 3) := by decide +kernel
theorem dX3_gather_41 : decode cX3_gather 41 = .ok (.ifCond .eq 23, 3) := by decide +kernel
theorem dX3_gather_44 : decode cX3_gather 44 = .ok (.aload_n 0, 1) := by decide +kernel
theorem dX3_gather_45 : decode cX3_gather 45 = .ok (.getfield 9, 3) := by decide +kernel
theorem dX3_gather_48 : decode cX3_gather 48 = .ok (.aload_n 0, 1) := by decide +kernel
theorem dX3_gather_49 : decode cX3_gather 49 = .ok (.getfield 19, 3) := by decide +kernel
theorem dX3_gather_52 : decode cX3_gather 52 = .ok (.iload_n 3, 1) := by decide +kernel
theorem dX3_gather_53 : decode cX3_gather 53 = .ok (.iastore, 1) := by decide +kernel
theorem dX3_gather_54 : decode cX3_gather 54 = .ok (.aload_n 0, 1) := by decide +kernel
theorem dX3_gather_55 : decode cX3_gather 55 = .ok (.dup, 1) := by decide +kernel
theorem dX3_gather_56 : decode cX3_gather 56 = .ok (.getfield 19, 3) := by decide +kernel
theorem dX3_gather_59 : decode cX3_gather 59 = .ok (.iconst 1, 1) := by decide +kernel
theorem dX3_gather_60 : decode cX3_gather 60 = .ok (.iadd, 1) := by decide +kernel
theorem dX3_gather_61 : decode cX3_gather 61 = .ok (.putfield 19, 3) := by decide +kernel
theorem dX3_gather_64 : decode cX3_gather 64 = .ok (.iinc 2 1, 3) := by decide +kernel
theorem dX3_gather_67 : decode cX3_gather 67 = .ok (.goto (-60), 3) := by decide +kernel
theorem dX3_gather_70 : decode cX3_gather 70 = .ok (.return_, 1) := by decide +kernel
theorem dX3_isToBeSaid_0 : decode cX3_isToBeSaid 0 = .ok (.aload_n 0, 1) := by decide +kernel
theorem dX3_isToBeSaid_1 : decode cX3_isToBeSaid 1 = .ok (.getfield 15, 3) := by decide +kernel
theorem dX3_isToBeSaid_4 : decode cX3_isToBeSaid 4 = .ok (.iload_n 1, 1) := by decide +kernel
theorem dX3_isToBeSaid_5 : decode cX3_isToBeSaid 5 = .ok (.bipush 10, 2) := by decide +kernel
theorem dX3_isToBeSaid_7 : decode cX3_isToBeSaid 7 = .ok (.invokevirtual 43, 3) := by decide +kernel
theorem dX3_isToBeSaid_10 : decode cX3_isToBeSaid 10 = .ok (.istore_n 2, 1) := by decide +kernel
theorem dX3_isToBeSaid_11 : decode cX3_isToBeSaid 11 = .ok (.iload_n 2, 1) := by decide +kernel
theorem dX3_isToBeSaid_12 : decode cX3_isToBeSaid 12 = .ok (.iconst 1, 1) := by decide +kernel
theorem dX3_isToBeSaid_13 : decode cX3_isToBeSaid 13 = .ok (.if_icmp .ne 43, 3) := by decide +kernel
theorem dX3_isToBeSaid_16 : decode cX3_isToBeSaid 16 = .ok (.aload_n 0, 1) := by decide +kernel
theorem dX3_isToBeSaid_17 : decode cX3_isToBeSaid 17 = .ok (.getfield 15, 3) := by decide +kernel
theorem dX3_isToBeSaid_20 : decode cX3_isToBeSaid 20 = .ok (.iload_n 1, 1) := by decide +kernel
theorem dX3_isToBeSaid_21 : decode cX3_isToBeSaid 21 = .ok (.iconst 0, 1) := by decide +kernel
theorem dX3_isToBeSaid_22 : decode cX3_isToBeSaid 22 = .ok (.invokevirtual 43, 3) := by decide +kernel
theorem dX3_isToBeSaid_25 : decode cX3_isToBeSaid 25 = .ok (.ifCond .eq 29, 3) := by decide +kernel
theorem dX3_isToBeSaid_28 : decode cX3_isToBeSaid 28 = .ok (.aload_n 0, 1) := by decide +kernel
theorem dX3_isToBeSaid_29 : decode cX3_isToBeSaid 29 = .ok (.getfield 15, 3) := by decide +kernel
theorem dX3_isToBeSaid_32 : decode cX3_isToBeSaid 32 = .ok (.getfield 47, 3) := by decide +kernel
theorem dX3_isToBeSaid_35 : decode cX3_isToBeSaid 35 = .ok (.iload_n 1, 1) := by decide +kernel
theorem dX3_isToBeSaid_36 : decode cX3_isToBeSaid 36 = .ok (.iaload, 1) := by decide +kernel
theorem dX3_isToBeSaid_37 : decode cX3_isToBeSaid 37 = .ok (.aload_n 0, 1) := by decide +kernel
theorem dX3_isToBeSaid_38 : decode cX3_isToBeSaid 38 = .ok (.getfield 15, 3) := by decide +kernel
theorem dX3_isToBeSaid_41 : decode cX3_isToBeSaid 41 = .ok (.getfield 50, 3) := by decide +kernel
theorem dX3_isToBeSaid_44 : decode cX3_isToBeSaid 44 = .ok (.iconst 2, 1) := by decide +kernel
theorem dX3_isToBeSaid_45 : decode cX3_isToBeSaid 45 = .ok (.iaload, 1) := by decide +kernel
theorem dX3_isToBeSaid_46 : decode cX3_isToBeSaid 46 = .ok (.iand, 1) := by decide +kernel
theorem dX3_isToBeSaid_47 : decode cX3_isToBeSaid 47 = .ok (.ifCond .ne 7, 3) := by decide +kernel
theorem dX3_isToBeSaid_50 : decode cX3_isToBeSaid 50 = .ok (.iconst 1, 1) := by decide +kernel
theorem dX3_isToBeSaid_51 : decode cX3_isToBeSaid 51 = .ok (.goto 4, 3) := by decide +kernel
theorem dX3_isToBeSaid_54 : decode cX3_isToBeSaid 54 = .ok (.iconst 0, 1) := by decide +kernel
theorem dX3_isToBeSaid_55 : decode cX3_isToBeSaid 55 = .ok (.ireturn, 1) := by decide +kernel
theorem dX3_isToBeSaid_56 : decode cX3_isToBeSaid 56 = .ok (.iload_n 2, 1) := by decide +kernel
theorem dX3_isToBeSaid_57 : decode cX3_isToBeSaid 57 = .ok (.iconst 2, 1) := by decide +kernel
theorem dX3_isToBeSaid_58 : decode cX3_isToBeSaid 58 = .ok (.if_icmp .eq 13, 3) := by decide +kernel
theorem dX3_isToBeSaid_61 : decode cX3_isToBeSaid 61 = .ok (.iload_n 2, 1) := by decide +kernel
theorem dX3_isToBeSaid_62 : decode cX3_isToBeSaid 62 = .ok (.iconst 3, 1) := by decide +kernel
theorem dX3_isToBeSaid_63 : decode cX3_isToBeSaid 63 = .ok (.if_icmp .eq 8, 3) := by decide +kernel
theorem dX3_isToBeSaid_66 : decode cX3_isToBeSaid 66 = .ok (.iload_n 2, 1) := by decide +kernel
theorem dX3_isToBeSaid_67 : decode cX3_isToBeSaid 67 = .ok (.iconst 4, 1) := by decide +kernel
theorem dX3_isToBeSaid_68 : decode cX3_isToBeSaid 68 = .ok (.if_icmp .ne 7, 3) := by decide +kernel
theorem dX3_isToBeSaid_71 : decode cX3_isToBeSaid 71 = .ok (.iconst 1, 1) := by decide +kernel
theorem dX3_isToBeSaid_72 : decode cX3_isToBeSaid 72 = .ok (.goto 4, 3) := by decide +kernel
theorem dX3_isToBeSaid_75 : decode cX3_isToBeSaid 75 = .ok (.iconst 0, 1) := by decide +kernel
theorem dX3_isToBeSaid_76 : decode cX3_isToBeSaid 76 = .ok (.ireturn, 1) := by decide +kernel
theorem dX3_at_0 : decode cX3_at 0 = .ok (.iload_n 1, 1) := by decide +kernel
theorem dX3_at_1 : decode cX3_at 1 = .ok (.ifCond .lt 20, 3) := by decide +kernel
theorem dX3_at_4 : decode cX3_at 4 = .ok (.iload_n 1, 1) := by decide +kernel
theorem dX3_at_5 : decode cX3_at 5 = .ok (.aload_n 0, 1) := by decide +kernel
theorem dX3_at_6 : decode cX3_at 6 = .ok (.getfield 19, 3) := by decide +kernel
theorem dX3_at_9 : decode cX3_at 9 = .ok (.if_icmp .ge 12, 3) := by decide +kernel
theorem dX3_at_12 : decode cX3_at 12 = .ok (.aload_n 0, 1) := by decide +kernel
theorem dX3_at_13 : decode cX3_at 13 = .ok (.getfield 9, 3) := by decide +kernel
theorem dX3_at_16 : decode cX3_at 16 = .ok (.iload_n 1, 1) := by decide +kernel
theorem dX3_at_17 : decode cX3_at 17 = .ok (.iaload, 1) := by decide +kernel
theorem dX3_at_18 : decode cX3_at 18 = .ok (.goto 4, 3) := by decide +kernel
theorem dX3_at_21 : decode cX3_at 21 = .ok (.iconst (-1), 1) := by decide +kernel
theorem dX3_at_22 : decode cX3_at 22 = .ok (.ireturn, 1) := by decide +kernel
theorem dX3_compare_0 : decode cX3_compare 0 = .ok (.aload_n 0, 1) := by decide +kernel
theorem dX3_compare_1 : decode cX3_compare 1 = .ok (.iconst 0, 1) := by decide +kernel
theorem dX3_compare_2 : decode cX3_compare 2 = .ok (.putfield 23, 3) := by decide +kernel
theorem dX3_compare_5 : decode cX3_compare 5 = .ok (.aload_n 0, 1) := by decide +kernel
theorem dX3_compare_6 : decode cX3_compare 6 = .ok (.iconst 0, 1) := by decide +kernel
theorem dX3_compare_7 : decode cX3_compare 7 = .ok (.putfield 26, 3) := by decide +kernel
theorem dX3_compare_10 : decode cX3_compare 10 = .ok (.iconst 0, 1) := by decide +kernel
theorem dX3_compare_11 : decode cX3_compare 11 = .ok (.istore_n 1, 1) := by decide +kernel
theorem dX3_compare_12 : decode cX3_compare 12 = .ok (.iload_n 1, 1) := by decide +kernel
theorem dX3_compare_13 : decode cX3_compare 13 = .ok (.aload_n 0, 1) := by decide +kernel
theorem dX3_compare_14 : decode cX3_compare 14 = .ok (.getfield 19, 3) := by decide +kernel
theorem dX3_compare_17 : decode cX3_compare 17 = .ok (.if_icmp .ge 73, 3) := by decide +kernel
theorem dX3_compare_20 : decode cX3_compare 20 = .ok (.iload_n 1, 1) := by decide +kernel
theorem dX3_compare_21 : decode cX3_compare 21 = .ok (.iconst 1, 1) := by decide +kernel
theorem dX3_compare_22 : decode cX3_compare 22 = .ok (.iadd, 1) := by decide +kernel
theorem dX3_compare_23 : decode cX3_compare 23 = .ok (.istore_n 2, 1) := by decide +kernel
theorem dX3_compare_24 : decode cX3_compare 24 = .ok (.iload_n 2, 1) := by decide +kernel
theorem dX3_compare_25 : decode cX3_compare 25 = .ok (.aload_n 0, 1) := by decide +kernel
theorem dX3_compare_26 : decode cX3_compare 26 = .ok (.getfield 19, 3) := by decide +kernel
theorem dX3_compare_29 : decode cX3_compare 29 = .ok (.if_icmp .ge 55, 3) := by decide +kernel
theorem dX3_compare_32 : decode cX3_compare 32 = .ok (.aload_n 0, 1) := by decide +kernel
theorem dX3_compare_33 : decode cX3_compare 33 = .ok (.aload_n 0, 1) := by decide +kernel
theorem dX3_compare_34 : decode cX3_compare 34 = .ok (.getfield 9, 3) := by decide +kernel
theorem dX3_compare_37 : decode cX3_compare 37 = .ok (.iload_n 1, 1) := by decide +kernel
theorem dX3_compare_38 : decode cX3_compare 38 = .ok (.iaload, 1) := by decide +kernel
theorem dX3_compare_39 : decode cX3_compare 39 = .ok (.aload_n 0, 1) := by decide +kernel
theorem dX3_compare_40 : decode cX3_compare 40 = .ok (.getfield 9, 3) := by decide +kernel
theorem dX3_compare_43 : decode cX3_compare 43 = .ok (.iload_n 2, 1) := by decide +kernel
theorem dX3_compare_44 : decode cX3_compare 44 = .ok (.iaload, 1) := by decide +kernel
theorem dX3_compare_45 : decode cX3_compare 45 = .ok (.invokevirtual 53, 3) := by decide +kernel
theorem dX3_compare_48 : decode cX3_compare 48 = .ok (.ifCond .eq 30, 3) := by decide +kernel
theorem dX3_compare_51 : decode cX3_compare 51 = .ok (.aload_n 0, 1) := by decide +kernel
theorem dX3_compare_52 : decode cX3_compare 52 = .ok (.dup, 1) := by decide +kernel
theorem dX3_compare_53 : decode cX3_compare 53 = .ok (.getfield 23, 3) := by decide +kernel
theorem dX3_compare_56 : decode cX3_compare 56 = .ok (.iconst 1, 1) := by decide +kernel
theorem dX3_compare_57 : decode cX3_compare 57 = .ok (.aload_n 0, 1) := by decide +kernel
theorem dX3_compare_58 : decode cX3_compare 58 = .ok (.getfield 9, 3) := by decide +kernel
theorem dX3_compare_61 : decode cX3_compare 61 = .ok (.iload_n 1, 1) := by decide +kernel
theorem dX3_compare_62 : decode cX3_compare 62 = .ok (.iaload, 1) := by decide +kernel
theorem dX3_compare_63 : decode cX3_compare 63 = .ok (.ishl, 1) := by decide +kernel
theorem dX3_compare_64 : decode cX3_compare 64 = .ok (.ior, 1) := by decide +kernel
theorem dX3_compare_65 : decode cX3_compare 65 = .ok (.putfield 23, 3) := by decide +kernel
theorem dX3_compare_68 : decode cX3_compare 68 = .ok (.aload_n 0, 1) := by decide +kernel
theorem dX3_compare_69 : decode cX3_compare 69 = .ok (.dup, 1) := by decide +kernel
theorem dX3_compare_70 : decode cX3_compare 70 = .ok (.getfield 26, 3) := by decide +kernel
theorem dX3_compare_73 : decode cX3_compare 73 = .ok (.iconst 1, 1) := by decide +kernel
theorem dX3_compare_74 : decode cX3_compare 74 = .ok (.iadd, 1) := by decide +kernel
theorem dX3_compare_75 : decode cX3_compare 75 = .ok (.putfield 26, 3) := by decide +kernel
theorem dX3_compare_78 : decode cX3_compare 78 = .ok (.iinc 2 1, 3) := by decide +kernel
theorem dX3_compare_81 : decode cX3_compare 81 = .ok (.goto (-57), 3) := by decide +kernel
theorem dX3_compare_84 : decode cX3_compare 84 = .ok (.iinc 1 1, 3) := by decide +kernel
theorem dX3_compare_87 : decode cX3_compare 87 = .ok (.goto (-75), 3) := by decide +kernel
theorem dX3_compare_90 : decode cX3_compare 90 = .ok (.return_, 1) := by decide +kernel
theorem dX3_isAstray_0 : decode cX3_isAstray 0 = .ok (.aload_n 0, 1) := by decide +kernel
theorem dX3_isAstray_1 : decode cX3_isAstray 1 = .ok (.iload_n 1, 1) := by decide +kernel
theorem dX3_isAstray_2 : decode cX3_isAstray 2 = .ok (.invokevirtual 56, 3) := by decide +kernel
theorem dX3_isAstray_5 : decode cX3_isAstray 5 = .ok (.ifCond .eq 11, 3) := by decide +kernel
theorem dX3_isAstray_8 : decode cX3_isAstray 8 = .ok (.aload_n 0, 1) := by decide +kernel
theorem dX3_isAstray_9 : decode cX3_isAstray 9 = .ok (.iload_n 2, 1) := by decide +kernel
theorem dX3_isAstray_10 : decode cX3_isAstray 10 = .ok (.invokevirtual 56, 3) := by decide +kernel
theorem dX3_isAstray_13 : decode cX3_isAstray 13 = .ok (.ifCond .ne 5, 3) := by decide +kernel
theorem dX3_isAstray_16 : decode cX3_isAstray 16 = .ok (.iconst 0, 1) := by decide +kernel
theorem dX3_isAstray_17 : decode cX3_isAstray 17 = .ok (.ireturn, 1) := by decide +kernel
theorem dX3_isAstray_18 : decode cX3_isAstray 18 = .ok (.aload_n 0, 1) := by decide +kernel
theorem dX3_isAstray_19 : decode cX3_isAstray 19 = .ok (.iload_n 2, 1) := by decide +kernel
theorem dX3_isAstray_20 : decode cX3_isAstray 20 = .ok (.iload_n 1, 1) := by decide +kernel
theorem dX3_isAstray_21 : decode cX3_isAstray 21 = .ok (.invokevirtual 59, 3) := by decide +kernel
theorem dX3_isAstray_24 : decode cX3_isAstray 24 = .ok (.ifCond .ne 21, 3) := by decide +kernel
theorem dX3_isAstray_27 : decode cX3_isAstray 27 = .ok (.aload_n 0, 1) := by decide +kernel
theorem dX3_isAstray_28 : decode cX3_isAstray 28 = .ok (.iload_n 2, 1) := by decide +kernel
theorem dX3_isAstray_29 : decode cX3_isAstray 29 = .ok (.iload_n 1, 1) := by decide +kernel
theorem dX3_isAstray_30 : decode cX3_isAstray 30 = .ok (.invokevirtual 62, 3) := by decide +kernel
theorem dX3_isAstray_33 : decode cX3_isAstray 33 = .ok (.ifCond .eq 16, 3) := by decide +kernel
theorem dX3_isAstray_36 : decode cX3_isAstray 36 = .ok (.aload_n 0, 1) := by decide +kernel
theorem dX3_isAstray_37 : decode cX3_isAstray 37 = .ok (.iload_n 1, 1) := by decide +kernel
theorem dX3_isAstray_38 : decode cX3_isAstray 38 = .ok (.iload_n 2, 1) := by decide +kernel
theorem dX3_isAstray_39 : decode cX3_isAstray 39 = .ok (.invokevirtual 59, 3) := by decide +kernel
theorem dX3_isAstray_42 : decode cX3_isAstray 42 = .ok (.ifCond .ne 7, 3) := by decide +kernel
theorem dX3_isAstray_45 : decode cX3_isAstray 45 = .ok (.iconst 1, 1) := by decide +kernel
theorem dX3_isAstray_46 : decode cX3_isAstray 46 = .ok (.goto 4, 3) := by decide +kernel
theorem dX3_isAstray_49 : decode cX3_isAstray 49 = .ok (.iconst 0, 1) := by decide +kernel
theorem dX3_isAstray_50 : decode cX3_isAstray 50 = .ok (.ireturn, 1) := by decide +kernel
theorem dX3_hasArea_0 : decode cX3_hasArea 0 = .ok (.aload_n 0, 1) := by decide +kernel
theorem dX3_hasArea_1 : decode cX3_hasArea 1 = .ok (.getfield 15, 3) := by decide +kernel
theorem dX3_hasArea_4 : decode cX3_hasArea 4 = .ok (.iload_n 1, 1) := by decide +kernel
theorem dX3_hasArea_5 : decode cX3_hasArea 5 = .ok (.bipush 14, 2) := by decide +kernel
theorem dX3_hasArea_7 : decode cX3_hasArea 7 = .ok (.invokevirtual 43, 3) := by decide +kernel
theorem dX3_hasArea_10 : decode cX3_hasArea 10 = .ok (.ifCond .le 20, 3) := by decide +kernel
theorem dX3_hasArea_13 : decode cX3_hasArea 13 = .ok (.aload_n 0, 1) := by decide +kernel
theorem dX3_hasArea_14 : decode cX3_hasArea 14 = .ok (.getfield 15, 3) := by decide +kernel
theorem dX3_hasArea_17 : decode cX3_hasArea 17 = .ok (.iload_n 1, 1) := by decide +kernel
theorem dX3_hasArea_18 : decode cX3_hasArea 18 = .ok (.bipush 15, 2) := by decide +kernel
theorem dX3_hasArea_20 : decode cX3_hasArea 20 = .ok (.invokevirtual 43, 3) := by decide +kernel
theorem dX3_hasArea_23 : decode cX3_hasArea 23 = .ok (.ifCond .le 7, 3) := by decide +kernel
theorem dX3_hasArea_26 : decode cX3_hasArea 26 = .ok (.iconst 1, 1) := by decide +kernel
theorem dX3_hasArea_27 : decode cX3_hasArea 27 = .ok (.goto 4, 3) := by decide +kernel
theorem dX3_hasArea_30 : decode cX3_hasArea 30 = .ok (.iconst 0, 1) := by decide +kernel
theorem dX3_hasArea_31 : decode cX3_hasArea 31 = .ok (.ireturn, 1) := by decide +kernel
theorem dX3_isAbove_0 : decode cX3_isAbove 0 = .ok (.aload_n 0, 1) := by decide +kernel
theorem dX3_isAbove_1 : decode cX3_isAbove 1 = .ok (.getfield 15, 3) := by decide +kernel
theorem dX3_isAbove_4 : decode cX3_isAbove 4 = .ok (.iload_n 1, 1) := by decide +kernel
theorem dX3_isAbove_5 : decode cX3_isAbove 5 = .ok (.bipush 13, 2) := by decide +kernel
theorem dX3_isAbove_7 : decode cX3_isAbove 7 = .ok (.invokevirtual 43, 3) := by decide +kernel
theorem dX3_isAbove_10 : decode cX3_isAbove 10 = .ok (.aload_n 0, 1) := by decide +kernel
theorem dX3_isAbove_11 : decode cX3_isAbove 11 = .ok (.getfield 15, 3) := by decide +kernel
theorem dX3_isAbove_14 : decode cX3_isAbove 14 = .ok (.iload_n 1, 1) := by decide +kernel
theorem dX3_isAbove_15 : decode cX3_isAbove 15 = .ok (.bipush 15, 2) := by decide +kernel
theorem dX3_isAbove_17 : decode cX3_isAbove 17 = .ok (.invokevirtual 43, 3) := by decide +kernel
theorem dX3_isAbove_20 : decode cX3_isAbove 20 = .ok (.iadd, 1) := by decide +kernel
theorem dX3_isAbove_21 : decode cX3_isAbove 21 = .ok (.aload_n 0, 1) := by decide +kernel
theorem dX3_isAbove_22 : decode cX3_isAbove 22 = .ok (.getfield 15, 3) := by decide +kernel
theorem dX3_isAbove_25 : decode cX3_isAbove 25 = .ok (.iload_n 2, 1) := by decide +kernel
theorem dX3_isAbove_26 : decode cX3_isAbove 26 = .ok (.bipush 13, 2) := by decide +kernel
theorem dX3_isAbove_28 : decode cX3_isAbove 28 = .ok (.invokevirtual 43, 3) := by decide +kernel
theorem dX3_isAbove_31 : decode cX3_isAbove 31 = .ok (.if_icmp .gt 7, 3) := by decide +kernel
theorem dX3_isAbove_34 : decode cX3_isAbove 34 = .ok (.iconst 1, 1) := by decide +kernel
theorem dX3_isAbove_35 : decode cX3_isAbove 35 = .ok (.goto 4, 3) := by decide +kernel
theorem dX3_isAbove_38 : decode cX3_isAbove 38 = .ok (.iconst 0, 1) := by decide +kernel
theorem dX3_isAbove_39 : decode cX3_isAbove 39 = .ok (.ireturn, 1) := by decide +kernel
theorem dX3_isLeftOf_0 : decode cX3_isLeftOf 0 = .ok (.aload_n 0, 1) := by decide +kernel
theorem dX3_isLeftOf_1 : decode cX3_isLeftOf 1 = .ok (.getfield 15, 3) := by decide +kernel
theorem dX3_isLeftOf_4 : decode cX3_isLeftOf 4 = .ok (.iload_n 1, 1) := by decide +kernel
theorem dX3_isLeftOf_5 : decode cX3_isLeftOf 5 = .ok (.bipush 12, 2) := by decide +kernel
theorem dX3_isLeftOf_7 : decode cX3_isLeftOf 7 = .ok (.invokevirtual 43, 3) := by decide +kernel
theorem dX3_isLeftOf_10 : decode cX3_isLeftOf 10 = .ok (.aload_n 0, 1) := by decide +kernel
theorem dX3_isLeftOf_11 : decode cX3_isLeftOf 11 = .ok (.getfield 15, 3) := by decide +kernel
theorem dX3_isLeftOf_14 : decode cX3_isLeftOf 14 = .ok (.iload_n 1, 1) := by decide +kernel
theorem dX3_isLeftOf_15 : decode cX3_isLeftOf 15 = .ok (.bipush 14, 2) := by decide +kernel
theorem dX3_isLeftOf_17 : decode cX3_isLeftOf 17 = .ok (.invokevirtual 43, 3) := by decide +kernel
theorem dX3_isLeftOf_20 : decode cX3_isLeftOf 20 = .ok (.iadd, 1) := by decide +kernel
theorem dX3_isLeftOf_21 : decode cX3_isLeftOf 21 = .ok (.aload_n 0, 1) := by decide +kernel
theorem dX3_isLeftOf_22 : decode cX3_isLeftOf 22 = .ok (.getfield 15, 3) := by decide +kernel
theorem dX3_isLeftOf_25 : decode cX3_isLeftOf 25 = .ok (.iload_n 2, 1) := by decide +kernel
theorem dX3_isLeftOf_26 : decode cX3_isLeftOf 26 = .ok (.bipush 12, 2) := by decide +kernel
theorem dX3_isLeftOf_28 : decode cX3_isLeftOf 28 = .ok (.invokevirtual 43, 3) := by decide +kernel
theorem dX3_isLeftOf_31 : decode cX3_isLeftOf 31 = .ok (.if_icmp .gt 7, 3) := by decide +kernel
theorem dX3_isLeftOf_34 : decode cX3_isLeftOf 34 = .ok (.iconst 1, 1) := by decide +kernel
theorem dX3_isLeftOf_35 : decode cX3_isLeftOf 35 = .ok (.goto 4, 3) := by decide +kernel
theorem dX3_isLeftOf_38 : decode cX3_isLeftOf 38 = .ok (.iconst 0, 1) := by decide +kernel
theorem dX3_isLeftOf_39 : decode cX3_isLeftOf 39 = .ok (.ireturn, 1) := by decide +kernel
end
section
theorem dX4_init_0 : decode cX4_init 0 = .ok (.aload_n 0, 1) := by decide +kernel
theorem dX4_init_1 : decode cX4_init 1 = .ok (.invokespecial 3, 3) := by decide +kernel
theorem dX4_init_4 : decode cX4_init 4 = .ok (.aload_n 0, 1) := by decide +kernel
theorem dX4_init_5 : decode cX4_init 5 = .ok (.bipush 24, 2) := by decide +kernel
theorem dX4_init_7 : decode cX4_init 7 = .ok (.newarray .int, 2) := by decide +kernel
theorem dX4_init_9 : decode cX4_init 9 = .ok (.putfield 9, 3) := by decide +kernel
theorem dX4_init_12 : decode cX4_init 12 = .ok (.aload_n 0, 1) := by decide +kernel
theorem dX4_init_13 : decode cX4_init 13 = .ok (.iconst 0, 1) := by decide +kernel
theorem dX4_init_14 : decode cX4_init 14 = .ok (.putfield 15, 3) := by decide +kernel
theorem dX4_init_17 : decode cX4_init 17 = .ok (.return_, 1) := by decide +kernel
theorem dX4_add_0 : decode cX4_add 0 = .ok (.iconst 0, 1) := by decide +kernel
theorem dX4_add_1 : decode cX4_add 1 = .ok (.istore_n 2, 1) := by decide +kernel
theorem dX4_add_2 : decode cX4_add 2 = .ok (.iload_n 2, 1) := by decide +kernel
theorem dX4_add_3 : decode cX4_add 3 = .ok (.aload_n 0, 1) := by decide +kernel
theorem dX4_add_4 : decode cX4_add 4 = .ok (.getfield 15, 3) := by decide +kernel
theorem dX4_add_7 : decode cX4_add 7 = .ok (.if_icmp .ge 20, 3) := by decide +kernel
theorem dX4_add_10 : decode cX4_add 10 = .ok (.aload_n 0, 1) := by decide +kernel
theorem dX4_add_11 : decode cX4_add 11 = .ok (.getfield 9, 3) := by decide +kernel
theorem dX4_add_14 : decode cX4_add 14 = .ok (.iload_n 2, 1) := by decide +kernel
theorem dX4_add_15 : decode cX4_add 15 = .ok (.iaload, 1) := by decide +kernel
theorem dX4_add_16 : decode cX4_add 16 = .ok (.iload_n 1, 1) := by decide +kernel
theorem dX4_add_17 : decode cX4_add 17 = .ok (.if_icmp .ne 4, 3) := by decide +kernel
theorem dX4_add_20 : decode cX4_add 20 = .ok (.return_, 1) := by decide +kernel
theorem dX4_add_21 : decode cX4_add 21 = .ok (.iinc 2 1, 3) := by decide +kernel
theorem dX4_add_24 : decode cX4_add 24 = .ok (.goto (-22), 3) := by decide +kernel
theorem dX4_add_27 : decode cX4_add 27 = .ok (.aload_n 0, 1) := by decide +kernel
theorem dX4_add_28 : decode cX4_add 28 = .ok (.getfield 15, 3) := by decide +kernel
theorem dX4_add_31 : decode cX4_add 31 = .ok (.bipush 24, 2) := by decide +kernel
theorem dX4_add_33 : decode cX4_add 33 = .ok (.if_icmp .ge 23, 3) := by decide +kernel
theorem dX4_add_36 : decode cX4_add 36 = .ok (.aload_n 0, 1) := by decide +kernel
theorem dX4_add_37 : decode cX4_add 37 = .ok (.getfield 9, 3) := by decide +kernel
theorem dX4_add_40 : decode cX4_add 40 = .ok (.aload_n 0, 1) := by decide +kernel
theorem dX4_add_41 : decode cX4_add 41 = .ok (.getfield 15, 3) := by decide +kernel
theorem dX4_add_44 : decode cX4_add 44 = .ok (.iload_n 1, 1) := by decide +kernel
theorem dX4_add_45 : decode cX4_add 45 = .ok (.iastore, 1) := by decide +kernel
theorem dX4_add_46 : decode cX4_add 46 = .ok (.aload_n 0, 1) := by decide +kernel
theorem dX4_add_47 : decode cX4_add 47 = .ok (.dup, 1) := by decide +kernel
theorem dX4_add_48 : decode cX4_add 48 = .ok (.getfield 15, 3) := by decide +kernel
theorem dX4_add_51 : decode cX4_add 51 = .ok (.iconst 1, 1) := by decide +kernel
theorem dX4_add_52 : decode cX4_add 52 = .ok (.iadd, 1) := by decide +kernel
theorem dX4_add_53 : decode cX4_add 53 = .ok (.putfield 15, 3) := by decide +kernel
theorem dX4_add_56 : decode cX4_add 56 = .ok (.return_, 1) := by decide +kernel
theorem dX4_takeFirst_0 : decode cX4_takeFirst 0 = .ok (.aload_n 0, 1) := by decide +kernel
theorem dX4_takeFirst_1 : decode cX4_takeFirst 1 = .ok (.getfield 15, 3) := by decide +kernel
theorem dX4_takeFirst_4 : decode cX4_takeFirst 4 = .ok (.ifCond .ne 5, 3) := by decide +kernel
theorem dX4_takeFirst_7 : decode cX4_takeFirst 7 = .ok (.iconst (-1), 1) := by decide +kernel
theorem dX4_takeFirst_8 : decode cX4_takeFirst 8 = .ok (.ireturn, 1) := by decide +kernel
theorem dX4_takeFirst_9 : decode cX4_takeFirst 9 = .ok (.aload_n 0, 1) := by decide +kernel
theorem dX4_takeFirst_10 : decode cX4_takeFirst 10 = .ok (.getfield 9, 3) := by decide +kernel
theorem dX4_takeFirst_13 : decode cX4_takeFirst 13 = .ok (.iconst 0, 1) := by decide +kernel
theorem dX4_takeFirst_14 : decode cX4_takeFirst 14 = .ok (.iaload, 1) := by decide +kernel
theorem dX4_takeFirst_15 : decode cX4_takeFirst 15 = .ok (.istore_n 1, 1) := by decide +kernel
theorem dX4_takeFirst_16 : decode cX4_takeFirst 16 = .ok (.aload_n 0, 1) := by decide +kernel
theorem dX4_takeFirst_17 : decode cX4_takeFirst 17 = .ok (.dup, 1) := by decide +kernel
theorem dX4_takeFirst_18 : decode cX4_takeFirst 18 = .ok (.getfield 15, 3) := by decide +kernel
theorem dX4_takeFirst_21 : decode cX4_takeFirst 21 = .ok (.iconst 1, 1) := by decide +kernel
theorem dX4_takeFirst_22 : decode cX4_takeFirst 22 = .ok (.isub, 1) := by decide +kernel
theorem dX4_takeFirst_23 : decode cX4_takeFirst 23 = .ok (.putfield 15, 3) := by decide +kernel
theorem dX4_takeFirst_26 : decode cX4_takeFirst 26 = .ok (.iconst 0, 1) := by decide +kernel
theorem dX4_takeFirst_27 : decode cX4_takeFirst 27 = .ok (.istore_n 2, 1) := by decide +kernel
theorem dX4_takeFirst_28 : decode cX4_takeFirst 28 = .ok (.iload_n 2, 1) := by decide +kernel
theorem dX4_takeFirst_29 : decode cX4_takeFirst 29 = .ok (.aload_n 0, 1) := by decide +kernel
theorem dX4_takeFirst_30 : decode cX4_takeFirst 30 = .ok (.getfield 15, 3) := by decide +kernel
theorem dX4_takeFirst_33 : decode cX4_takeFirst 33 = .ok (.if_icmp .ge 23, 3) := by decide +kernel
theorem dX4_takeFirst_36 : decode cX4_takeFirst 36 = .ok (.aload_n 0, 1) := by decide +kernel
theorem dX4_takeFirst_37 : decode cX4_takeFirst 37 = .ok (.getfield 9, 3) := by decide +kernel
theorem dX4_takeFirst_40 : decode cX4_takeFirst 40 = .ok (.iload_n 2, 1) := by decide +kernel
theorem dX4_takeFirst_41 : decode cX4_takeFirst 41 = .ok (.aload_n 0, 1) := by decide +kernel
theorem dX4_takeFirst_42 : decode cX4_takeFirst 42 = .ok (.getfield 9, 3) := by decide +kernel
theorem dX4_takeFirst_45 : decode cX4_takeFirst 45 = .ok (.iload_n 2, 1) := by decide +kernel
theorem dX4_takeFirst_46 : decode cX4_takeFirst 46 = .ok (.iconst 1, 1) := by decide +kernel
theorem dX4_takeFirst_47 : decode cX4_takeFirst 47 = .ok (.iadd, 1) := by decide +kernel
theorem dX4_takeFirst_48 : decode cX4_takeFirst 48 = .ok (.iaload, 1) := by decide +kernel
theorem dX4_takeFirst_49 : decode cX4_takeFirst 49 = .ok (.iastore, 1) := by decide +kernel
theorem dX4_takeFirst_50 : decode cX4_takeFirst 50 = .ok (.iinc 2 1, 3) := by decide +kernel
theorem dX4_takeFirst_53 : decode cX4_takeFirst 53 = .ok (.goto (-25), 3) := by decide +kernel
theorem dX4_takeFirst_56 : decode cX4_takeFirst 56 = .ok (.iload_n 1, 1) := by decide +kernel
theorem dX4_takeFirst_57 : decode cX4_takeFirst 57 = .ok (.ireturn, 1) := by decide +kernel
theorem dX5_init_0 : decode cX5_init 0 = .ok (.aload_n 0, 1) := by decide +kernel
theorem dX5_init_1 : decode cX5_init 1 = .ok (.invokespecial 3, 3) := by decide +kernel
theorem dX5_init_4 : decode cX5_init 4 = .ok (.aload_n 0, 1) := by decide +kernel
theorem dX5_init_5 : decode cX5_init 5 = .ok (.bipush 24, 2) := by decide +kernel
theorem dX5_init_7 : decode cX5_init 7 = .ok (.newarray .int, 2) := by decide +kernel
theorem dX5_init_9 : decode cX5_init 9 = .ok (.putfield 9, 3) := by decide +kernel
theorem dX5_init_12 : decode cX5_init 12 = .ok (.aload_n 0, 1) := by decide +kernel
theorem dX5_init_13 : decode cX5_init 13 = .ok (.aload_n 1, 1) := by decide +kernel
theorem dX5_init_14 : decode cX5_init 14 = .ok (.putfield 15, 3) := by decide +kernel
theorem dX5_init_17 : decode cX5_init 17 = .ok (.aload_n 0, 1) := by decide +kernel
theorem dX5_init_18 : decode cX5_init 18 = .ok (.iconst 0, 1) := by decide +kernel
theorem dX5_init_19 : decode cX5_init 19 = .ok (.putfield 19, 3) := by decide +kernel
theorem dX5_init_22 : decode cX5_init 22 = .ok (.return_, 1) := by decide +kernel
theorem dX5_arrange_0 : decode cX5_arrange 0 = .ok (.aload_n 0, 1) := by decide +kernel
theorem dX5_arrange_1 : decode cX5_arrange 1 = .ok (.iconst 0, 1) := by decide +kernel
theorem dX5_arrange_2 : decode cX5_arrange 2 = .ok (.putfield 19, 3) := by decide +kernel
theorem dX5_arrange_5 : decode cX5_arrange 5 = .ok (.iconst 0, 1) := by decide +kernel
theorem dX5_arrange_6 : decode cX5_arrange 6 = .ok (.istore_n 1, 1) := by decide +kernel
theorem dX5_arrange_7 : decode cX5_arrange 7 = .ok (.iload_n 1, 1) := by decide +kernel
theorem dX5_arrange_8 : decode cX5_arrange 8 = .ok (.aload_n 0, 1) := by decide +kernel
theorem dX5_arrange_9 : decode cX5_arrange 9 = .ok (.getfield 15, 3) := by decide +kernel
theorem dX5_arrange_12 : decode cX5_arrange 12 = .ok (.getfield 23, 3) := by decide +kernel
theorem dX5_arrange_15 : decode cX5_arrange 15 = .ok (.if_icmp .ge 45, 3) := by decide +kernel
theorem dX5_arrange_18 : decode cX5_arrange 18 = .ok (.aload_n 0, 1) := by decide +kernel
theorem dX5_arrange_19 : decode cX5_arrange 19 = .ok (.getfield 15, 3) := by decide +kernel
theorem dX5_arrange_22 : decode cX5_arrange 22 = .ok (.getfield 26, 3) := by decide +kernel
theorem dX5_arrange_25 : decode cX5_arrange 25 = .ok (.iload_n 1, 1) := by decide +kernel
theorem dX5_arrange_26 : decode cX5_arrange 26 = .ok (.iaload, 1) := by decide +kernel
theorem dX5_arrange_27 : decode cX5_arrange 27 = .ok (.istore_n 2, 1) := by decide +kernel
theorem dX5_arrange_28 : decode cX5_arrange 28 = .ok (.aload_n 0, 1) := by decide +kernel
theorem dX5_arrange_29 : decode cX5_arrange 29 = .ok (.getfield 15, 3) := by decide +kernel
theorem dX5_arrange_32 : decode cX5_arrange 32 = .ok (.iload_n 2, 1) := by decide +kernel
theorem dX5_arrange_33 : decode cX5_arrange 33 = .ok (.bipush 10, 2) := by decide +kernel
theorem dX5_arrange_35 : decode cX5_arrange 35 = .ok (.invokevirtual 29, 3) := by decide +kernel
theorem dX5_arrange_38 : decode cX5_arrange 38 = .ok (.istore_n 3, 1) := by decide +kernel
theorem dX5_arrange_39 : decode cX5_arrange 39 = .ok (.iload_n 3, 1) := by decide +kernel
theorem dX5_arrange_40 : decode cX5_arrange 40 = .ok (.iconst 2, 1) := by decide +kernel
theorem dX5_arrange_41 : decode cX5_arrange 41 = .ok (.if_icmp .eq 8, 3) := by decide +kernel
theorem dX5_arrange_44 : decode cX5_arrange 44 = .ok (.iload_n 3, 1) := by decide +kernel
theorem dX5_arrange_45 : decode cX5_arrange 45 = .ok (.iconst 3, 1) := by decide +kernel
theorem dX5_arrange_46 : decode cX5_arrange 46 = .ok (.if_icmp .ne 8, 3) := by decide +kernel
theorem dX5_arrange_49 : decode cX5_arrange 49 = .ok (.aload_n 0, 1) := by decide +kernel
theorem dX5_arrange_50 : decode cX5_arrange 50 = .ok (.iload_n 2, 1) := by decide +kernel
theorem dX5_arrange_51 : decode cX5_arrange 51 = .ok (.invokevirtual 33, 3) := by decide +kernel
theorem dX5_arrange_54 : decode cX5_arrange 54 = .ok (.iinc 1 1, 3) := by decide +kernel
theorem dX5_arrange_57 : decode cX5_arrange 57 = .ok (.goto (-50), 3) := by decide +kernel
theorem dX5_arrange_60 : decode cX5_arrange 60 = .ok (.return_, 1) := by decide +kernel
theorem dX5_insert_0 : decode cX5_insert 0 = .ok (.aload_n 0, 1) := by decide +kernel
theorem dX5_insert_1 : decode cX5_insert 1 = .ok (.getfield 19, 3) := by decide +kernel
theorem dX5_insert_4 : decode cX5_insert 4 = .ok (.istore_n 2, 1) := by decide +kernel
theorem dX5_insert_5 : decode cX5_insert 5 = .ok (.iload_n 2, 1) := by decide +kernel
theorem dX5_insert_6 : decode cX5_insert 6 = .ok (.ifCond .le 43, 3) := by decide +kernel
theorem dX5_insert_9 : decode cX5_insert 9 = .ok (.aload_n 0, 1) := by decide +kernel
theorem dX5_insert_10 : decode cX5_insert 10 = .ok (.iload_n 1, 1) := by decide +kernel
theorem dX5_insert_11 : decode cX5_insert 11 = .ok (.invokevirtual 37, 3) := by decide +kernel
theorem dX5_insert_14 : decode cX5_insert 14 = .ok (.aload_n 0, 1) := by decide +kernel
theorem dX5_insert_15 : decode cX5_insert 15 = .ok (.aload_n 0, 1) := by decide +kernel
theorem dX5_insert_16 : decode cX5_insert 16 = .ok (.getfield 9, 3) := by decide +kernel
theorem dX5_insert_19 : decode cX5_insert 19 = .ok (.iload_n 2, 1) := by decide +kernel
theorem dX5_insert_20 : decode cX5_insert 20 = .ok (.iconst 1, 1) := by decide +kernel
theorem dX5_insert_21 : decode cX5_insert 21 = .ok (.isub, 1) := by decide +kernel
theorem dX5_insert_22 : decode cX5_insert 22 = .ok (.iaload, 1) := by decide +kernel
theorem dX5_insert_23 : decode cX5_insert 23 = .ok (.invokevirtual 37, 3) := by decide +kernel
theorem dX5_insert_26 : decode cX5_insert 26 = .ok (.if_icmp .ge 23, 3) := by decide +kernel
theorem dX5_insert_29 : decode cX5_insert 29 = .ok (.aload_n 0, 1) := by decide +kernel
theorem dX5_insert_30 : decode cX5_insert 30 = .ok (.getfield 9, 3) := by decide +kernel
theorem dX5_insert_33 : decode cX5_insert 33 = .ok (.iload_n 2, 1) := by decide +kernel
theorem dX5_insert_34 : decode cX5_insert 34 = .ok (.aload_n 0, 1) := by decide +kernel
theorem dX5_insert_35 : decode cX5_insert 35 = .ok (.getfield 9, 3) := by decide +kernel
theorem dX5_insert_38 : decode cX5_insert 38 = .ok (.iload_n 2, 1) := by decide +kernel
theorem dX5_insert_39 : decode cX5_insert 39 = .ok (.iconst 1, 1) := by decide +kernel
theorem dX5_insert_40 : decode cX5_insert 40 = .ok (.isub, 1) := by decide +kernel
theorem dX5_insert_41 : decode cX5_insert 41 = .ok (.iaload, 1) := by decide +kernel
theorem dX5_insert_42 : decode cX5_insert 42 = .ok (.iastore, 1) := by decide +kernel
theorem dX5_insert_43 : decode cX5_insert 43 = .ok (.iinc 2 (-1), 3) := by decide +kernel
theorem dX5_insert_46 : decode cX5_insert 46 = .ok (.goto (-41), 3) := by decide +kernel
theorem dX5_insert_49 : decode cX5_insert 49 = .ok (.aload_n 0, 1) := by decide +kernel
theorem dX5_insert_50 : decode cX5_insert 50 = .ok (.getfield 9, 3) := by decide +kernel
theorem dX5_insert_53 : decode cX5_insert 53 = .ok (.iload_n 2, 1) := by decide +kernel
theorem dX5_insert_54 : decode cX5_insert 54 = .ok (.iload_n 1, 1) := by decide +kernel
theorem dX5_insert_55 : decode cX5_insert 55 = .ok (.iastore, 1) := by decide +kernel
theorem dX5_insert_56 : decode cX5_insert 56 = .ok (.aload_n 0, 1) := by decide +kernel
theorem dX5_insert_57 : decode cX5_insert 57 = .ok (.dup, 1) := by decide +kernel
theorem dX5_insert_58 : decode cX5_insert 58 = .ok (.getfield 19, 3) := by decide +kernel
theorem dX5_insert_61 : decode cX5_insert 61 = .ok (.iconst 1, 1) := by decide +kernel
theorem dX5_insert_62 : decode cX5_insert 62 = .ok (.iadd, 1) := by decide +kernel
theorem dX5_insert_63 : decode cX5_insert 63 = .ok (.putfield 19, 3) := by decide +kernel
theorem dX5_insert_66 : decode cX5_insert 66 = .ok (.return_, 1) := by decide +kernel
theorem dX5_rank_0 : decode cX5_rank 0 = .ok (.aload_n 0, 1) := by decide +kernel
theorem dX5_rank_1 : decode cX5_rank 1 = .ok (.getfield 15, 3) := by decide +kernel
theorem dX5_rank_4 : decode cX5_rank 4 = .ok (.iload_n 1, 1) := by decide +kernel
theorem dX5_rank_5 : decode cX5_rank 5 = .ok (.bipush 6, 2) := by decide +kernel
theorem dX5_rank_7 : decode cX5_rank 7 = .ok (.invokevirtual 29, 3) := by decide +kernel
theorem dX5_rank_10 : decode cX5_rank 10 = .ok (.istore_n 2, 1) := by decide +kernel
theorem dX5_rank_11 : decode cX5_rank 11 = .ok (.iload_n 2, 1) := by decide +kernel
theorem dX5_rank_12 : decode cX5_rank 12 = .ok (.ifCond .ne 8, 3) := by decide +kernel
theorem dX5_rank_15 : decode cX5_rank 15 = .ok (.bipush 101, 2) := by decide +kernel
theorem dX5_rank_17 : decode cX5_rank 17 = .ok (.goto 4, 3) := by decide +kernel
theorem dX5_rank_20 : decode cX5_rank 20 = .ok (.iload_n 2, 1) := by decide +kernel
theorem dX5_rank_21 : decode cX5_rank 21 = .ok (.ireturn, 1) := by decide +kernel
theorem dX5_at_0 : decode cX5_at 0 = .ok (.iload_n 1, 1) := by decide +kernel
theorem dX5_at_1 : decode cX5_at 1 = .ok (.ifCond .ge 5, 3) := by decide +kernel
theorem dX5_at_4 : decode cX5_at 4 = .ok (.iconst (-1), 1) := by decide +kernel
theorem dX5_at_5 : decode cX5_at 5 = .ok (.ireturn, 1) := by decide +kernel
theorem dX5_at_6 : decode cX5_at 6 = .ok (.iload_n 1, 1) := by decide +kernel
theorem dX5_at_7 : decode cX5_at 7 = .ok (.istore_n 3, 1) := by decide +kernel
theorem dX5_at_8 : decode cX5_at 8 = .ok (.iconst 0, 1) := by decide +kernel
theorem dX5_at_9 : decode cX5_at 9 = .ok (.istore 4, 2) := by decide +kernel
theorem dX5_at_11 : decode cX5_at 11 = .ok (.iload 4, 2) := by decide +kernel
theorem dX5_at_13 : decode cX5_at 13 = .ok (.aload_n 0, 1) := by decide +kernel
theorem dX5_at_14 : decode cX5_at 14 = .ok (.getfield 19, 3) := by decide +kernel
theorem dX5_at_17 : decode cX5_at 17 = .ok (.if_icmp .ge 38, 3) := by decide +kernel
theorem dX5_at_20 : decode cX5_at 20 = .ok (.iload_n 2, 1) := by decide +kernel
theorem dX5_at_21 : decode cX5_at 21 = .ok (.aload_n 0, 1) := by decide +kernel
theorem dX5_at_22 : decode cX5_at 22 = .ok (.getfield 9, 3) := by decide +kernel
theorem dX5_at_25 : decode cX5_at 25 = .ok (.iload 4, 2) := by decide +kernel
theorem dX5_at_27 : decode cX5_at 27 = .ok (.iaload, 1) := by decide +kernel
theorem dX5_at_28 : decode cX5_at 28 = .ok (.invokestatic 41, 3) := by decide +kernel
theorem dX5_at_31 : decode cX5_at 31 = .ok (.ifCond .eq 18, 3) := by decide +kernel
theorem dX5_at_34 : decode cX5_at 34 = .ok (.iload_n 3, 1) := by decide +kernel
theorem dX5_at_35 : decode cX5_at 35 = .ok (.ifCond .ne 11, 3) := by decide +kernel
theorem dX5_at_38 : decode cX5_at 38 = .ok (.aload_n 0, 1) := by decide +kernel
theorem dX5_at_39 : decode cX5_at 39 = .ok (.getfield 9, 3) := by decide +kernel
theorem dX5_at_42 : decode cX5_at 42 = .ok (.iload 4, 2) := by decide +kernel
theorem dX5_at_44 : decode cX5_at 44 = .ok (.iaload, 1) := by decide +kernel
theorem dX5_at_45 : decode cX5_at 45 = .ok (.ireturn, 1) := by decide +kernel
theorem dX5_at_46 : decode cX5_at 46 = .ok (.iinc 3 (-1), 3) := by decide +kernel
theorem dX5_at_49 : decode cX5_at 49 = .ok (.iinc 4 1, 3) := by decide +kernel
theorem dX5_at_52 : decode cX5_at 52 = .ok (.goto (-41), 3) := by decide +kernel
theorem dX5_at_55 : decode cX5_at 55 = .ok (.iconst (-1), 1) := by decide +kernel
theorem dX5_at_56 : decode cX5_at 56 = .ok (.ireturn, 1) := by decide +kernel
theorem dX5_turn_0 : decode cX5_turn 0 = .ok (.aload_n 0, 1) := by decide +kernel
theorem dX5_turn_1 : decode cX5_turn 1 = .ok (.getfield 15, 3) := by decide +kernel
theorem dX5_turn_4 : decode cX5_turn 4 = .ok (.iload_n 1, 1) := by decide +kernel
theorem dX5_turn_5 : decode cX5_turn 5 = .ok (.iload_n 3, 1) := by decide +kernel
theorem dX5_turn_6 : decode cX5_turn 6 = .ok (.invokevirtual 45, 3) := by decide +kernel
theorem dX5_turn_9 : decode cX5_turn 9 = .ok (.istore 4, 2) := by decide +kernel
theorem dX5_turn_11 : decode cX5_turn 11 = .ok (.iload 4, 2) := by decide +kernel
theorem dX5_turn_13 : decode cX5_turn 13 = .ok (.iconst (-1), 1) := by decide +kernel
theorem dX5_turn_14 : decode cX5_turn 14 = .ok (.if_icmp .ne 7, 3) := by decide +kernel
theorem dX5_turn_17 : decode cX5_turn 17 = .ok (.iload_n 3, 1) := by decide +kernel
theorem dX5_turn_18 : decode cX5_turn 18 = .ok (.goto 15, 3) := by decide +kernel
theorem dX5_turn_21 : decode cX5_turn 21 = .ok (.iload_n 3, 1) := by decide +kernel
theorem dX5_turn_22 : decode cX5_turn 22 = .ok (.aload_n 0, 1) := by decide +kernel
theorem dX5_turn_23 : decode cX5_turn 23 = .ok (.getfield 15, 3) := by decide +kernel
theorem dX5_turn_26 : decode cX5_turn 26 = .ok (.getfield 48, 3) := by decide +kernel
theorem dX5_turn_29 : decode cX5_turn 29 = .ok (.iload 4, 2) := by decide +kernel
theorem dX5_turn_31 : decode cX5_turn 31 = .ok (.iaload, 1) := by decide +kernel
theorem dX5_turn_32 : decode cX5_turn 32 = .ok (.iand, 1) := by decide +kernel
theorem dX5_turn_33 : decode cX5_turn 33 = .ok (.istore 5, 2) := by decide +kernel
theorem dX5_turn_35 : decode cX5_turn 35 = .ok (.iload 5, 2) := by decide +kernel
theorem dX5_turn_37 : decode cX5_turn 37 = .ok (.iload_n 1, 1) := by decide +kernel
theorem dX5_turn_38 : decode cX5_turn 38 = .ok (.invokestatic 41, 3) := by decide +kernel
theorem dX5_turn_41 : decode cX5_turn 41 = .ok (.ifCond .eq 11, 3) := by decide +kernel
theorem dX5_turn_44 : decode cX5_turn 44 = .ok (.aload_n 0, 1) := by decide +kernel
theorem dX5_turn_45 : decode cX5_turn 45 = .ok (.iload_n 1, 1) := by decide +kernel
theorem dX5_turn_46 : decode cX5_turn 46 = .ok (.invokevirtual 51, 3) := by decide +kernel
theorem dX5_turn_49 : decode cX5_turn 49 = .ok (.goto 4, 3) := by decide +kernel
theorem dX5_turn_52 : decode cX5_turn 52 = .ok (.iconst (-1), 1) := by decide +kernel
theorem dX5_turn_53 : decode cX5_turn 53 = .ok (.istore 6, 2) := by decide +kernel
theorem dX5_turn_55 : decode cX5_turn 55 = .ok (.iconst 0, 1) := by decide +kernel
theorem dX5_turn_56 : decode cX5_turn 56 = .ok (.istore 7, 2) := by decide +kernel
theorem dX5_turn_58 : decode cX5_turn 58 = .ok (.iload 7, 2) := by decide +kernel
theorem dX5_turn_60 : decode cX5_turn 60 = .ok (.aload_n 0, 1) := by decide +kernel
theorem dX5_turn_61 : decode cX5_turn 61 = .ok (.getfield 19, 3) := by decide +kernel
theorem dX5_turn_64 : decode cX5_turn 64 = .ok (.if_icmp .ge 53, 3) := by decide +kernel
theorem dX5_turn_67 : decode cX5_turn 67 = .ok (.iload_n 2, 1) := by decide +kernel
theorem dX5_turn_68 : decode cX5_turn 68 = .ok (.ifCond .ne 12, 3) := by decide +kernel
theorem dX5_turn_71 : decode cX5_turn 71 = .ok (.aload_n 0, 1) := by decide +kernel
theorem dX5_turn_72 : decode cX5_turn 72 = .ok (.iload 6, 2) := by decide +kernel
theorem dX5_turn_74 : decode cX5_turn 74 = .ok (.invokevirtual 54, 3) := by decide +kernel
theorem dX5_turn_77 : decode cX5_turn 77 = .ok (.goto 9, 3) := by decide +kernel
theorem dX5_turn_80 : decode cX5_turn 80 = .ok (.aload_n 0, 1) := by decide +kernel
theorem dX5_turn_81 : decode cX5_turn 81 = .ok (.iload 6, 2) := by decide +kernel
theorem dX5_turn_83 : decode cX5_turn 83 = .ok (.invokevirtual 57, 3) := by decide +kernel
theorem dX5_turn_86 : decode cX5_turn 86 = .ok (.istore 6, 2) := by decide +kernel
theorem dX5_turn_88 : decode cX5_turn 88 = .ok (.iload 5, 2) := by decide +kernel
theorem dX5_turn_90 : decode cX5_turn 90 = .ok (.aload_n 0, 1) := by decide +kernel
theorem dX5_turn_91 : decode cX5_turn 91 = .ok (.getfield 9, 3) := by decide +kernel
theorem dX5_turn_94 : decode cX5_turn 94 = .ok (.iload 6, 2) := by decide +kernel
theorem dX5_turn_96 : decode cX5_turn 96 = .ok (.iaload, 1) := by decide +kernel
theorem dX5_turn_97 : decode cX5_turn 97 = .ok (.invokestatic 41, 3) := by decide +kernel
theorem dX5_turn_100 : decode cX5_turn 100 = .ok (.ifCond .eq 11, 3) := by decide +kernel
theorem dX5_turn_103 : decode cX5_turn 103 = .ok (.aload_n 0, 1) := by decide +kernel
theorem dX5_turn_104 : decode cX5_turn 104 = .ok (.getfield 9, 3) := by decide +kernel
theorem dX5_turn_107 : decode cX5_turn 107 = .ok (.iload 6, 2) := by decide +kernel
theorem dX5_turn_109 : decode cX5_turn 109 = .ok (.iaload, 1) := by decide +kernel
theorem dX5_turn_110 : decode cX5_turn 110 = .ok (.ireturn, 1) := by decide +kernel
theorem dX5_turn_111 : decode cX5_turn 111 = .ok (.iinc 7 1, 3) := by decide +kernel
theorem dX5_turn_114 : decode cX5_turn 114 = .ok (.goto (-56), 3) := by decide +kernel
theorem dX5_turn_117 : decode cX5_turn 117 = .ok (.iload_n 1, 1) := by decide +kernel
theorem dX5_turn_118 : decode cX5_turn 118 = .ok (.ireturn, 1) := by decide +kernel
theorem dX5_spotBehind_0 : decode cX5_spotBehind 0 = .ok (.iload_n 1, 1) := by decide +kernel
theorem dX5_spotBehind_1 : decode cX5_spotBehind 1 = .ok (.iconst 1, 1) := by decide +kernel
theorem dX5_spotBehind_2 : decode cX5_spotBehind 2 = .ok (.iadd, 1) := by decide +kernel
theorem dX5_spotBehind_3 : decode cX5_spotBehind 3 = .ok (.aload_n 0, 1) := by decide +kernel
theorem dX5_spotBehind_4 : decode cX5_spotBehind 4 = .ok (.getfield 19, 3) := by decide +kernel
theorem dX5_spotBehind_7 : decode cX5_spotBehind 7 = .ok (.if_icmp .ge 9, 3) := by decide +kernel
theorem dX5_spotBehind_10 : decode cX5_spotBehind 10 = .ok (.iload_n 1, 1) := by decide +kernel
theorem dX5_spotBehind_11 : decode cX5_spotBehind 11 = .ok (.iconst 1, 1) := by decide +kernel
theorem dX5_spotBehind_12 : decode cX5_spotBehind 12 = .ok (.iadd, 1) := by decide +kernel
theorem dX5_spotBehind_13 : decode cX5_spotBehind 13 = .ok (.goto 4, 3) := by decide +kernel
theorem dX5_spotBehind_16 : decode cX5_spotBehind 16 = .ok (.iconst 0, 1) := by decide +kernel
theorem dX5_spotBehind_17 : decode cX5_spotBehind 17 = .ok (.ireturn, 1) := by decide +kernel
theorem dX5_spotAhead_0 : decode cX5_spotAhead 0 = .ok (.iload_n 1, 1) := by decide +kernel
theorem dX5_spotAhead_1 : decode cX5_spotAhead 1 = .ok (.ifCond .le 9, 3) := by decide +kernel
theorem dX5_spotAhead_4 : decode cX5_spotAhead 4 = .ok (.iload_n 1, 1) := by decide +kernel
theorem dX5_spotAhead_5 : decode cX5_spotAhead 5 = .ok (.iconst 1, 1) := by decide +kernel
theorem dX5_spotAhead_6 : decode cX5_spotAhead 6 = .ok (.isub, 1) := by decide +kernel
theorem dX5_spotAhead_7 : decode cX5_spotAhead 7 = .ok (.goto 9, 3) := by decide +kernel
theorem dX5_spotAhead_10 : decode cX5_spotAhead 10 = .ok (.aload_n 0, 1) := by decide +kernel
theorem dX5_spotAhead_11 : decode cX5_spotAhead 11 = .ok (.getfield 19, 3) := by decide +kernel
theorem dX5_spotAhead_14 : decode cX5_spotAhead 14 = .ok (.iconst 1, 1) := by decide +kernel
theorem dX5_spotAhead_15 : decode cX5_spotAhead 15 = .ok (.isub, 1) := by decide +kernel
theorem dX5_spotAhead_16 : decode cX5_spotAhead 16 = .ok (.ireturn, 1) := by decide +kernel
theorem dX5_spotOf_0 : decode cX5_spotOf 0 = .ok (.iconst 0, 1) := by decide +kernel
theorem dX5_spotOf_1 : decode cX5_spotOf 1 = .ok (.istore_n 2, 1) := by decide +kernel
theorem dX5_spotOf_2 : decode cX5_spotOf 2 = .ok (.iload_n 2, 1) := by decide +kernel
theorem dX5_spotOf_3 : decode cX5_spotOf 3 = .ok (.aload_n 0, 1) := by decide +kernel
theorem dX5_spotOf_4 : decode cX5_spotOf 4 = .ok (.getfield 19, 3) := by decide +kernel
theorem dX5_spotOf_7 : decode cX5_spotOf 7 = .ok (.if_icmp .ge 21, 3) := by decide +kernel
theorem dX5_spotOf_10 : decode cX5_spotOf 10 = .ok (.aload_n 0, 1) := by decide +kernel
theorem dX5_spotOf_11 : decode cX5_spotOf 11 = .ok (.getfield 9, 3) := by decide +kernel
theorem dX5_spotOf_14 : decode cX5_spotOf 14 = .ok (.iload_n 2, 1) := by decide +kernel
theorem dX5_spotOf_15 : decode cX5_spotOf 15 = .ok (.iaload, 1) := by decide +kernel
theorem dX5_spotOf_16 : decode cX5_spotOf 16 = .ok (.iload_n 1, 1) := by decide +kernel
theorem dX5_spotOf_17 : decode cX5_spotOf 17 = .ok (.if_icmp .ne 5, 3) := by decide +kernel
theorem dX5_spotOf_20 : decode cX5_spotOf 20 = .ok (.iload_n 2, 1) := by decide +kernel
theorem dX5_spotOf_21 : decode cX5_spotOf 21 = .ok (.ireturn, 1) := by decide +kernel
theorem dX5_spotOf_22 : decode cX5_spotOf 22 = .ok (.iinc 2 1, 3) := by decide +kernel
theorem dX5_spotOf_25 : decode cX5_spotOf 25 = .ok (.goto (-23), 3) := by decide +kernel
theorem dX5_spotOf_28 : decode cX5_spotOf 28 = .ok (.iconst (-1), 1) := by decide +kernel
theorem dX5_spotOf_29 : decode cX5_spotOf 29 = .ok (.ireturn, 1) := by decide +kernel
theorem dX6_init_0 : decode cX6_init 0 = .ok (.aload_n 0, 1) := by decide +kernel
theorem dX6_init_1 : decode cX6_init 1 = .ok (.invokespecial 5, 3) := by decide +kernel
theorem dX6_init_4 : decode cX6_init 4 = .ok (.aload_n 0, 1) := by decide +kernel
theorem dX6_init_5 : decode cX6_init 5 = .ok (.bipush 6, 2) := by decide +kernel
theorem dX6_init_7 : decode cX6_init 7 = .ok (.newarray .int, 2) := by decide +kernel
theorem dX6_init_9 : decode cX6_init 9 = .ok (.putfield 11, 3) := by decide +kernel
theorem dX6_init_12 : decode cX6_init 12 = .ok (.aload_n 0, 1) := by decide +kernel
theorem dX6_init_13 : decode cX6_init 13 = .ok (.sipush 1600, 3) := by decide +kernel
theorem dX6_init_16 : decode cX6_init 16 = .ok (.newarray .int, 2) := by decide +kernel
theorem dX6_init_18 : decode cX6_init 18 = .ok (.putfield 15, 3) := by decide +kernel
theorem dX6_init_21 : decode cX6_init 21 = .ok (.aload_n 0, 1) := by decide +kernel
theorem dX6_init_22 : decode cX6_init 22 = .ok (.sipush 1600, 3) := by decide +kernel
theorem dX6_init_25 : decode cX6_init 25 = .ok (.newarray .int, 2) := by decide +kernel
theorem dX6_init_27 : decode cX6_init 27 = .ok (.putfield 18, 3) := by decide +kernel
theorem dX6_init_30 : decode cX6_init 30 = .ok (.aload_n 0, 1) := by decide +kernel
theorem dX6_init_31 : decode cX6_init 31 = .ok (.sipush 1600, 3) := by decide +kernel
theorem dX6_init_34 : decode cX6_init 34 = .ok (.newarray .int, 2) := by decide +kernel
theorem dX6_init_36 : decode cX6_init 36 = .ok (.putfield 21, 3) := by decide +kernel
theorem dX6_init_39 : decode cX6_init 39 = .ok (.aload_n 0, 1) := by decide +kernel
theorem dX6_init_40 : decode cX6_init 40 = .ok (.sipush 1600, 3) := by decide +kernel
theorem dX6_init_43 : decode cX6_init 43 = .ok (.newarray .int, 2) := by decide +kernel
theorem dX6_init_45 : decode cX6_init 45 = .ok (.putfield 24, 3) := by decide +kernel
theorem dX6_init_48 : decode cX6_init 48 = .ok (.aload_n 0, 1) := by decide +kernel
theorem dX6_init_49 : decode cX6_init 49 = .ok (.aload_n 1, 1) := by decide +kernel
theorem dX6_init_50 : decode cX6_init 50 = .ok (.putfield 27, 3) := by decide +kernel
theorem dX6_init_53 : decode cX6_init 53 = .ok (.aload_n 0, 1) := by decide +kernel
theorem dX6_init_54 : decode cX6_init 54 = .ok (.aload_n 2, 1) := by decide +kernel
theorem dX6_init_55 : decode cX6_init 55 = .ok (.putfield 31, 3) := by decide +kernel
theorem dX6_init_58 : decode cX6_init 58 = .ok (.aload_n 0, 1) := by decide +kernel
theorem dX6_init_59 : decode cX6_init 59 = .ok (.iconst 0, 1) := by decide +kernel
theorem dX6_init_60 : decode cX6_init 60 = .ok (.putfield 35, 3) := by decide +kernel
theorem dX6_init_63 : decode cX6_init 63 = .ok (.aload_n 0, 1) := by decide +kernel
theorem dX6_init_64 : decode cX6_init 64 = .ok (.iconst 0, 1) := by decide +kernel
theorem dX6_init_65 : decode cX6_init 65 = .ok (.putfield 39, 3) := by decide +kernel
theorem dX6_init_68 : decode cX6_init 68 = .ok (.aload_n 0, 1) := by decide +kernel
theorem dX6_init_69 : decode cX6_init 69 = .ok (.iconst 0, 1) := by decide +kernel
theorem dX6_init_70 : decode cX6_init 70 = .ok (.putfield 42, 3) := by decide +kernel
theorem dX6_init_73 : decode cX6_init 73 = .ok (.aload_n 0, 1) := by decide +kernel
theorem dX6_init_74 : decode cX6_init 74 = .ok (.iconst 0, 1) := by decide +kernel
theorem dX6_init_75 : decode cX6_init 75 = .ok (.putfield 45, 3) := by decide +kernel
theorem dX6_init_78 : decode cX6_init 78 = .ok (.return_, 1) := by decide +kernel
theorem dX6_lengthTo_0 : decode cX6_lengthTo 0 = .ok (.aload_n 0, 1) := by decide +kernel
theorem dX6_lengthTo_1 : decode cX6_lengthTo 1 = .ok (.iload_n 1, 1) := by decide +kernel
theorem dX6_lengthTo_2 : decode cX6_lengthTo 2 = .ok (.iconst 1, 1) := by decide +kernel
theorem dX6_lengthTo_3 : decode cX6_lengthTo 3 = .ok (.iload_n 2, 1) := by decide +kernel
theorem dX6_lengthTo_4 : decode cX6_lengthTo 4 = .ok (.ishl, 1) := by decide +kernel
theorem dX6_lengthTo_5 : decode cX6_lengthTo 5 = .ok (.invokevirtual 48, 3) := by decide +kernel
theorem dX6_lengthTo_8 : decode cX6_lengthTo 8 = .ok (.istore_n 3, 1) := by decide +kernel
theorem dX6_lengthTo_9 : decode cX6_lengthTo 9 = .ok (.iload_n 3, 1) := by decide +kernel
theorem dX6_lengthTo_10 : decode cX6_lengthTo 10 = .ok (.iconst (-1), 1) := by decide +kernel
theorem dX6_lengthTo_11 : decode cX6_lengthTo 11 = .ok (.if_icmp .ne 7, 3) := by decide +kernel
theorem dX6_lengthTo_14 : decode cX6_lengthTo 14 = .ok (.iconst (-1), 1) := by decide +kernel
theorem dX6_lengthTo_15 : decode cX6_lengthTo 15 = .ok (.goto 9, 3) := by decide +kernel
theorem dX6_lengthTo_18 : decode cX6_lengthTo 18 = .ok (.aload_n 0, 1) := by decide +kernel
theorem dX6_lengthTo_19 : decode cX6_lengthTo 19 = .ok (.getfield 18, 3) := by decide +kernel
theorem dX6_lengthTo_22 : decode cX6_lengthTo 22 = .ok (.iload_n 3, 1) := by decide +kernel
theorem dX6_lengthTo_23 : decode cX6_lengthTo 23 = .ok (.iaload, 1) := by decide +kernel
theorem dX6_lengthTo_24 : decode cX6_lengthTo 24 = .ok (.ireturn, 1) := by decide +kernel
theorem dX6_firstKeyTo_0 : decode cX6_firstKeyTo 0 = .ok (.aload_n 0, 1) := by decide +kernel
theorem dX6_firstKeyTo_1 : decode cX6_firstKeyTo 1 = .ok (.iload_n 1, 1) := by decide +kernel
theorem dX6_firstKeyTo_2 : decode cX6_firstKeyTo 2 = .ok (.iconst 1, 1) := by decide +kernel
theorem dX6_firstKeyTo_3 : decode cX6_firstKeyTo 3 = .ok (.iload_n 2, 1) := by decide +kernel
theorem dX6_firstKeyTo_4 : decode cX6_firstKeyTo 4 = .ok (.ishl, 1) := by decide +kernel
theorem dX6_firstKeyTo_5 : decode cX6_firstKeyTo 5 = .ok (.invokevirtual 48, 3) := by decide +kernel
theorem dX6_firstKeyTo_8 : decode cX6_firstKeyTo 8 = .ok (.istore_n 3, 1) := by decide +kernel
theorem dX6_firstKeyTo_9 : decode cX6_firstKeyTo 9 = .ok (.iload_n 3, 1) := by decide +kernel
theorem dX6_firstKeyTo_10 : decode cX6_firstKeyTo 10 = .ok (.iconst (-1), 1) := by decide +kernel
theorem dX6_firstKeyTo_11 : decode cX6_firstKeyTo 11 = .ok (.if_icmp .ne 7, 3) := by decide +kernel
theorem dX6_firstKeyTo_14 : decode cX6_firstKeyTo 14 = .ok (.iconst (-1), 1) := by decide +kernel
theorem dX6_firstKeyTo_15 : decode cX6_firstKeyTo 15 = .ok (.goto 9, 3) := by decide +kernel
theorem dX6_firstKeyTo_18 : decode cX6_firstKeyTo 18 = .ok (.aload_n 0, 1) := by decide +kernel
theorem dX6_firstKeyTo_19 : decode cX6_firstKeyTo 19 = .ok (.getfield 21, 3) := by decide +kernel
theorem dX6_firstKeyTo_22 : decode cX6_firstKeyTo 22 = .ok (.iload_n 3, 1) := by decide +kernel
theorem dX6_firstKeyTo_23 : decode cX6_firstKeyTo 23 = .ok (.iaload, 1) := by decide +kernel
theorem dX6_firstKeyTo_24 : decode cX6_firstKeyTo 24 = .ok (.ireturn, 1) := by decide +kernel
theorem dX6_leadOutOf_0 : decode cX6_leadOutOf 0 = .ok (.aload_n 0, 1) := by decide +kernel
theorem dX6_leadOutOf_1 : decode cX6_leadOutOf 1 = .ok (.iload_n 1, 1) := by decide +kernel
theorem dX6_leadOutOf_2 : decode cX6_leadOutOf 2 = .ok (.aload_n 0, 1) := by decide +kernel
theorem dX6_leadOutOf_3 : decode cX6_leadOutOf 3 = .ok (.getfield 27, 3) := by decide +kernel
theorem dX6_leadOutOf_6 : decode cX6_leadOutOf 6 = .ok (.getfield 52, 3) := by decide +kernel
theorem dX6_leadOutOf_9 : decode cX6_leadOutOf 9 = .ok (.iload_n 2, 1) := by decide +kernel
theorem dX6_leadOutOf_10 : decode cX6_leadOutOf 10 = .ok (.iaload, 1) := by decide +kernel
theorem dX6_leadOutOf_11 : decode cX6_leadOutOf 11 = .ok (.iconst (-1), 1) := by decide +kernel
theorem dX6_leadOutOf_12 : decode cX6_leadOutOf 12 = .ok (.ixor, 1) := by decide +kernel
theorem dX6_leadOutOf_13 : decode cX6_leadOutOf 13 = .ok (.invokevirtual 48, 3) := by decide +kernel
theorem dX6_leadOutOf_16 : decode cX6_leadOutOf 16 = .ok (.iconst (-1), 1) := by decide +kernel
theorem dX6_leadOutOf_17 : decode cX6_leadOutOf 17 = .ok (.if_icmp .eq 7, 3) := by decide +kernel
theorem dX6_leadOutOf_20 : decode cX6_leadOutOf 20 = .ok (.iconst 1, 1) := by decide +kernel
theorem dX6_leadOutOf_21 : decode cX6_leadOutOf 21 = .ok (.goto 4, 3) := by decide +kernel
theorem dX6_leadOutOf_24 : decode cX6_leadOutOf 24 = .ok (.iconst 0, 1) := by decide +kernel
theorem dX6_leadOutOf_25 : decode cX6_leadOutOf 25 = .ok (.ireturn, 1) := by decide +kernel
theorem dX6_find_0 : decode cX6_find 0 = .ok (.aload_n 0, 1) := by decide +kernel
theorem dX6_find_1 : decode cX6_find 1 = .ok (.dup, 1) := by decide +kernel
theorem dX6_find_2 : decode cX6_find 2 = .ok (.getfield 45, 3) := by decide +kernel
theorem dX6_find_5 : decode cX6_find 5 = .ok (.iconst 1, 1) := by decide +kernel
theorem dX6_find_6 : decode cX6_find 6 = .ok (.iadd, 1) := by decide +kernel
theorem dX6_find_7 : decode cX6_find 7 = .ok (.putfield 45, 3) := by decide +kernel
theorem dX6_find_10 : decode cX6_find 10 = .ok (.aload_n 0, 1) := by decide +kernel
theorem dX6_find_11 : decode cX6_find 11 = .ok (.iconst 0, 1) := by decide +kernel
theorem dX6_find_12 : decode cX6_find 12 = .ok (.putfield 42, 3) := by decide +kernel
theorem dX6_find_15 : decode cX6_find 15 = .ok (.aload_n 0, 1) := by decide +kernel
theorem dX6_find_16 : decode cX6_find 16 = .ok (.invokevirtual 57, 3) := by decide +kernel
theorem dX6_find_19 : decode cX6_find 19 = .ok (.aload_n 0, 1) := by decide +kernel
theorem dX6_find_20 : decode cX6_find 20 = .ok (.aload_n 0, 1) := by decide +kernel
theorem dX6_find_21 : decode cX6_find 21 = .ok (.invokevirtual 60, 3) := by decide +kernel
theorem dX6_find_24 : decode cX6_find 24 = .ok (.iload_n 1, 1) := by decide +kernel
theorem dX6_find_25 : decode cX6_find 25 = .ok (.iconst 0, 1) := by decide +kernel
theorem dX6_find_26 : decode cX6_find 26 = .ok (.iconst (-1), 1) := by decide +kernel
theorem dX6_find_27 : decode cX6_find 27 = .ok (.invokevirtual 64, 3) := by decide +kernel
theorem dX6_find_30 : decode cX6_find 30 = .ok (.iconst 0, 1) := by decide +kernel
theorem dX6_find_31 : decode cX6_find 31 = .ok (.istore_n 3, 1) := by decide +kernel
theorem dX6_find_32 : decode cX6_find 32 = .ok (.iload_n 3, 1) := by decide +kernel
theorem dX6_find_33 : decode cX6_find 33 = .ok (.aload_n 0, 1) := by decide +kernel
theorem dX6_find_34 : decode cX6_find 34 = .ok (.getfield 42, 3) := by decide +kernel
theorem dX6_find_37 : decode cX6_find 37 = .ok (.if_icmp .ge 39, 3) := by decide +kernel
theorem dX6_find_40 : decode cX6_find 40 = .ok (.iload_n 3, 1) := by decide +kernel
theorem dX6_find_41 : decode cX6_find 41 = .ok (.sipush 1600, 3) := by decide +kernel
theorem dX6_find_44 : decode cX6_find 44 = .ok (.if_icmp .ge 32, 3) := by decide +kernel
theorem dX6_find_47 : decode cX6_find 47 = .ok (.iload_n 2, 1) := by decide +kernel
theorem dX6_find_48 : decode cX6_find 48 = .ok (.aload_n 0, 1) := by decide +kernel
theorem dX6_find_49 : decode cX6_find 49 = .ok (.getfield 15, 3) := by decide +kernel
theorem dX6_find_52 : decode cX6_find 52 = .ok (.iload_n 3, 1) := by decide +kernel
theorem dX6_find_53 : decode cX6_find 53 = .ok (.iaload, 1) := by decide +kernel
theorem dX6_find_54 : decode cX6_find 54 = .ok (.invokestatic 68, 3) := by decide +kernel
theorem dX6_find_57 : decode cX6_find 57 = .ok (.invokestatic 72, 3) := by decide +kernel
theorem dX6_find_60 : decode cX6_find 60 = .ok (.ifCond .eq 5, 3) := by decide +kernel
theorem dX6_find_63 : decode cX6_find 63 = .ok (.iload_n 3, 1) := by decide +kernel
theorem dX6_find_64 : decode cX6_find 64 = .ok (.ireturn, 1) := by decide +kernel
theorem dX6_find_65 : decode cX6_find 65 = .ok (.aload_n 0, 1) := by decide +kernel
theorem dX6_find_66 : decode cX6_find 66 = .ok (.iload_n 3, 1) := by decide +kernel
theorem dX6_find_67 : decode cX6_find 67 = .ok (.invokevirtual 76, 3) := by decide +kernel
theorem dX6_find_70 : decode cX6_find 70 = .ok (.iinc 3 1, 3) := by decide +kernel
theorem dX6_find_73 : decode cX6_find 73 = .ok (.goto (-41), 3) := by decide +kernel
theorem dX6_find_76 : decode cX6_find 76 = .ok (.iconst (-1), 1) := by decide +kernel
theorem dX6_find_77 : decode cX6_find 77 = .ok (.ireturn, 1) := by decide +kernel
theorem dX6_takeDoors_0 : decode cX6_takeDoors 0 = .ok (.aload_n 0, 1) := by decide +kernel
theorem dX6_takeDoors_1 : decode cX6_takeDoors 1 = .ok (.getfield 27, 3) := by decide +kernel
theorem dX6_takeDoors_4 : decode cX6_takeDoors 4 = .ok (.iconst (-1), 1) := by decide +kernel
theorem dX6_takeDoors_5 : decode cX6_takeDoors 5 = .ok (.invokevirtual 80, 3) := by decide +kernel
theorem dX6_takeDoors_8 : decode cX6_takeDoors 8 = .ok (.istore_n 1, 1) := by decide +kernel
theorem dX6_takeDoors_9 : decode cX6_takeDoors 9 = .ok (.aload_n 0, 1) := by decide +kernel
theorem dX6_takeDoors_10 : decode cX6_takeDoors 10 = .ok (.iconst 0, 1) := by decide +kernel
theorem dX6_takeDoors_11 : decode cX6_takeDoors 11 = .ok (.putfield 35, 3) := by decide +kernel
theorem dX6_takeDoors_14 : decode cX6_takeDoors 14 = .ok (.iconst 0, 1) := by decide +kernel
theorem dX6_takeDoors_15 : decode cX6_takeDoors 15 = .ok (.istore_n 2, 1) := by decide +kernel
theorem dX6_takeDoors_16 : decode cX6_takeDoors 16 = .ok (.iload_n 2, 1) := by decide +kernel
theorem dX6_takeDoors_17 : decode cX6_takeDoors 17 = .ok (.aload_n 0, 1) := by decide +kernel
theorem dX6_takeDoors_18 : decode cX6_takeDoors 18 = .ok (.getfield 27, 3) := by decide +kernel
theorem dX6_takeDoors_21 : decode cX6_takeDoors 21 = .ok (.getfield 83, 3) := by decide +kernel
theorem dX6_takeDoors_24 : decode cX6_takeDoors 24 = .ok (.if_icmp .ge 46, 3) := by decide +kernel
theorem dX6_takeDoors_27 : decode cX6_takeDoors 27 = .ok (.iload_n 1, 1) := by decide +kernel
theorem dX6_takeDoors_28 : decode cX6_takeDoors 28 = .ok (.iload_n 2, 1) := by decide +kernel
theorem dX6_takeDoors_29 : decode cX6_takeDoors 29 = .ok (.invokestatic 72, 3) := by decide +kernel
theorem dX6_takeDoors_32 : decode cX6_takeDoors 32 = .ok (.ifCond .eq 32, 3) := by decide +kernel
theorem dX6_takeDoors_35 : decode cX6_takeDoors 35 = .ok (.aload_n 0, 1) := by decide +kernel
theorem dX6_takeDoors_36 : decode cX6_takeDoors 36 = .ok (.getfield 35, 3) := by decide +kernel
theorem dX6_takeDoors_39 : decode cX6_takeDoors 39 = .ok (.bipush 6, 2) := by decide +kernel
theorem dX6_takeDoors_41 : decode cX6_takeDoors 41 = .ok (.if_icmp .ge 23, 3) := by decide +kernel
theorem dX6_takeDoors_44 : decode cX6_takeDoors 44 = .ok (.aload_n 0, 1) := by decide +kernel
theorem dX6_takeDoors_45 : decode cX6_takeDoors 45 = .ok (.getfield 11, 3) := by decide +kernel
theorem dX6_takeDoors_48 : decode cX6_takeDoors 48 = .ok (.aload_n 0, 1) := by decide +kernel
theorem dX6_takeDoors_49 : decode cX6_takeDoors 49 = .ok (.getfield 35, 3) := by decide +kernel
theorem dX6_takeDoors_52 : decode cX6_takeDoors 52 = .ok (.iload_n 2, 1) := by decide +kernel
theorem dX6_takeDoors_53 : decode cX6_takeDoors 53 = .ok (.iastore, 1) := by decide +kernel
theorem dX6_takeDoors_54 : decode cX6_takeDoors 54 = .ok (.aload_n 0, 1) := by decide +kernel
theorem dX6_takeDoors_55 : decode cX6_takeDoors 55 = .ok (.dup, 1) := by decide +kernel
theorem dX6_takeDoors_56 : decode cX6_takeDoors 56 = .ok (.getfield 35, 3) := by decide +kernel
theorem dX6_takeDoors_59 : decode cX6_takeDoors 59 = .ok (.iconst 1, 1) := by decide +kernel
theorem dX6_takeDoors_60 : decode cX6_takeDoors 60 = .ok (.iadd, 1) := by decide +kernel
theorem dX6_takeDoors_61 : decode cX6_takeDoors 61 = .ok (.putfield 35, 3) := by decide +kernel
theorem dX6_takeDoors_64 : decode cX6_takeDoors 64 = .ok (.iinc 2 1, 3) := by decide +kernel
theorem dX6_takeDoors_67 : decode cX6_takeDoors 67 = .ok (.goto (-51), 3) := by decide +kernel
theorem dX6_takeDoors_70 : decode cX6_takeDoors 70 = .ok (.aload_n 0, 1) := by decide +kernel
theorem dX6_takeDoors_71 : decode cX6_takeDoors 71 = .ok (.aload_n 0, 1) := by decide +kernel
theorem dX6_takeDoors_72 : decode cX6_takeDoors 72 = .ok (.getfield 27, 3) := by decide +kernel
theorem dX6_takeDoors_75 : decode cX6_takeDoors 75 = .ok (.invokevirtual 86, 3) := by decide +kernel
theorem dX6_takeDoors_78 : decode cX6_takeDoors 78 = .ok (.iload_n 1, 1) := by decide +kernel
theorem dX6_takeDoors_79 : decode cX6_takeDoors 79 = .ok (.iconst (-1), 1) := by decide +kernel
theorem dX6_takeDoors_80 : decode cX6_takeDoors 80 = .ok (.ixor, 1) := by decide +kernel
theorem dX6_takeDoors_81 : decode cX6_takeDoors 81 = .ok (.iand, 1) := by decide +kernel
theorem dX6_takeDoors_82 : decode cX6_takeDoors 82 = .ok (.putfield 39, 3) := by decide +kernel
theorem dX6_takeDoors_85 : decode cX6_takeDoors 85 = .ok (.return_, 1) := by decide +kernel
theorem dX6_doorsShutNow_0 : decode cX6_doorsShutNow 0 = .ok (.iconst 0, 1) := by decide +kernel
theorem dX6_doorsShutNow_1 : decode cX6_doorsShutNow 1 = .ok (.istore_n 1, 1) := by decide +kernel
theorem dX6_doorsShutNow_2 : decode cX6_doorsShutNow 2 = .ok (.iconst 0, 1) := by decide +kernel
theorem dX6_doorsShutNow_3 : decode cX6_doorsShutNow 3 = .ok (.istore_n 2, 1) := by decide +kernel
theorem dX6_doorsShutNow_4 : decode cX6_doorsShutNow 4 = .ok (.iload_n 2, 1) := by decide +kernel
theorem dX6_doorsShutNow_5 : decode cX6_doorsShutNow 5 = .ok (.aload_n 0, 1) := by decide +kernel
theorem dX6_doorsShutNow_6 : decode cX6_doorsShutNow 6 = .ok (.getfield 35, 3) := by decide +kernel
theorem dX6_doorsShutNow_9 : decode cX6_doorsShutNow 9 = .ok (.if_icmp .ge 32, 3) := by decide +kernel
theorem dX6_doorsShutNow_12 : decode cX6_doorsShutNow 12 = .ok (.aload_n 0, 1) := by decide +kernel
theorem dX6_doorsShutNow_13 : decode cX6_doorsShutNow 13 = .ok (.getfield 27, 3) := by decide +kernel
theorem dX6_doorsShutNow_16 : decode cX6_doorsShutNow 16 = .ok (.aload_n 0, 1) := by decide +kernel
theorem dX6_doorsShutNow_17 : decode cX6_doorsShutNow 17 = .ok (.getfield 11, 3) := by decide +kernel
theorem dX6_doorsShutNow_20 : decode cX6_doorsShutNow 20 = .ok (.iload_n 2, 1) := by decide +kernel
theorem dX6_doorsShutNow_21 : decode cX6_doorsShutNow 21 = .ok (.iaload, 1) := by decide +kernel
theorem dX6_doorsShutNow_22 : decode cX6_doorsShutNow 22 = .ok (.iconst 5, 1) := by decide +kernel
theorem dX6_doorsShutNow_23 : decode cX6_doorsShutNow 23 = .ok (.invokevirtual 89, 3) := by decide +kernel
theorem dX6_doorsShutNow_26 : decode cX6_doorsShutNow 26 = .ok (.ifCond .eq 9, 3) := by decide +kernel
theorem dX6_doorsShutNow_29 : decode cX6_doorsShutNow 29 = .ok (.iload_n 1, 1) := by decide +kernel
theorem dX6_doorsShutNow_30 : decode cX6_doorsShutNow 30 = .ok (.iconst 1, 1) := by decide +kernel
theorem dX6_doorsShutNow_31 : decode cX6_doorsShutNow 31 = .ok (.iload_n 2, 1) := by decide +kernel
theorem dX6_doorsShutNow_32 : decode cX6_doorsShutNow 32 = .ok (.ishl, 1) := by decide +kernel
theorem dX6_doorsShutNow_33 : decode cX6_doorsShutNow 33 = .ok (.ior, 1) := by decide +kernel
theorem dX6_doorsShutNow_34 : decode cX6_doorsShutNow 34 = .ok (.istore_n 1, 1) := by decide +kernel
theorem dX6_doorsShutNow_35 : decode cX6_doorsShutNow 35 = .ok (.iinc 2 1, 3) := by decide +kernel
theorem dX6_doorsShutNow_38 : decode cX6_doorsShutNow 38 = .ok (.goto (-34), 3) := by decide +kernel
theorem dX6_doorsShutNow_41 : decode cX6_doorsShutNow 41 = .ok (.iload_n 1, 1) := by decide +kernel
theorem dX6_doorsShutNow_42 : decode cX6_doorsShutNow 42 = .ok (.ireturn, 1) := by decide +kernel
theorem dX6_shownIf_0 : decode cX6_shownIf 0 = .ok (.aload_n 0, 1) := by decide +kernel
theorem dX6_shownIf_1 : decode cX6_shownIf 1 = .ok (.getfield 39, 3) := by decide +kernel
theorem dX6_shownIf_4 : decode cX6_shownIf 4 = .ok (.istore_n 2, 1) := by decide +kernel
theorem dX6_shownIf_5 : decode cX6_shownIf 5 = .ok (.iconst 0, 1) := by decide +kernel
theorem dX6_shownIf_6 : decode cX6_shownIf 6 = .ok (.istore_n 3, 1) := by decide +kernel
theorem dX6_shownIf_7 : decode cX6_shownIf 7 = .ok (.iload_n 3, 1) := by decide +kernel
theorem dX6_shownIf_8 : decode cX6_shownIf 8 = .ok (.aload_n 0, 1) := by decide +kernel
theorem dX6_shownIf_9 : decode cX6_shownIf 9 = .ok (.getfield 35, 3) := by decide +kernel
theorem dX6_shownIf_12 : decode cX6_shownIf 12 = .ok (.if_icmp .ge 28, 3) := by decide +kernel
theorem dX6_shownIf_15 : decode cX6_shownIf 15 = .ok (.iload_n 1, 1) := by decide +kernel
theorem dX6_shownIf_16 : decode cX6_shownIf 16 = .ok (.iload_n 3, 1) := by decide +kernel
theorem dX6_shownIf_17 : decode cX6_shownIf 17 = .ok (.ishr, 1) := by decide +kernel
theorem dX6_shownIf_18 : decode cX6_shownIf 18 = .ok (.iconst 1, 1) := by decide +kernel
theorem dX6_shownIf_19 : decode cX6_shownIf 19 = .ok (.iand, 1) := by decide +kernel
theorem dX6_shownIf_20 : decode cX6_shownIf 20 = .ok (.ifCond .eq 14, 3) := by decide +kernel
theorem dX6_shownIf_23 : decode cX6_shownIf 23 = .ok (.iload_n 2, 1) := by decide +kernel
theorem dX6_shownIf_24 : decode cX6_shownIf 24 = .ok (.iconst 1, 1) := by decide +kernel
theorem dX6_shownIf_25 : decode cX6_shownIf 25 = .ok (.aload_n 0, 1) := by decide +kernel
theorem dX6_shownIf_26 : decode cX6_shownIf 26 = .ok (.getfield 11, 3) := by decide +kernel
theorem dX6_shownIf_29 : decode cX6_shownIf 29 = .ok (.iload_n 3, 1) := by decide +kernel
theorem dX6_shownIf_30 : decode cX6_shownIf 30 = .ok (.iaload, 1) := by decide +kernel
theorem dX6_shownIf_31 : decode cX6_shownIf 31 = .ok (.ishl, 1) := by decide +kernel
theorem dX6_shownIf_32 : decode cX6_shownIf 32 = .ok (.ior, 1) := by decide +kernel
theorem dX6_shownIf_33 : decode cX6_shownIf 33 = .ok (.istore_n 2, 1) := by decide +kernel
theorem dX6_shownIf_34 : decode cX6_shownIf 34 = .ok (.iinc 3 1, 3) := by decide +kernel
theorem dX6_shownIf_37 : decode cX6_shownIf 37 = .ok (.goto (-30), 3) := by decide +kernel
theorem dX6_shownIf_40 : decode cX6_shownIf 40 = .ok (.aload_n 0, 1) := by decide +kernel
theorem dX6_shownIf_41 : decode cX6_shownIf 41 = .ok (.getfield 27, 3) := by decide +kernel
theorem dX6_shownIf_44 : decode cX6_shownIf 44 = .ok (.iload_n 2, 1) := by decide +kernel
theorem dX6_shownIf_45 : decode cX6_shownIf 45 = .ok (.invokevirtual 92, 3) := by decide +kernel
theorem dX6_shownIf_48 : decode cX6_shownIf 48 = .ok (.ireturn, 1) := by decide +kernel
theorem dX6_focusIn_0 : decode cX6_focusIn 0 = .ok (.iload_n 0, 1) := by decide +kernel
theorem dX6_focusIn_1 : decode cX6_focusIn 1 = .ok (.bipush 25, 2) := by decide +kernel
theorem dX6_focusIn_3 : decode cX6_focusIn 3 = .ok (.irem, 1) := by decide +kernel
theorem dX6_focusIn_4 : decode cX6_focusIn 4 = .ok (.iconst 1, 1) := by decide +kernel
theorem dX6_focusIn_5 : decode cX6_focusIn 5 = .ok (.isub, 1) := by decide +kernel
theorem dX6_focusIn_6 : decode cX6_focusIn 6 = .ok (.ireturn, 1) := by decide +kernel
theorem dX6_pressAllKeys_0 : decode cX6_pressAllKeys 0 = .ok (.aload_n 0, 1) := by decide +kernel
theorem dX6_pressAllKeys_1 : decode cX6_pressAllKeys 1 = .ok (.getfield 15, 3) := by decide +kernel
theorem dX6_pressAllKeys_4 : decode cX6_pressAllKeys 4 = .ok (.iload_n 1, 1) := by decide +kernel
theorem dX6_pressAllKeys_5 : decode cX6_pressAllKeys 5 = .ok (.iaload, 1) := by decide +kernel
theorem dX6_pressAllKeys_6 : decode cX6_pressAllKeys 6 = .ok (.invokestatic 68, 3) := by decide +kernel
theorem dX6_pressAllKeys_9 : decode cX6_pressAllKeys 9 = .ok (.istore_n 2, 1) := by decide +kernel
theorem dX6_pressAllKeys_10 : decode cX6_pressAllKeys 10 = .ok (.aload_n 0, 1) := by decide +kernel
theorem dX6_pressAllKeys_11 : decode cX6_pressAllKeys 11 = .ok (.getfield 15, 3) := by decide +kernel
theorem dX6_pressAllKeys_14 : decode cX6_pressAllKeys 14 = .ok (.iload_n 1, 1) := by decide +kernel
theorem dX6_pressAllKeys_15 : decode cX6_pressAllKeys 15 = .ok (.iaload, 1) := by decide +kernel
theorem dX6_pressAllKeys_16 : decode cX6_pressAllKeys 16 = .ok (.bipush 25, 2) := by decide +kernel
theorem dX6_pressAllKeys_18 : decode cX6_pressAllKeys 18 = .ok (.idiv, 1) := by decide +kernel
theorem dX6_pressAllKeys_19 : decode cX6_pressAllKeys 19 = .ok (.istore_n 3, 1) := by decide +kernel
theorem dX6_pressAllKeys_20 : decode cX6_pressAllKeys 20 = .ok (.aload_n 0, 1) := by decide +kernel
theorem dX6_pressAllKeys_21 : decode cX6_pressAllKeys 21 = .ok (.iload_n 3, 1) := by decide +kernel
theorem dX6_pressAllKeys_22 : decode cX6_pressAllKeys 22 = .ok (.invokevirtual 95, 3) := by decide +kernel
theorem dX6_pressAllKeys_25 : decode cX6_pressAllKeys 25 = .ok (.istore 4, 2) := by decide +kernel
theorem dX6_pressAllKeys_27 : decode cX6_pressAllKeys 27 = .ok (.aload_n 0, 1) := by decide +kernel
theorem dX6_pressAllKeys_28 : decode cX6_pressAllKeys 28 = .ok (.iload_n 1, 1) := by decide +kernel
theorem dX6_pressAllKeys_29 : decode cX6_pressAllKeys 29 = .ok (.iconst 0, 1) := by decide +kernel
theorem dX6_pressAllKeys_30 : decode cX6_pressAllKeys 30 = .ok (.iload_n 3, 1) := by decide +kernel
theorem dX6_pressAllKeys_31 : decode cX6_pressAllKeys 31 = .ok (.aload_n 0, 1) := by decide +kernel
theorem dX6_pressAllKeys_32 : decode cX6_pressAllKeys 32 = .ok (.getfield 31, 3) := by decide +kernel
theorem dX6_pressAllKeys_35 : decode cX6_pressAllKeys 35 = .ok (.iload_n 2, 1) := by decide +kernel
theorem dX6_pressAllKeys_36 : decode cX6_pressAllKeys 36 = .ok (.iconst 0, 1) := by decide +kernel
theorem dX6_pressAllKeys_37 : decode cX6_pressAllKeys 37 = .ok (.iload 4, 2) := by decide +kernel
theorem dX6_pressAllKeys_39 : decode cX6_pressAllKeys 39 = .ok (.invokevirtual 98, 3) := by decide +kernel
theorem dX6_pressAllKeys_42 : decode cX6_pressAllKeys 42 = .ok (.invokevirtual 104, 3) := by decide +kernel
theorem dX6_pressAllKeys_45 : decode cX6_pressAllKeys 45 = .ok (.aload_n 0, 1) := by decide +kernel
theorem dX6_pressAllKeys_46 : decode cX6_pressAllKeys 46 = .ok (.iload_n 1, 1) := by decide +kernel
theorem dX6_pressAllKeys_47 : decode cX6_pressAllKeys 47 = .ok (.iconst 1, 1) := by decide +kernel
theorem dX6_pressAllKeys_48 : decode cX6_pressAllKeys 48 = .ok (.iload_n 3, 1) := by decide +kernel
theorem dX6_pressAllKeys_49 : decode cX6_pressAllKeys 49 = .ok (.aload_n 0, 1) := by decide +kernel
theorem dX6_pressAllKeys_50 : decode cX6_pressAllKeys 50 = .ok (.getfield 31, 3) := by decide +kernel
theorem dX6_pressAllKeys_53 : decode cX6_pressAllKeys 53 = .ok (.iload_n 2, 1) := by decide +kernel
theorem dX6_pressAllKeys_54 : decode cX6_pressAllKeys 54 = .ok (.iconst 1, 1) := by decide +kernel
theorem dX6_pressAllKeys_55 : decode cX6_pressAllKeys 55 = .ok (.iload 4, 2) := by decide +kernel
theorem dX6_pressAllKeys_57 : decode cX6_pressAllKeys 57 = .ok (.invokevirtual 98, 3) := by decide +kernel
theorem dX6_pressAllKeys_60 : decode cX6_pressAllKeys 60 = .ok (.invokevirtual 104, 3) := by decide +kernel
theorem dX6_pressAllKeys_63 : decode cX6_pressAllKeys 63 = .ok (.aload_n 0, 1) := by decide +kernel
theorem dX6_pressAllKeys_64 : decode cX6_pressAllKeys 64 = .ok (.iload_n 2, 1) := by decide +kernel
theorem dX6_pressAllKeys_65 : decode cX6_pressAllKeys 65 = .ok (.invokevirtual 107, 3) := by decide +kernel
theorem dX6_pressAllKeys_68 : decode cX6_pressAllKeys 68 = .ok (.istore 5, 2) := by decide +kernel
theorem dX6_pressAllKeys_70 : decode cX6_pressAllKeys 70 = .ok (.iload 5, 2) := by decide +kernel
theorem dX6_pressAllKeys_72 : decode cX6_pressAllKeys 72 = .ok (.iconst (-1), 1) := by decide +kernel
theorem dX6_pressAllKeys_73 : decode cX6_pressAllKeys 73 = .ok (.if_icmp .eq 37, 3) := by decide +kernel
theorem dX6_pressAllKeys_76 : decode cX6_pressAllKeys 76 = .ok (.iload_n 3, 1) := by decide +kernel
theorem dX6_pressAllKeys_77 : decode cX6_pressAllKeys 77 = .ok (.iconst 1, 1) := by decide +kernel
theorem dX6_pressAllKeys_78 : decode cX6_pressAllKeys 78 = .ok (.iload 5, 2) := by decide +kernel
theorem dX6_pressAllKeys_80 : decode cX6_pressAllKeys 80 = .ok (.ishl, 1) := by decide +kernel
theorem dX6_pressAllKeys_81 : decode cX6_pressAllKeys 81 = .ok (.ixor, 1) := by decide +kernel
theorem dX6_pressAllKeys_82 : decode cX6_pressAllKeys 82 = .ok (.istore 6, 2) := by decide +kernel
theorem dX6_pressAllKeys_84 : decode cX6_pressAllKeys 84 = .ok (.aload_n 0, 1) := by decide +kernel
theorem dX6_pressAllKeys_85 : decode cX6_pressAllKeys 85 = .ok (.iload_n 1, 1) := by decide +kernel
theorem dX6_pressAllKeys_86 : decode cX6_pressAllKeys 86 = .ok (.iconst 2, 1) := by decide +kernel
theorem dX6_pressAllKeys_87 : decode cX6_pressAllKeys 87 = .ok (.iload 6, 2) := by decide +kernel
theorem dX6_pressAllKeys_89 : decode cX6_pressAllKeys 89 = .ok (.aload_n 0, 1) := by decide +kernel
theorem dX6_pressAllKeys_90 : decode cX6_pressAllKeys 90 = .ok (.iload 6, 2) := by decide +kernel
theorem dX6_pressAllKeys_92 : decode cX6_pressAllKeys 92 = .ok (.invokevirtual 95, 3) := by decide +kernel
theorem dX6_pressAllKeys_95 : decode cX6_pressAllKeys 95 = .ok (.iload_n 2, 1) := by decide +kernel
theorem dX6_pressAllKeys_96 : decode cX6_pressAllKeys 96 = .ok (.invokestatic 72, 3) := by decide +kernel
theorem dX6_pressAllKeys_99 : decode cX6_pressAllKeys 99 = .ok (.ifCond .eq 7, 3) := by decide +kernel
theorem dX6_pressAllKeys_102 : decode cX6_pressAllKeys 102 = .ok (.iload_n 2, 1) := by decide +kernel
theorem dX6_pressAllKeys_103 : decode cX6_pressAllKeys 103 = .ok (.goto 4, 3) := by decide +kernel
theorem dX6_pressAllKeys_106 : decode cX6_pressAllKeys 106 = .ok (.iconst (-1), 1) := by decide +kernel
theorem dX6_pressAllKeys_107 : decode cX6_pressAllKeys 107 = .ok (.invokevirtual 104, 3) := by decide +kernel
theorem dX6_pressAllKeys_110 : decode cX6_pressAllKeys 110 = .ok (.return_, 1) := by decide +kernel
theorem dX6_doorOf_0 : decode cX6_doorOf 0 = .ok (.aload_n 0, 1) := by decide +kernel
theorem dX6_doorOf_1 : decode cX6_doorOf 1 = .ok (.getfield 27, 3) := by decide +kernel
theorem dX6_doorOf_4 : decode cX6_doorOf 4 = .ok (.iload_n 1, 1) := by decide +kernel
theorem dX6_doorOf_5 : decode cX6_doorOf 5 = .ok (.invokevirtual 110, 3) := by decide +kernel
theorem dX6_doorOf_8 : decode cX6_doorOf 8 = .ok (.istore_n 2, 1) := by decide +kernel
theorem dX6_doorOf_9 : decode cX6_doorOf 9 = .ok (.iconst 0, 1) := by decide +kernel
theorem dX6_doorOf_10 : decode cX6_doorOf 10 = .ok (.istore_n 3, 1) := by decide +kernel
theorem dX6_doorOf_11 : decode cX6_doorOf 11 = .ok (.iload_n 3, 1) := by decide +kernel
theorem dX6_doorOf_12 : decode cX6_doorOf 12 = .ok (.aload_n 0, 1) := by decide +kernel
theorem dX6_doorOf_13 : decode cX6_doorOf 13 = .ok (.getfield 35, 3) := by decide +kernel
theorem dX6_doorOf_16 : decode cX6_doorOf 16 = .ok (.if_icmp .ge 21, 3) := by decide +kernel
theorem dX6_doorOf_19 : decode cX6_doorOf 19 = .ok (.aload_n 0, 1) := by decide +kernel
theorem dX6_doorOf_20 : decode cX6_doorOf 20 = .ok (.getfield 11, 3) := by decide +kernel
theorem dX6_doorOf_23 : decode cX6_doorOf 23 = .ok (.iload_n 3, 1) := by decide +kernel
theorem dX6_doorOf_24 : decode cX6_doorOf 24 = .ok (.iaload, 1) := by decide +kernel
theorem dX6_doorOf_25 : decode cX6_doorOf 25 = .ok (.iload_n 2, 1) := by decide +kernel
theorem dX6_doorOf_26 : decode cX6_doorOf 26 = .ok (.if_icmp .ne 5, 3) := by decide +kernel
theorem dX6_doorOf_29 : decode cX6_doorOf 29 = .ok (.iload_n 3, 1) := by decide +kernel
theorem dX6_doorOf_30 : decode cX6_doorOf 30 = .ok (.ireturn, 1) := by decide +kernel
theorem dX6_doorOf_31 : decode cX6_doorOf 31 = .ok (.iinc 3 1, 3) := by decide +kernel
theorem dX6_doorOf_34 : decode cX6_doorOf 34 = .ok (.goto (-23), 3) := by decide +kernel
theorem dX6_doorOf_37 : decode cX6_doorOf 37 = .ok (.iconst (-1), 1) := by decide +kernel
theorem dX6_doorOf_38 : decode cX6_doorOf 38 = .ok (.ireturn, 1) := by decide +kernel
theorem dX6_comeFrom_0 : decode cX6_comeFrom 0 = .ok (.aload_n 0, 1) := by decide +kernel
theorem dX6_comeFrom_1 : decode cX6_comeFrom 1 = .ok (.iload_n 3, 1) := by decide +kernel
theorem dX6_comeFrom_2 : decode cX6_comeFrom 2 = .ok (.iload 4, 2) := by decide +kernel
theorem dX6_comeFrom_4 : decode cX6_comeFrom 4 = .ok (.aload_n 0, 1) := by decide +kernel
theorem dX6_comeFrom_5 : decode cX6_comeFrom 5 = .ok (.getfield 18, 3) := by decide +kernel
theorem dX6_comeFrom_8 : decode cX6_comeFrom 8 = .ok (.iload_n 1, 1) := by decide +kernel
theorem dX6_comeFrom_9 : decode cX6_comeFrom 9 = .ok (.iaload, 1) := by decide +kernel
theorem dX6_comeFrom_10 : decode cX6_comeFrom 10 = .ok (.iconst 1, 1) := by decide +kernel
theorem dX6_comeFrom_11 : decode cX6_comeFrom 11 = .ok (.iadd, 1) := by decide +kernel
theorem dX6_comeFrom_12 : decode cX6_comeFrom 12 = .ok (.aload_n 0, 1) := by decide +kernel
theorem dX6_comeFrom_13 : decode cX6_comeFrom 13 = .ok (.getfield 18, 3) := by decide +kernel
theorem dX6_comeFrom_16 : decode cX6_comeFrom 16 = .ok (.iload_n 1, 1) := by decide +kernel
theorem dX6_comeFrom_17 : decode cX6_comeFrom 17 = .ok (.iaload, 1) := by decide +kernel
theorem dX6_comeFrom_18 : decode cX6_comeFrom 18 = .ok (.ifCond .ne 7, 3) := by decide +kernel
theorem dX6_comeFrom_21 : decode cX6_comeFrom 21 = .ok (.iload_n 2, 1) := by decide +kernel
theorem dX6_comeFrom_22 : decode cX6_comeFrom 22 = .ok (.goto 9, 3) := by decide +kernel
theorem dX6_comeFrom_25 : decode cX6_comeFrom 25 = .ok (.aload_n 0, 1) := by decide +kernel
theorem dX6_comeFrom_26 : decode cX6_comeFrom 26 = .ok (.getfield 21, 3) := by decide +kernel
theorem dX6_comeFrom_29 : decode cX6_comeFrom 29 = .ok (.iload_n 1, 1) := by decide +kernel
theorem dX6_comeFrom_30 : decode cX6_comeFrom 30 = .ok (.iaload, 1) := by decide +kernel
theorem dX6_comeFrom_31 : decode cX6_comeFrom 31 = .ok (.invokevirtual 64, 3) := by decide +kernel
theorem dX6_comeFrom_34 : decode cX6_comeFrom 34 = .ok (.return_, 1) := by decide +kernel
theorem dX6_come_0 : decode cX6_come 0 = .ok (.iload_n 1, 1) := by decide +kernel
theorem dX6_come_1 : decode cX6_come 1 = .ok (.bipush 25, 2) := by decide +kernel
theorem dX6_come_3 : decode cX6_come 3 = .ok (.imul, 1) := by decide +kernel
theorem dX6_come_4 : decode cX6_come 4 = .ok (.iload_n 2, 1) := by decide +kernel
theorem dX6_come_5 : decode cX6_come 5 = .ok (.iadd, 1) := by decide +kernel
theorem dX6_come_6 : decode cX6_come 6 = .ok (.iconst 1, 1) := by decide +kernel
theorem dX6_come_7 : decode cX6_come 7 = .ok (.iadd, 1) := by decide +kernel
theorem dX6_come_8 : decode cX6_come 8 = .ok (.istore 5, 2) := by decide +kernel
theorem dX6_come_10 : decode cX6_come 10 = .ok (.aload_n 0, 1) := by decide +kernel
theorem dX6_come_11 : decode cX6_come 11 = .ok (.getfield 24, 3) := by decide +kernel
theorem dX6_come_14 : decode cX6_come 14 = .ok (.iload 5, 2) := by decide +kernel
theorem dX6_come_16 : decode cX6_come 16 = .ok (.iaload, 1) := by decide +kernel
theorem dX6_come_17 : decode cX6_come 17 = .ok (.aload_n 0, 1) := by decide +kernel
theorem dX6_come_18 : decode cX6_come 18 = .ok (.getfield 45, 3) := by decide +kernel
theorem dX6_come_21 : decode cX6_come 21 = .ok (.if_icmp .eq 66, 3) := by decide +kernel
theorem dX6_come_24 : decode cX6_come 24 = .ok (.aload_n 0, 1) := by decide +kernel
theorem dX6_come_25 : decode cX6_come 25 = .ok (.getfield 42, 3) := by decide +kernel
theorem dX6_come_28 : decode cX6_come 28 = .ok (.sipush 1600, 3) := by decide +kernel
theorem dX6_come_31 : decode cX6_come 31 = .ok (.if_icmp .ge 56, 3) := by decide +kernel
theorem dX6_come_34 : decode cX6_come 34 = .ok (.aload_n 0, 1) := by decide +kernel
theorem dX6_come_35 : decode cX6_come 35 = .ok (.getfield 24, 3) := by decide +kernel
theorem dX6_come_38 : decode cX6_come 38 = .ok (.iload 5, 2) := by decide +kernel
theorem dX6_come_40 : decode cX6_come 40 = .ok (.aload_n 0, 1) := by decide +kernel
theorem dX6_come_41 : decode cX6_come 41 = .ok (.getfield 45, 3) := by decide +kernel
theorem dX6_come_44 : decode cX6_come 44 = .ok (.iastore, 1) := by decide +kernel
theorem dX6_come_45 : decode cX6_come 45 = .ok (.aload_n 0, 1) := by decide +kernel
theorem dX6_come_46 : decode cX6_come 46 = .ok (.getfield 15, 3) := by decide +kernel
theorem dX6_come_49 : decode cX6_come 49 = .ok (.aload_n 0, 1) := by decide +kernel
theorem dX6_come_50 : decode cX6_come 50 = .ok (.getfield 42, 3) := by decide +kernel
theorem dX6_come_53 : decode cX6_come 53 = .ok (.iload 5, 2) := by decide +kernel
theorem dX6_come_55 : decode cX6_come 55 = .ok (.iastore, 1) := by decide +kernel
theorem dX6_come_56 : decode cX6_come 56 = .ok (.aload_n 0, 1) := by decide +kernel
theorem dX6_come_57 : decode cX6_come 57 = .ok (.getfield 18, 3) := by decide +kernel
theorem dX6_come_60 : decode cX6_come 60 = .ok (.aload_n 0, 1) := by decide +kernel
theorem dX6_come_61 : decode cX6_come 61 = .ok (.getfield 42, 3) := by decide +kernel
theorem dX6_come_64 : decode cX6_come 64 = .ok (.iload_n 3, 1) := by decide +kernel
theorem dX6_come_65 : decode cX6_come 65 = .ok (.iastore, 1) := by decide +kernel
theorem dX6_come_66 : decode cX6_come 66 = .ok (.aload_n 0, 1) := by decide +kernel
theorem dX6_come_67 : decode cX6_come 67 = .ok (.getfield 21, 3) := by decide +kernel
theorem dX6_come_70 : decode cX6_come 70 = .ok (.aload_n 0, 1) := by decide +kernel
theorem dX6_come_71 : decode cX6_come 71 = .ok (.getfield 42, 3) := by decide +kernel
theorem dX6_come_74 : decode cX6_come 74 = .ok (.iload 4, 2) := by decide +kernel
theorem dX6_come_76 : decode cX6_come 76 = .ok (.iastore, 1) := by decide +kernel
theorem dX6_come_77 : decode cX6_come 77 = .ok (.aload_n 0, 1) := by decide +kernel
theorem dX6_come_78 : decode cX6_come 78 = .ok (.dup, 1) := by decide +kernel
theorem dX6_come_79 : decode cX6_come 79 = .ok (.getfield 42, 3) := by decide +kernel
theorem dX6_come_82 : decode cX6_come 82 = .ok (.iconst 1, 1) := by decide +kernel
theorem dX6_come_83 : decode cX6_come 83 = .ok (.iadd, 1) := by decide +kernel
theorem dX6_come_84 : decode cX6_come 84 = .ok (.putfield 42, 3) := by decide +kernel
theorem dX6_come_87 : decode cX6_come 87 = .ok (.return_, 1) := by decide +kernel
theorem dX7_init_0 : decode cX7_init 0 = .ok (.aload_n 0, 1) := by decide +kernel
theorem dX7_init_1 : decode cX7_init 1 = .ok (.invokespecial 1, 3) := by decide +kernel
theorem dX7_init_4 : decode cX7_init 4 = .ok (.aload_n 0, 1) := by decide +kernel
theorem dX7_init_5 : decode cX7_init 5 = .ok (.new 7, 3) := by decide +kernel
theorem dX7_init_8 : decode cX7_init 8 = .ok (.dup, 1) := by decide +kernel
theorem dX7_init_9 : decode cX7_init 9 = .ok (.invokespecial 9, 3) := by decide +kernel
theorem dX7_init_12 : decode cX7_init 12 = .ok (.putfield 10, 3) := by decide +kernel
theorem dX7_init_15 : decode cX7_init 15 = .ok (.aload_n 0, 1) := by decide +kernel
theorem dX7_init_16 : decode cX7_init 16 = .ok (.new 16, 3) := by decide +kernel
theorem dX7_init_19 : decode cX7_init 19 = .ok (.dup, 1) := by decide +kernel
theorem dX7_init_20 : decode cX7_init 20 = .ok (.aload_n 0, 1) := by decide +kernel
theorem dX7_init_21 : decode cX7_init 21 = .ok (.getfield 10, 3) := by decide +kernel
theorem dX7_init_24 : decode cX7_init 24 = .ok (.invokespecial 18, 3) := by decide +kernel
theorem dX7_init_27 : decode cX7_init 27 = .ok (.putfield 21, 3) := by decide +kernel
theorem dX7_init_30 : decode cX7_init 30 = .ok (.aload_n 0, 1) := by decide +kernel
theorem dX7_init_31 : decode cX7_init 31 = .ok (.new 25, 3) := by decide +kernel
theorem dX7_init_34 : decode cX7_init 34 = .ok (.dup, 1) := by decide +kernel
theorem dX7_init_35 : decode cX7_init 35 = .ok (.aload_n 0, 1) := by decide +kernel
theorem dX7_init_36 : decode cX7_init 36 = .ok (.getfield 10, 3) := by decide +kernel
theorem dX7_init_39 : decode cX7_init 39 = .ok (.invokespecial 27, 3) := by decide +kernel
theorem dX7_init_42 : decode cX7_init 42 = .ok (.putfield 28, 3) := by decide +kernel
theorem dX7_init_45 : decode cX7_init 45 = .ok (.aload_n 0, 1) := by decide +kernel
theorem dX7_init_46 : decode cX7_init 46 = .ok (.new 32, 3) := by decide +kernel
theorem dX7_init_49 : decode cX7_init 49 = .ok (.dup, 1) := by decide +kernel
theorem dX7_init_50 : decode cX7_init 50 = .ok (.aload_n 0, 1) := by decide +kernel
theorem dX7_init_51 : decode cX7_init 51 = .ok (.getfield 10, 3) := by decide +kernel
theorem dX7_init_54 : decode cX7_init 54 = .ok (.invokespecial 34, 3) := by decide +kernel
theorem dX7_init_57 : decode cX7_init 57 = .ok (.putfield 35, 3) := by decide +kernel
theorem dX7_init_60 : decode cX7_init 60 = .ok (.aload_n 0, 1) := by decide +kernel
theorem dX7_init_61 : decode cX7_init 61 = .ok (.new 39, 3) := by decide +kernel
theorem dX7_init_64 : decode cX7_init 64 = .ok (.dup, 1) := by decide +kernel
theorem dX7_init_65 : decode cX7_init 65 = .ok (.aload_n 0, 1) := by decide +kernel
theorem dX7_init_66 : decode cX7_init 66 = .ok (.getfield 10, 3) := by decide +kernel
theorem dX7_init_69 : decode cX7_init 69 = .ok (.aload_n 0, 1) := by decide +kernel
theorem dX7_init_70 : decode cX7_init 70 = .ok (.getfield 35, 3) := by decide +kernel
theorem dX7_init_73 : decode cX7_init 73 = .ok (.invokespecial 41, 3) := by decide +kernel
theorem dX7_init_76 : decode cX7_init 76 = .ok (.putfield 44, 3) := by decide +kernel
theorem dX7_init_79 : decode cX7_init 79 = .ok (.aload_n 0, 1) := by decide +kernel
theorem dX7_init_80 : decode cX7_init 80 = .ok (.new 48, 3) := by decide +kernel
theorem dX7_init_83 : decode cX7_init 83 = .ok (.dup, 1) := by decide +kernel
theorem dX7_init_84 : decode cX7_init 84 = .ok (.aload_n 0, 1) := by decide +kernel
theorem dX7_init_85 : decode cX7_init 85 = .ok (.getfield 10, 3) := by decide +kernel
theorem dX7_init_88 : decode cX7_init 88 = .ok (.aload_n 0, 1) := by decide +kernel
theorem dX7_init_89 : decode cX7_init 89 = .ok (.getfield 21, 3) := by decide +kernel
theorem dX7_init_92 : decode cX7_init 92 = .ok (.aload_n 0, 1) := by decide +kernel
theorem dX7_init_93 : decode cX7_init 93 = .ok (.getfield 28, 3) := by decide +kernel
theorem dX7_init_96 : decode cX7_init 96 = .ok (.invokespecial 50, 3) := by decide +kernel
theorem dX7_init_99 : decode cX7_init 99 = .ok (.putfield 53, 3) := by decide +kernel
theorem dX7_init_102 : decode cX7_init 102 = .ok (.aload_n 0, 1) := by decide +kernel
theorem dX7_init_103 : decode cX7_init 103 = .ok (.new 57, 3) := by decide +kernel
theorem dX7_init_106 : decode cX7_init 106 = .ok (.dup, 1) := by decide +kernel
theorem dX7_init_107 : decode cX7_init 107 = .ok (.invokespecial 59, 3) := by decide +kernel
theorem dX7_init_110 : decode cX7_init 110 = .ok (.putfield 60, 3) := by decide +kernel
theorem dX7_init_113 : decode cX7_init 113 = .ok (.aload_n 0, 1) := by decide +kernel
theorem dX7_init_114 : decode cX7_init 114 = .ok (.iconst (-1), 1) := by decide +kernel
theorem dX7_init_115 : decode cX7_init 115 = .ok (.putfield 64, 3) := by decide +kernel
theorem dX7_init_118 : decode cX7_init 118 = .ok (.return_, 1) := by decide +kernel
theorem dX7_part_0 : decode cX7_part 0 = .ok (.aload_n 0, 1) := by decide +kernel
theorem dX7_part_1 : decode cX7_part 1 = .ok (.getfield 10, 3) := by decide +kernel
theorem dX7_part_4 : decode cX7_part 4 = .ok (.iload_n 1, 1) := by decide +kernel
theorem dX7_part_5 : decode cX7_part 5 = .ok (.invokevirtual 68, 3) := by decide +kernel
theorem dX7_part_8 : decode cX7_part 8 = .ok (.ifCond .ne 6, 3) := by decide +kernel
theorem dX7_part_11 : decode cX7_part 11 = .ok (.bipush (-101), 2) := by decide +kernel
theorem dX7_part_13 : decode cX7_part 13 = .ok (.ireturn, 1) := by decide +kernel
theorem dX7_part_14 : decode cX7_part 14 = .ok (.iload_n 2, 1) := by decide +kernel
theorem dX7_part_15 : decode cX7_part 15 = .ok (.ifCond .lt 9, 3) := by decide +kernel
theorem dX7_part_18 : decode cX7_part 18 = .ok (.iload_n 2, 1) := by decide +kernel
theorem dX7_part_19 : decode cX7_part 19 = .ok (.bipush 6, 2) := by decide +kernel
theorem dX7_part_21 : decode cX7_part 21 = .ok (.if_icmp .le 6, 3) := by decide +kernel
theorem dX7_part_24 : decode cX7_part 24 = .ok (.bipush (-102), 2) := by decide +kernel
theorem dX7_part_26 : decode cX7_part 26 = .ok (.ireturn, 1) := by decide +kernel
theorem dX7_part_27 : decode cX7_part 27 = .ok (.aload_n 0, 1) := by decide +kernel
theorem dX7_part_28 : decode cX7_part 28 = .ok (.getfield 10, 3) := by decide +kernel
theorem dX7_part_31 : decode cX7_part 31 = .ok (.invokevirtual 72, 3) := by decide +kernel
theorem dX7_part_34 : decode cX7_part 34 = .ok (.ifCond .eq 6, 3) := by decide +kernel
theorem dX7_part_37 : decode cX7_part 37 = .ok (.bipush (-104), 2) := by decide +kernel
theorem dX7_part_39 : decode cX7_part 39 = .ok (.ireturn, 1) := by decide +kernel
theorem dX7_part_40 : decode cX7_part 40 = .ok (.aload_n 0, 1) := by decide +kernel
theorem dX7_part_41 : decode cX7_part 41 = .ok (.getfield 10, 3) := by decide +kernel
theorem dX7_part_44 : decode cX7_part 44 = .ok (.iload_n 1, 1) := by decide +kernel
theorem dX7_part_45 : decode cX7_part 45 = .ok (.iload_n 2, 1) := by decide +kernel
theorem dX7_part_46 : decode cX7_part 46 = .ok (.invokevirtual 76, 3) := by decide +kernel
theorem dX7_part_49 : decode cX7_part 49 = .ok (.istore_n 3, 1) := by decide +kernel
theorem dX7_part_50 : decode cX7_part 50 = .ok (.aload_n 0, 1) := by decide +kernel
theorem dX7_part_51 : decode cX7_part 51 = .ok (.getfield 35, 3) := by decide +kernel
theorem dX7_part_54 : decode cX7_part 54 = .ok (.invokevirtual 80, 3) := by decide +kernel
theorem dX7_part_57 : decode cX7_part 57 = .ok (.iload_n 3, 1) := by decide +kernel
theorem dX7_part_58 : decode cX7_part 58 = .ok (.ireturn, 1) := by decide +kernel
theorem dX7_set_0 : decode cX7_set 0 = .ok (.aload_n 0, 1) := by decide +kernel
theorem dX7_set_1 : decode cX7_set 1 = .ok (.getfield 10, 3) := by decide +kernel
theorem dX7_set_4 : decode cX7_set 4 = .ok (.iload_n 1, 1) := by decide +kernel
theorem dX7_set_5 : decode cX7_set 5 = .ok (.invokevirtual 68, 3) := by decide +kernel
theorem dX7_set_8 : decode cX7_set 8 = .ok (.ifCond .ne 6, 3) := by decide +kernel
theorem dX7_set_11 : decode cX7_set 11 = .ok (.bipush (-101), 2) := by decide +kernel
theorem dX7_set_13 : decode cX7_set 13 = .ok (.ireturn, 1) := by decide +kernel
theorem dX7_set_14 : decode cX7_set 14 = .ok (.aload_n 0, 1) := by decide +kernel
theorem dX7_set_15 : decode cX7_set 15 = .ok (.getfield 10, 3) := by decide +kernel
theorem dX7_set_18 : decode cX7_set 18 = .ok (.iload_n 2, 1) := by decide +kernel
theorem dX7_set_19 : decode cX7_set 19 = .ok (.iload_n 3, 1) := by decide +kernel
theorem dX7_set_20 : decode cX7_set 20 = .ok (.invokevirtual 83, 3) := by decide +kernel
theorem dX7_set_23 : decode cX7_set 23 = .ok (.ifCond .ne 6, 3) := by decide +kernel
theorem dX7_set_26 : decode cX7_set 26 = .ok (.bipush (-102), 2) := by decide +kernel
theorem dX7_set_28 : decode cX7_set 28 = .ok (.ireturn, 1) := by decide +kernel
theorem dX7_set_29 : decode cX7_set 29 = .ok (.iload_n 1, 1) := by decide +kernel
theorem dX7_set_30 : decode cX7_set 30 = .ok (.ifCond .ne 11, 3) := by decide +kernel
theorem dX7_set_33 : decode cX7_set 33 = .ok (.iload_n 2, 1) := by decide +kernel
theorem dX7_set_34 : decode cX7_set 34 = .ok (.iconst 5, 1) := by decide +kernel
theorem dX7_set_35 : decode cX7_set 35 = .ok (.if_icmp .ne 6, 3) := by decide +kernel
theorem dX7_set_38 : decode cX7_set 38 = .ok (.bipush (-103), 2) := by decide +kernel
theorem dX7_set_40 : decode cX7_set 40 = .ok (.ireturn, 1) := by decide +kernel
theorem dX7_set_41 : decode cX7_set 41 = .ok (.iload_n 2, 1) := by decide +kernel
theorem dX7_set_42 : decode cX7_set 42 = .ok (.bipush 7, 2) := by decide +kernel
theorem dX7_set_44 : decode cX7_set 44 = .ok (.if_icmp .ne 15, 3) := by decide +kernel
theorem dX7_set_47 : decode cX7_set 47 = .ok (.aload_n 0, 1) := by decide +kernel
theorem dX7_set_48 : decode cX7_set 48 = .ok (.iload_n 1, 1) := by decide +kernel
theorem dX7_set_49 : decode cX7_set 49 = .ok (.iload_n 3, 1) := by decide +kernel
theorem dX7_set_50 : decode cX7_set 50 = .ok (.invokevirtual 87, 3) := by decide +kernel
theorem dX7_set_53 : decode cX7_set 53 = .ok (.ifCond .eq 6, 3) := by decide +kernel
theorem dX7_set_56 : decode cX7_set 56 = .ok (.bipush (-104), 2) := by decide +kernel
theorem dX7_set_58 : decode cX7_set 58 = .ok (.ireturn, 1) := by decide +kernel
theorem dX7_set_59 : decode cX7_set 59 = .ok (.aload_n 0, 1) := by decide +kernel
theorem dX7_set_60 : decode cX7_set 60 = .ok (.iload_n 1, 1) := by decide +kernel
theorem dX7_set_61 : decode cX7_set 61 = .ok (.iload_n 2, 1) := by decide +kernel
theorem dX7_set_62 : decode cX7_set 62 = .ok (.iload_n 3, 1) := by decide +kernel
theorem dX7_set_63 : decode cX7_set 63 = .ok (.invokevirtual 90, 3) := by decide +kernel
theorem dX7_set_66 : decode cX7_set 66 = .ok (.ireturn, 1) := by decide +kernel
theorem dX7_told_0 : decode cX7_told 0 = .ok (.aload_n 0, 1) := by decide +kernel
theorem dX7_told_1 : decode cX7_told 1 = .ok (.getfield 10, 3) := by decide +kernel
theorem dX7_told_4 : decode cX7_told 4 = .ok (.iload_n 1, 1) := by decide +kernel
theorem dX7_told_5 : decode cX7_told 5 = .ok (.invokevirtual 68, 3) := by decide +kernel
theorem dX7_told_8 : decode cX7_told 8 = .ok (.ifCond .ne 6, 3) := by decide +kernel
theorem dX7_told_11 : decode cX7_told 11 = .ok (.bipush (-101), 2) := by decide +kernel
theorem dX7_told_13 : decode cX7_told 13 = .ok (.ireturn, 1) := by decide +kernel
theorem dX7_told_14 : decode cX7_told 14 = .ok (.iload_n 2, 1) := by decide +kernel
theorem dX7_told_15 : decode cX7_told 15 = .ok (.ifCond .lt 9, 3) := by decide +kernel
theorem dX7_told_18 : decode cX7_told 18 = .ok (.iload_n 2, 1) := by decide +kernel
theorem dX7_told_19 : decode cX7_told 19 = .ok (.bipush 18, 2) := by decide +kernel
theorem dX7_told_21 : decode cX7_told 21 = .ok (.if_icmp .le 6, 3) := by decide +kernel
theorem dX7_told_24 : decode cX7_told 24 = .ok (.bipush (-102), 2) := by decide +kernel
theorem dX7_told_26 : decode cX7_told 26 = .ok (.ireturn, 1) := by decide +kernel
theorem dX7_told_27 : decode cX7_told 27 = .ok (.iload_n 2, 1) := by decide +kernel
theorem dX7_told_28 : decode cX7_told 28 = .ok (.bipush 18, 2) := by decide +kernel
theorem dX7_told_30 : decode cX7_told 30 = .ok (.if_icmp .ne 23, 3) := by decide +kernel
theorem dX7_told_33 : decode cX7_told 33 = .ok (.aload_n 0, 1) := by decide +kernel
theorem dX7_told_34 : decode cX7_told 34 = .ok (.getfield 10, 3) := by decide +kernel
theorem dX7_told_37 : decode cX7_told 37 = .ok (.invokevirtual 94, 3) := by decide +kernel
theorem dX7_told_40 : decode cX7_told 40 = .ok (.iload_n 1, 1) := by decide +kernel
theorem dX7_told_41 : decode cX7_told 41 = .ok (.invokestatic 98, 3) := by decide +kernel
theorem dX7_told_44 : decode cX7_told 44 = .ok (.ifCond .eq 7, 3) := by decide +kernel
theorem dX7_told_47 : decode cX7_told 47 = .ok (.iconst 1, 1) := by decide +kernel
theorem dX7_told_48 : decode cX7_told 48 = .ok (.goto 4, 3) := by decide +kernel
theorem dX7_told_51 : decode cX7_told 51 = .ok (.iconst 0, 1) := by decide +kernel
theorem dX7_told_52 : decode cX7_told 52 = .ok (.ireturn, 1) := by decide +kernel
theorem dX7_told_53 : decode cX7_told 53 = .ok (.aload_n 0, 1) := by decide +kernel
theorem dX7_told_54 : decode cX7_told 54 = .ok (.getfield 10, 3) := by decide +kernel
theorem dX7_told_57 : decode cX7_told 57 = .ok (.iload_n 1, 1) := by decide +kernel
theorem dX7_told_58 : decode cX7_told 58 = .ok (.iload_n 2, 1) := by decide +kernel
theorem dX7_told_59 : decode cX7_told 59 = .ok (.invokevirtual 101, 3) := by decide +kernel
theorem dX7_told_62 : decode cX7_told 62 = .ok (.ireturn, 1) := by decide +kernel
theorem dX7_box_0 : decode cX7_box 0 = .ok (.aload_n 0, 1) := by decide +kernel
theorem dX7_box_1 : decode cX7_box 1 = .ok (.getfield 10, 3) := by decide +kernel
theorem dX7_box_4 : decode cX7_box 4 = .ok (.iload_n 1, 1) := by decide +kernel
theorem dX7_box_5 : decode cX7_box 5 = .ok (.invokevirtual 68, 3) := by decide +kernel
theorem dX7_box_8 : decode cX7_box 8 = .ok (.ifCond .ne 6, 3) := by decide +kernel
theorem dX7_box_11 : decode cX7_box 11 = .ok (.bipush (-101), 2) := by decide +kernel
theorem dX7_box_13 : decode cX7_box 13 = .ok (.ireturn, 1) := by decide +kernel
theorem dX7_box_14 : decode cX7_box 14 = .ok (.iload_n 2, 1) := by decide +kernel
theorem dX7_box_15 : decode cX7_box 15 = .ok (.invokestatic 104, 3) := by decide +kernel
theorem dX7_box_18 : decode cX7_box 18 = .ok (.ifCond .eq 26, 3) := by decide +kernel
theorem dX7_box_21 : decode cX7_box 21 = .ok (.iload_n 3, 1) := by decide +kernel
theorem dX7_box_22 : decode cX7_box 22 = .ok (.invokestatic 104, 3) := by decide +kernel
theorem dX7_box_25 : decode cX7_box 25 = .ok (.ifCond .eq 19, 3) := by decide +kernel
theorem dX7_box_28 : decode cX7_box 28 = .ok (.iload 4, 2) := by decide +kernel
theorem dX7_box_30 : decode cX7_box 30 = .ok (.invokestatic 104, 3) := by decide +kernel
theorem dX7_box_33 : decode cX7_box 33 = .ok (.ifCond .eq 11, 3) := by decide +kernel
theorem dX7_box_36 : decode cX7_box 36 = .ok (.iload 5, 2) := by decide +kernel
theorem dX7_box_38 : decode cX7_box 38 = .ok (.invokestatic 104, 3) := by decide +kernel
theorem dX7_box_41 : decode cX7_box 41 = .ok (.ifCond .ne 6, 3) := by decide +kernel
theorem dX7_box_44 : decode cX7_box 44 = .ok (.bipush (-102), 2) := by decide +kernel
theorem dX7_box_46 : decode cX7_box 46 = .ok (.ireturn, 1) := by decide +kernel
theorem dX7_box_47 : decode cX7_box 47 = .ok (.aload_n 0, 1) := by decide +kernel
theorem dX7_box_48 : decode cX7_box 48 = .ok (.getfield 10, 3) := by decide +kernel
theorem dX7_box_51 : decode cX7_box 51 = .ok (.iload_n 1, 1) := by decide +kernel
theorem dX7_box_52 : decode cX7_box 52 = .ok (.bipush 12, 2) := by decide +kernel
theorem dX7_box_54 : decode cX7_box 54 = .ok (.iload_n 2, 1) := by decide +kernel
theorem dX7_box_55 : decode cX7_box 55 = .ok (.invokevirtual 107, 3) := by decide +kernel
theorem dX7_box_58 : decode cX7_box 58 = .ok (.aload_n 0, 1) := by decide +kernel
theorem dX7_box_59 : decode cX7_box 59 = .ok (.getfield 10, 3) := by decide +kernel
theorem dX7_box_62 : decode cX7_box 62 = .ok (.iload_n 1, 1) := by decide +kernel
theorem dX7_box_63 : decode cX7_box 63 = .ok (.bipush 13, 2) := by decide +kernel
theorem dX7_box_65 : decode cX7_box 65 = .ok (.iload_n 3, 1) := by decide +kernel
theorem dX7_box_66 : decode cX7_box 66 = .ok (.invokevirtual 107, 3) := by decide +kernel
theorem dX7_box_69 : decode cX7_box 69 = .ok (.aload_n 0, 1) := by decide +kernel
theorem dX7_box_70 : decode cX7_box 70 = .ok (.getfield 10, 3) := by decide +kernel
theorem dX7_box_73 : decode cX7_box 73 = .ok (.iload_n 1, 1) := by decide +kernel
theorem dX7_box_74 : decode cX7_box 74 = .ok (.bipush 14, 2) := by decide +kernel
theorem dX7_box_76 : decode cX7_box 76 = .ok (.iload 4, 2) := by decide +kernel
theorem dX7_box_78 : decode cX7_box 78 = .ok (.invokevirtual 107, 3) := by decide +kernel
theorem dX7_box_81 : decode cX7_box 81 = .ok (.aload_n 0, 1) := by decide +kernel
theorem dX7_box_82 : decode cX7_box 82 = .ok (.getfield 10, 3) := by decide +kernel
theorem dX7_box_85 : decode cX7_box 85 = .ok (.iload_n 1, 1) := by decide +kernel
theorem dX7_box_86 : decode cX7_box 86 = .ok (.bipush 15, 2) := by decide +kernel
theorem dX7_box_88 : decode cX7_box 88 = .ok (.iload 5, 2) := by decide +kernel
theorem dX7_box_90 : decode cX7_box 90 = .ok (.invokevirtual 107, 3) := by decide +kernel
theorem dX7_box_93 : decode cX7_box 93 = .ok (.iconst 1, 1) := by decide +kernel
theorem dX7_box_94 : decode cX7_box 94 = .ok (.ireturn, 1) := by decide +kernel
theorem dX7_colours_0 : decode cX7_colours 0 = .ok (.aload_n 0, 1) := by decide +kernel
theorem dX7_colours_1 : decode cX7_colours 1 = .ok (.getfield 10, 3) := by decide +kernel
theorem dX7_colours_4 : decode cX7_colours 4 = .ok (.iload_n 1, 1) := by decide +kernel
theorem dX7_colours_5 : decode cX7_colours 5 = .ok (.invokevirtual 68, 3) := by decide +kernel
theorem dX7_colours_8 : decode cX7_colours 8 = .ok (.ifCond .ne 6, 3) := by decide +kernel
theorem dX7_colours_11 : decode cX7_colours 11 = .ok (.bipush (-101), 2) := by decide +kernel
theorem dX7_colours_13 : decode cX7_colours 13 = .ok (.ireturn, 1) := by decide +kernel
theorem dX7_colours_14 : decode cX7_colours 14 = .ok (.iload_n 2, 1) := by decide +kernel
theorem dX7_colours_15 : decode cX7_colours 15 = .ok (.invokestatic 111, 3) := by decide +kernel
theorem dX7_colours_18 : decode cX7_colours 18 = .ok (.ifCond .eq 10, 3) := by decide +kernel
theorem dX7_colours_21 : decode cX7_colours 21 = .ok (.iload_n 3, 1) := by decide +kernel
theorem dX7_colours_22 : decode cX7_colours 22 = .ok (.invokestatic 111, 3) := by decide +kernel
theorem dX7_colours_25 : decode cX7_colours 25 = .ok (.ifCond .ne 6, 3) := by decide +kernel
theorem dX7_colours_28 : decode cX7_colours 28 = .ok (.bipush (-102), 2) := by decide +kernel
theorem dX7_colours_30 : decode cX7_colours 30 = .ok (.ireturn, 1) := by decide +kernel
theorem dX7_colours_31 : decode cX7_colours 31 = .ok (.aload_n 0, 1) := by decide +kernel
theorem dX7_colours_32 : decode cX7_colours 32 = .ok (.getfield 10, 3) := by decide +kernel
theorem dX7_colours_35 : decode cX7_colours 35 = .ok (.iload_n 1, 1) := by decide +kernel
theorem dX7_colours_36 : decode cX7_colours 36 = .ok (.bipush 16, 2) := by decide +kernel
theorem dX7_colours_38 : decode cX7_colours 38 = .ok (.iload_n 2, 1) := by decide +kernel
theorem dX7_colours_39 : decode cX7_colours 39 = .ok (.invokevirtual 107, 3) := by decide +kernel
theorem dX7_colours_42 : decode cX7_colours 42 = .ok (.aload_n 0, 1) := by decide +kernel
theorem dX7_colours_43 : decode cX7_colours 43 = .ok (.getfield 10, 3) := by decide +kernel
theorem dX7_colours_46 : decode cX7_colours 46 = .ok (.iload_n 1, 1) := by decide +kernel
theorem dX7_colours_47 : decode cX7_colours 47 = .ok (.bipush 17, 2) := by decide +kernel
theorem dX7_colours_49 : decode cX7_colours 49 = .ok (.iload_n 3, 1) := by decide +kernel
theorem dX7_colours_50 : decode cX7_colours 50 = .ok (.invokevirtual 107, 3) := by decide +kernel
theorem dX7_colours_53 : decode cX7_colours 53 = .ok (.aload_n 0, 1) := by decide +kernel
theorem dX7_colours_54 : decode cX7_colours 54 = .ok (.getfield 10, 3) := by decide +kernel
theorem dX7_colours_57 : decode cX7_colours 57 = .ok (.iload_n 1, 1) := by decide +kernel
theorem dX7_colours_58 : decode cX7_colours 58 = .ok (.invokevirtual 114, 3) := by decide +kernel
theorem dX7_colours_61 : decode cX7_colours 61 = .ok (.ireturn, 1) := by decide +kernel
theorem dX7_contrast_0 : decode cX7_contrast 0 = .ok (.aload_n 0, 1) := by decide +kernel
theorem dX7_contrast_1 : decode cX7_contrast 1 = .ok (.getfield 10, 3) := by decide +kernel
theorem dX7_contrast_4 : decode cX7_contrast 4 = .ok (.iload_n 1, 1) := by decide +kernel
theorem dX7_contrast_5 : decode cX7_contrast 5 = .ok (.invokevirtual 68, 3) := by decide +kernel
theorem dX7_contrast_8 : decode cX7_contrast 8 = .ok (.ifCond .eq 14, 3) := by decide +kernel
theorem dX7_contrast_11 : decode cX7_contrast 11 = .ok (.aload_n 0, 1) := by decide +kernel
theorem dX7_contrast_12 : decode cX7_contrast 12 = .ok (.getfield 10, 3) := by decide +kernel
theorem dX7_contrast_15 : decode cX7_contrast 15 = .ok (.iload_n 1, 1) := by decide +kernel
theorem dX7_contrast_16 : decode cX7_contrast 16 = .ok (.invokevirtual 114, 3) := by decide +kernel
theorem dX7_contrast_19 : decode cX7_contrast 19 = .ok (.goto 5, 3) := by decide +kernel
theorem dX7_contrast_22 : decode cX7_contrast 22 = .ok (.bipush (-101), 2) := by decide +kernel
theorem dX7_contrast_24 : decode cX7_contrast 24 = .ok (.ireturn, 1) := by decide +kernel
theorem dX7_name_0 : decode cX7_name 0 = .ok (.aload_n 0, 1) := by decide +kernel
theorem dX7_name_1 : decode cX7_name 1 = .ok (.getfield 10, 3) := by decide +kernel
theorem dX7_name_4 : decode cX7_name 4 = .ok (.iload_n 1, 1) := by decide +kernel
theorem dX7_name_5 : decode cX7_name 5 = .ok (.invokevirtual 68, 3) := by decide +kernel
theorem dX7_name_8 : decode cX7_name 8 = .ok (.ifCond .ne 6, 3) := by decide +kernel
theorem dX7_name_11 : decode cX7_name 11 = .ok (.bipush (-101), 2) := by decide +kernel
theorem dX7_name_13 : decode cX7_name 13 = .ok (.ireturn, 1) := by decide +kernel
theorem dX7_name_14 : decode cX7_name 14 = .ok (.aload_n 0, 1) := by decide +kernel
theorem dX7_name_15 : decode cX7_name 15 = .ok (.getfield 21, 3) := by decide +kernel
theorem dX7_name_18 : decode cX7_name 18 = .ok (.iload_n 1, 1) := by decide +kernel
theorem dX7_name_19 : decode cX7_name 19 = .ok (.aload_n 0, 1) := by decide +kernel
theorem dX7_name_20 : decode cX7_name 20 = .ok (.getfield 10, 3) := by decide +kernel
theorem dX7_name_23 : decode cX7_name 23 = .ok (.invokevirtual 94, 3) := by decide +kernel
theorem dX7_name_26 : decode cX7_name 26 = .ok (.invokevirtual 118, 3) := by decide +kernel
theorem dX7_name_29 : decode cX7_name 29 = .ok (.aload_n 0, 1) := by decide +kernel
theorem dX7_name_30 : decode cX7_name 30 = .ok (.getfield 21, 3) := by decide +kernel
theorem dX7_name_33 : decode cX7_name 33 = .ok (.iload_n 1, 1) := by decide +kernel
theorem dX7_name_34 : decode cX7_name 34 = .ok (.invokevirtual 122, 3) := by decide +kernel
theorem dX7_name_37 : decode cX7_name 37 = .ok (.ireturn, 1) := by decide +kernel
theorem dX7_word_0 : decode cX7_word 0 = .ok (.aload_n 0, 1) := by decide +kernel
theorem dX7_word_1 : decode cX7_word 1 = .ok (.getfield 10, 3) := by decide +kernel
theorem dX7_word_4 : decode cX7_word 4 = .ok (.iload_n 1, 1) := by decide +kernel
theorem dX7_word_5 : decode cX7_word 5 = .ok (.invokevirtual 68, 3) := by decide +kernel
theorem dX7_word_8 : decode cX7_word 8 = .ok (.ifCond .ne 5, 3) := by decide +kernel
theorem dX7_word_11 : decode cX7_word 11 = .ok (.iconst 0, 1) := by decide +kernel
theorem dX7_word_12 : decode cX7_word 12 = .ok (.ireturn, 1) := by decide +kernel
theorem dX7_word_13 : decode cX7_word 13 = .ok (.aload_n 0, 1) := by decide +kernel
theorem dX7_word_14 : decode cX7_word 14 = .ok (.getfield 21, 3) := by decide +kernel
theorem dX7_word_17 : decode cX7_word 17 = .ok (.iload_n 1, 1) := by decide +kernel
theorem dX7_word_18 : decode cX7_word 18 = .ok (.aload_n 0, 1) := by decide +kernel
theorem dX7_word_19 : decode cX7_word 19 = .ok (.getfield 10, 3) := by decide +kernel
theorem dX7_word_22 : decode cX7_word 22 = .ok (.invokevirtual 94, 3) := by decide +kernel
theorem dX7_word_25 : decode cX7_word 25 = .ok (.invokevirtual 118, 3) := by decide +kernel
theorem dX7_word_28 : decode cX7_word 28 = .ok (.aload_n 0, 1) := by decide +kernel
theorem dX7_word_29 : decode cX7_word 29 = .ok (.getfield 21, 3) := by decide +kernel
theorem dX7_word_32 : decode cX7_word 32 = .ok (.iload_n 1, 1) := by decide +kernel
theorem dX7_word_33 : decode cX7_word 33 = .ok (.iload_n 2, 1) := by decide +kernel
theorem dX7_word_34 : decode cX7_word 34 = .ok (.invokevirtual 125, 3) := by decide +kernel
theorem dX7_word_37 : decode cX7_word 37 = .ok (.ireturn, 1) := by decide +kernel
theorem dX7_said_0 : decode cX7_said 0 = .ok (.aload_n 0, 1) := by decide +kernel
theorem dX7_said_1 : decode cX7_said 1 = .ok (.getfield 28, 3) := by decide +kernel
theorem dX7_said_4 : decode cX7_said 4 = .ok (.aload_n 0, 1) := by decide +kernel
theorem dX7_said_5 : decode cX7_said 5 = .ok (.getfield 10, 3) := by decide +kernel
theorem dX7_said_8 : decode cX7_said 8 = .ok (.invokevirtual 94, 3) := by decide +kernel
theorem dX7_said_11 : decode cX7_said 11 = .ok (.invokevirtual 128, 3) := by decide +kernel
theorem dX7_said_14 : decode cX7_said 14 = .ok (.aload_n 0, 1) := by decide +kernel
theorem dX7_said_15 : decode cX7_said 15 = .ok (.getfield 28, 3) := by decide +kernel
theorem dX7_said_18 : decode cX7_said 18 = .ok (.iload_n 1, 1) := by decide +kernel
theorem dX7_said_19 : decode cX7_said 19 = .ok (.invokevirtual 132, 3) := by decide +kernel
theorem dX7_said_22 : decode cX7_said 22 = .ok (.ireturn, 1) := by decide +kernel
theorem dX7_pairs_0 : decode cX7_pairs 0 = .ok (.aload_n 0, 1) := by decide +kernel
theorem dX7_pairs_1 : decode cX7_pairs 1 = .ok (.getfield 28, 3) := by decide +kernel
theorem dX7_pairs_4 : decode cX7_pairs 4 = .ok (.aload_n 0, 1) := by decide +kernel
theorem dX7_pairs_5 : decode cX7_pairs 5 = .ok (.getfield 10, 3) := by decide +kernel
theorem dX7_pairs_8 : decode cX7_pairs 8 = .ok (.invokevirtual 94, 3) := by decide +kernel
theorem dX7_pairs_11 : decode cX7_pairs 11 = .ok (.invokevirtual 128, 3) := by decide +kernel
theorem dX7_pairs_14 : decode cX7_pairs 14 = .ok (.aload_n 0, 1) := by decide +kernel
theorem dX7_pairs_15 : decode cX7_pairs 15 = .ok (.getfield 28, 3) := by decide +kernel
theorem dX7_pairs_18 : decode cX7_pairs 18 = .ok (.invokevirtual 135, 3) := by decide +kernel
theorem dX7_pairs_21 : decode cX7_pairs 21 = .ok (.aload_n 0, 1) := by decide +kernel
theorem dX7_pairs_22 : decode cX7_pairs 22 = .ok (.getfield 28, 3) := by decide +kernel
theorem dX7_pairs_25 : decode cX7_pairs 25 = .ok (.getfield 138, 3) := by decide +kernel
theorem dX7_pairs_28 : decode cX7_pairs 28 = .ok (.ireturn, 1) := by decide +kernel
theorem dX7_stop_0 : decode cX7_stop 0 = .ok (.aload_n 0, 1) := by decide +kernel
theorem dX7_stop_1 : decode cX7_stop 1 = .ok (.getfield 35, 3) := by decide +kernel
theorem dX7_stop_4 : decode cX7_stop 4 = .ok (.iload_n 1, 1) := by decide +kernel
theorem dX7_stop_5 : decode cX7_stop 5 = .ok (.aload_n 0, 1) := by decide +kernel
theorem dX7_stop_6 : decode cX7_stop 6 = .ok (.getfield 10, 3) := by decide +kernel
theorem dX7_stop_9 : decode cX7_stop 9 = .ok (.invokevirtual 94, 3) := by decide +kernel
theorem dX7_stop_12 : decode cX7_stop 12 = .ok (.invokevirtual 141, 3) := by decide +kernel
theorem dX7_stop_15 : decode cX7_stop 15 = .ok (.ireturn, 1) := by decide +kernel
theorem dX7_press_0 : decode cX7_press 0 = .ok (.iload_n 1, 1) := by decide +kernel
theorem dX7_press_1 : decode cX7_press 1 = .ok (.ifCond .lt 8, 3) := by decide +kernel
theorem dX7_press_4 : decode cX7_press 4 = .ok (.iload_n 1, 1) := by decide +kernel
theorem dX7_press_5 : decode cX7_press 5 = .ok (.iconst 2, 1) := by decide +kernel
theorem dX7_press_6 : decode cX7_press 6 = .ok (.if_icmp .le 6, 3) := by decide +kernel
theorem dX7_press_9 : decode cX7_press 9 = .ok (.bipush (-102), 2) := by decide +kernel
theorem dX7_press_11 : decode cX7_press 11 = .ok (.ireturn, 1) := by decide +kernel
theorem dX7_press_12 : decode cX7_press 12 = .ok (.iload_n 1, 1) := by decide +kernel
theorem dX7_press_13 : decode cX7_press 13 = .ok (.iconst 2, 1) := by decide +kernel
theorem dX7_press_14 : decode cX7_press 14 = .ok (.if_icmp .ne 10, 3) := by decide +kernel
theorem dX7_press_17 : decode cX7_press 17 = .ok (.aload_n 0, 1) := by decide +kernel
theorem dX7_press_18 : decode cX7_press 18 = .ok (.invokevirtual 143, 3) := by decide +kernel
theorem dX7_press_21 : decode cX7_press 21 = .ok (.goto 26, 3) := by decide +kernel
theorem dX7_press_24 : decode cX7_press 24 = .ok (.aload_n 0, 1) := by decide +kernel
theorem dX7_press_25 : decode cX7_press 25 = .ok (.aload_n 0, 1) := by decide +kernel
theorem dX7_press_26 : decode cX7_press 26 = .ok (.getfield 35, 3) := by decide +kernel
theorem dX7_press_29 : decode cX7_press 29 = .ok (.aload_n 0, 1) := by decide +kernel
theorem dX7_press_30 : decode cX7_press 30 = .ok (.getfield 64, 3) := by decide +kernel
theorem dX7_press_33 : decode cX7_press 33 = .ok (.iload_n 1, 1) := by decide +kernel
theorem dX7_press_34 : decode cX7_press 34 = .ok (.aload_n 0, 1) := by decide +kernel
theorem dX7_press_35 : decode cX7_press 35 = .ok (.getfield 10, 3) := by decide +kernel
theorem dX7_press_38 : decode cX7_press 38 = .ok (.invokevirtual 94, 3) := by decide +kernel
theorem dX7_press_41 : decode cX7_press 41 = .ok (.invokevirtual 146, 3) := by decide +kernel
theorem dX7_press_44 : decode cX7_press 44 = .ok (.putfield 64, 3) := by decide +kernel
theorem dX7_press_47 : decode cX7_press 47 = .ok (.aload_n 0, 1) := by decide +kernel
theorem dX7_press_48 : decode cX7_press 48 = .ok (.getfield 64, 3) := by decide +kernel
theorem dX7_press_51 : decode cX7_press 51 = .ok (.ireturn, 1) := by decide +kernel
theorem dX7_focus_0 : decode cX7_focus 0 = .ok (.aload_n 0, 1) := by decide +kernel
theorem dX7_focus_1 : decode cX7_focus 1 = .ok (.getfield 64, 3) := by decide +kernel
theorem dX7_focus_4 : decode cX7_focus 4 = .ok (.ireturn, 1) := by decide +kernel
theorem dX7_caught_0 : decode cX7_caught 0 = .ok (.aload_n 0, 1) := by decide +kernel
theorem dX7_caught_1 : decode cX7_caught 1 = .ok (.getfield 10, 3) := by decide +kernel
theorem dX7_caught_4 : decode cX7_caught 4 = .ok (.aload_n 0, 1) := by decide +kernel
theorem dX7_caught_5 : decode cX7_caught 5 = .ok (.getfield 64, 3) := by decide +kernel
theorem dX7_caught_8 : decode cX7_caught 8 = .ok (.aload_n 0, 1) := by decide +kernel
theorem dX7_caught_9 : decode cX7_caught 9 = .ok (.getfield 10, 3) := by decide +kernel
theorem dX7_caught_12 : decode cX7_caught 12 = .ok (.invokevirtual 94, 3) := by decide +kernel
theorem dX7_caught_15 : decode cX7_caught 15 = .ok (.invokevirtual 149, 3) := by decide +kernel
theorem dX7_caught_18 : decode cX7_caught 18 = .ok (.ireturn, 1) := by decide +kernel
theorem dX7_leave_0 : decode cX7_leave 0 = .ok (.aload_n 0, 1) := by decide +kernel
theorem dX7_leave_1 : decode cX7_leave 1 = .ok (.getfield 64, 3) := by decide +kernel
theorem dX7_leave_4 : decode cX7_leave 4 = .ok (.istore_n 1, 1) := by decide +kernel
theorem dX7_leave_5 : decode cX7_leave 5 = .ok (.aload_n 0, 1) := by decide +kernel
theorem dX7_leave_6 : decode cX7_leave 6 = .ok (.iconst (-1), 1) := by decide +kernel
theorem dX7_leave_7 : decode cX7_leave 7 = .ok (.putfield 64, 3) := by decide +kernel
theorem dX7_leave_10 : decode cX7_leave 10 = .ok (.iload_n 1, 1) := by decide +kernel
theorem dX7_leave_11 : decode cX7_leave 11 = .ok (.ireturn, 1) := by decide +kernel
theorem dX7_walk_0 : decode cX7_walk 0 = .ok (.aload_n 0, 1) := by decide +kernel
theorem dX7_walk_1 : decode cX7_walk 1 = .ok (.getfield 10, 3) := by decide +kernel
theorem dX7_walk_4 : decode cX7_walk 4 = .ok (.iload_n 1, 1) := by decide +kernel
theorem dX7_walk_5 : decode cX7_walk 5 = .ok (.invokevirtual 68, 3) := by decide +kernel
theorem dX7_walk_8 : decode cX7_walk 8 = .ok (.ifCond .eq 18, 3) := by decide +kernel
theorem dX7_walk_11 : decode cX7_walk 11 = .ok (.aload_n 0, 1) := by decide +kernel
theorem dX7_walk_12 : decode cX7_walk 12 = .ok (.getfield 44, 3) := by decide +kernel
theorem dX7_walk_15 : decode cX7_walk 15 = .ok (.aload_n 0, 1) := by decide +kernel
theorem dX7_walk_16 : decode cX7_walk 16 = .ok (.getfield 64, 3) := by decide +kernel
theorem dX7_walk_19 : decode cX7_walk 19 = .ok (.iload_n 1, 1) := by decide +kernel
theorem dX7_walk_20 : decode cX7_walk 20 = .ok (.invokevirtual 152, 3) := by decide +kernel
theorem dX7_walk_23 : decode cX7_walk 23 = .ok (.goto 5, 3) := by decide +kernel
theorem dX7_walk_26 : decode cX7_walk 26 = .ok (.bipush (-101), 2) := by decide +kernel
theorem dX7_walk_28 : decode cX7_walk 28 = .ok (.ireturn, 1) := by decide +kernel
theorem dX7_key_0 : decode cX7_key 0 = .ok (.aload_n 0, 1) := by decide +kernel
theorem dX7_key_1 : decode cX7_key 1 = .ok (.getfield 10, 3) := by decide +kernel
theorem dX7_key_4 : decode cX7_key 4 = .ok (.iload_n 1, 1) := by decide +kernel
theorem dX7_key_5 : decode cX7_key 5 = .ok (.invokevirtual 68, 3) := by decide +kernel
theorem dX7_key_8 : decode cX7_key 8 = .ok (.ifCond .eq 18, 3) := by decide +kernel
theorem dX7_key_11 : decode cX7_key 11 = .ok (.aload_n 0, 1) := by decide +kernel
theorem dX7_key_12 : decode cX7_key 12 = .ok (.getfield 44, 3) := by decide +kernel
theorem dX7_key_15 : decode cX7_key 15 = .ok (.aload_n 0, 1) := by decide +kernel
theorem dX7_key_16 : decode cX7_key 16 = .ok (.getfield 64, 3) := by decide +kernel
theorem dX7_key_19 : decode cX7_key 19 = .ok (.iload_n 1, 1) := by decide +kernel
theorem dX7_key_20 : decode cX7_key 20 = .ok (.invokevirtual 155, 3) := by decide +kernel
theorem dX7_key_23 : decode cX7_key 23 = .ok (.goto 5, 3) := by decide +kernel
theorem dX7_key_26 : decode cX7_key 26 = .ok (.bipush (-101), 2) := by decide +kernel
theorem dX7_key_28 : decode cX7_key 28 = .ok (.ireturn, 1) := by decide +kernel
theorem dX7_keeper_0 : decode cX7_keeper 0 = .ok (.aload_n 0, 1) := by decide +kernel
theorem dX7_keeper_1 : decode cX7_keeper 1 = .ok (.getfield 10, 3) := by decide +kernel
theorem dX7_keeper_4 : decode cX7_keeper 4 = .ok (.aload_n 0, 1) := by decide +kernel
theorem dX7_keeper_5 : decode cX7_keeper 5 = .ok (.getfield 64, 3) := by decide +kernel
theorem dX7_keeper_8 : decode cX7_keeper 8 = .ok (.aload_n 0, 1) := by decide +kernel
theorem dX7_keeper_9 : decode cX7_keeper 9 = .ok (.getfield 10, 3) := by decide +kernel
theorem dX7_keeper_12 : decode cX7_keeper 12 = .ok (.invokevirtual 94, 3) := by decide +kernel
theorem dX7_keeper_15 : decode cX7_keeper 15 = .ok (.invokevirtual 149, 3) := by decide +kernel
theorem dX7_keeper_18 : decode cX7_keeper 18 = .ok (.istore_n 1, 1) := by decide +kernel
theorem dX7_keeper_19 : decode cX7_keeper 19 = .ok (.iload_n 1, 1) := by decide +kernel
theorem dX7_keeper_20 : decode cX7_keeper 20 = .ok (.iconst (-1), 1) := by decide +kernel
theorem dX7_keeper_21 : decode cX7_keeper 21 = .ok (.if_icmp .eq 22, 3) := by decide +kernel
theorem dX7_keeper_24 : decode cX7_keeper 24 = .ok (.aload_n 0, 1) := by decide +kernel
theorem dX7_keeper_25 : decode cX7_keeper 25 = .ok (.getfield 44, 3) := by decide +kernel
theorem dX7_keeper_28 : decode cX7_keeper 28 = .ok (.aload_n 0, 1) := by decide +kernel
theorem dX7_keeper_29 : decode cX7_keeper 29 = .ok (.getfield 64, 3) := by decide +kernel
theorem dX7_keeper_32 : decode cX7_keeper 32 = .ok (.iload_n 1, 1) := by decide +kernel
theorem dX7_keeper_33 : decode cX7_keeper 33 = .ok (.invokevirtual 158, 3) := by decide +kernel
theorem dX7_keeper_36 : decode cX7_keeper 36 = .ok (.ifCond .eq 7, 3) := by decide +kernel
theorem dX7_keeper_39 : decode cX7_keeper 39 = .ok (.iconst (-1), 1) := by decide +kernel
theorem dX7_keeper_40 : decode cX7_keeper 40 = .ok (.goto 4, 3) := by decide +kernel
theorem dX7_keeper_43 : decode cX7_keeper 43 = .ok (.iload_n 1, 1) := by decide +kernel
theorem dX7_keeper_44 : decode cX7_keeper 44 = .ok (.ireturn, 1) := by decide +kernel
theorem dX7_hear_0 : decode cX7_hear 0 = .ok (.aload_n 0, 1) := by decide +kernel
theorem dX7_hear_1 : decode cX7_hear 1 = .ok (.getfield 60, 3) := by decide +kernel
theorem dX7_hear_4 : decode cX7_hear 4 = .ok (.invokevirtual 161, 3) := by decide +kernel
theorem dX7_hear_7 : decode cX7_hear 7 = .ok (.ireturn, 1) := by decide +kernel
theorem dX7_wrongs_0 : decode cX7_wrongs 0 = .ok (.aload_n 0, 1) := by decide +kernel
theorem dX7_wrongs_1 : decode cX7_wrongs 1 = .ok (.getfield 53, 3) := by decide +kernel
theorem dX7_wrongs_4 : decode cX7_wrongs 4 = .ok (.invokevirtual 164, 3) := by decide +kernel
theorem dX7_wrongs_7 : decode cX7_wrongs 7 = .ok (.aload_n 0, 1) := by decide +kernel
theorem dX7_wrongs_8 : decode cX7_wrongs 8 = .ok (.getfield 53, 3) := by decide +kernel
theorem dX7_wrongs_11 : decode cX7_wrongs 11 = .ok (.getfield 166, 3) := by decide +kernel
theorem dX7_wrongs_14 : decode cX7_wrongs 14 = .ok (.ireturn, 1) := by decide +kernel
theorem dX7_wrong_0 : decode cX7_wrong 0 = .ok (.iload_n 2, 1) := by decide +kernel
theorem dX7_wrong_1 : decode cX7_wrong 1 = .ok (.ifCond .eq 11, 3) := by decide +kernel
theorem dX7_wrong_4 : decode cX7_wrong 4 = .ok (.iload_n 2, 1) := by decide +kernel
theorem dX7_wrong_5 : decode cX7_wrong 5 = .ok (.iconst 1, 1) := by decide +kernel
theorem dX7_wrong_6 : decode cX7_wrong 6 = .ok (.if_icmp .eq 6, 3) := by decide +kernel
theorem dX7_wrong_9 : decode cX7_wrong 9 = .ok (.bipush (-102), 2) := by decide +kernel
theorem dX7_wrong_11 : decode cX7_wrong 11 = .ok (.ireturn, 1) := by decide +kernel
theorem dX7_wrong_12 : decode cX7_wrong 12 = .ok (.aload_n 0, 1) := by decide +kernel
theorem dX7_wrong_13 : decode cX7_wrong 13 = .ok (.getfield 53, 3) := by decide +kernel
theorem dX7_wrong_16 : decode cX7_wrong 16 = .ok (.invokevirtual 164, 3) := by decide +kernel
theorem dX7_wrong_19 : decode cX7_wrong 19 = .ok (.iload_n 2, 1) := by decide +kernel
theorem dX7_wrong_20 : decode cX7_wrong 20 = .ok (.ifCond .ne 14, 3) := by decide +kernel
theorem dX7_wrong_23 : decode cX7_wrong 23 = .ok (.aload_n 0, 1) := by decide +kernel
theorem dX7_wrong_24 : decode cX7_wrong 24 = .ok (.getfield 53, 3) := by decide +kernel
theorem dX7_wrong_27 : decode cX7_wrong 27 = .ok (.iload_n 1, 1) := by decide +kernel
theorem dX7_wrong_28 : decode cX7_wrong 28 = .ok (.invokevirtual 169, 3) := by decide +kernel
theorem dX7_wrong_31 : decode cX7_wrong 31 = .ok (.goto 11, 3) := by decide +kernel
theorem dX7_wrong_34 : decode cX7_wrong 34 = .ok (.aload_n 0, 1) := by decide +kernel
theorem dX7_wrong_35 : decode cX7_wrong 35 = .ok (.getfield 53, 3) := by decide +kernel
theorem dX7_wrong_38 : decode cX7_wrong 38 = .ok (.iload_n 1, 1) := by decide +kernel
theorem dX7_wrong_39 : decode cX7_wrong 39 = .ok (.invokevirtual 172, 3) := by decide +kernel
theorem dX7_wrong_42 : decode cX7_wrong 42 = .ok (.ireturn, 1) := by decide +kernel
theorem dX7_mend_0 : decode cX7_mend 0 = .ok (.aload_n 0, 1) := by decide +kernel
theorem dX7_mend_1 : decode cX7_mend 1 = .ok (.getfield 53, 3) := by decide +kernel
theorem dX7_mend_4 : decode cX7_mend 4 = .ok (.invokevirtual 164, 3) := by decide +kernel
theorem dX7_mend_7 : decode cX7_mend 7 = .ok (.aload_n 0, 1) := by decide +kernel
theorem dX7_mend_8 : decode cX7_mend 8 = .ok (.getfield 53, 3) := by decide +kernel
theorem dX7_mend_11 : decode cX7_mend 11 = .ok (.iload_n 1, 1) := by decide +kernel
theorem dX7_mend_12 : decode cX7_mend 12 = .ok (.invokevirtual 169, 3) := by decide +kernel
theorem dX7_mend_15 : decode cX7_mend 15 = .ok (.istore_n 2, 1) := by decide +kernel
theorem dX7_mend_16 : decode cX7_mend 16 = .ok (.aload_n 0, 1) := by decide +kernel
theorem dX7_mend_17 : decode cX7_mend 17 = .ok (.getfield 53, 3) := by decide +kernel
theorem dX7_mend_20 : decode cX7_mend 20 = .ok (.iload_n 1, 1) := by decide +kernel
theorem dX7_mend_21 : decode cX7_mend 21 = .ok (.invokevirtual 172, 3) := by decide +kernel
theorem dX7_mend_24 : decode cX7_mend 24 = .ok (.istore_n 3, 1) := by decide +kernel
theorem dX7_mend_25 : decode cX7_mend 25 = .ok (.iload_n 2, 1) := by decide +kernel
theorem dX7_mend_26 : decode cX7_mend 26 = .ok (.iconst (-1), 1) := by decide +kernel
theorem dX7_mend_27 : decode cX7_mend 27 = .ok (.if_icmp .ne 6, 3) := by decide +kernel
theorem dX7_mend_30 : decode cX7_mend 30 = .ok (.bipush (-101), 2) := by decide +kernel
theorem dX7_mend_32 : decode cX7_mend 32 = .ok (.ireturn, 1) := by decide +kernel
theorem dX7_mend_33 : decode cX7_mend 33 = .ok (.iload_n 3, 1) := by decide +kernel
theorem dX7_mend_34 : decode cX7_mend 34 = .ok (.iconst 3, 1) := by decide +kernel
theorem dX7_mend_35 : decode cX7_mend 35 = .ok (.if_icmp .eq 8, 3) := by decide +kernel
theorem dX7_mend_38 : decode cX7_mend 38 = .ok (.iload_n 3, 1) := by decide +kernel
theorem dX7_mend_39 : decode cX7_mend 39 = .ok (.iconst 4, 1) := by decide +kernel
theorem dX7_mend_40 : decode cX7_mend 40 = .ok (.if_icmp .ne 6, 3) := by decide +kernel
theorem dX7_mend_43 : decode cX7_mend 43 = .ok (.bipush (-103), 2) := by decide +kernel
theorem dX7_mend_45 : decode cX7_mend 45 = .ok (.ireturn, 1) := by decide +kernel
theorem dX7_mend_46 : decode cX7_mend 46 = .ok (.aload_n 0, 1) := by decide +kernel
theorem dX7_mend_47 : decode cX7_mend 47 = .ok (.getfield 53, 3) := by decide +kernel
theorem dX7_mend_50 : decode cX7_mend 50 = .ok (.iload_n 2, 1) := by decide +kernel
theorem dX7_mend_51 : decode cX7_mend 51 = .ok (.iload_n 3, 1) := by decide +kernel
theorem dX7_mend_52 : decode cX7_mend 52 = .ok (.invokevirtual 175, 3) := by decide +kernel
theorem dX7_mend_55 : decode cX7_mend 55 = .ok (.aload_n 0, 1) := by decide +kernel
theorem dX7_mend_56 : decode cX7_mend 56 = .ok (.getfield 53, 3) := by decide +kernel
theorem dX7_mend_59 : decode cX7_mend 59 = .ok (.invokevirtual 164, 3) := by decide +kernel
theorem dX7_mend_62 : decode cX7_mend 62 = .ok (.aload_n 0, 1) := by decide +kernel
theorem dX7_mend_63 : decode cX7_mend 63 = .ok (.getfield 53, 3) := by decide +kernel
theorem dX7_mend_66 : decode cX7_mend 66 = .ok (.getfield 166, 3) := by decide +kernel
theorem dX7_mend_69 : decode cX7_mend 69 = .ok (.ireturn, 1) := by decide +kernel
theorem dX7_count_0 : decode cX7_count 0 = .ok (.iload_n 1, 1) := by decide +kernel
theorem dX7_count_1 : decode cX7_count 1 = .ok (.tableswitch 118 0 5 #[39, 47, 58, 76, 98, 106], 39) := by decide +kernel
theorem dX7_count_40 : decode cX7_count 40 = .ok (.aload_n 0, 1) := by decide +kernel
theorem dX7_count_41 : decode cX7_count 41 = .ok (.getfield 10, 3) := by decide +kernel
theorem dX7_count_44 : decode cX7_count 44 = .ok (.getfield 178, 3) := by decide +kernel
theorem dX7_count_47 : decode cX7_count 47 = .ok (.ireturn, 1) := by decide +kernel
theorem dX7_count_48 : decode cX7_count 48 = .ok (.aload_n 0, 1) := by decide +kernel
theorem dX7_count_49 : decode cX7_count 49 = .ok (.getfield 10, 3) := by decide +kernel
theorem dX7_count_52 : decode cX7_count 52 = .ok (.invokevirtual 94, 3) := by decide +kernel
theorem dX7_count_55 : decode cX7_count 55 = .ok (.invokestatic 179, 3) := by decide +kernel
theorem dX7_count_58 : decode cX7_count 58 = .ok (.ireturn, 1) := by decide +kernel
theorem dX7_count_59 : decode cX7_count 59 = .ok (.aload_n 0, 1) := by decide +kernel
theorem dX7_count_60 : decode cX7_count 60 = .ok (.getfield 10, 3) := by decide +kernel
theorem dX7_count_63 : decode cX7_count 63 = .ok (.aload_n 0, 1) := by decide +kernel
theorem dX7_count_64 : decode cX7_count 64 = .ok (.getfield 10, 3) := by decide +kernel
theorem dX7_count_67 : decode cX7_count 67 = .ok (.invokevirtual 94, 3) := by decide +kernel
theorem dX7_count_70 : decode cX7_count 70 = .ok (.invokevirtual 184, 3) := by decide +kernel
theorem dX7_count_73 : decode cX7_count 73 = .ok (.invokestatic 179, 3) := by decide +kernel
theorem dX7_count_76 : decode cX7_count 76 = .ok (.ireturn, 1) := by decide +kernel
theorem dX7_count_77 : decode cX7_count 77 = .ok (.aload_n 0, 1) := by decide +kernel
theorem dX7_count_78 : decode cX7_count 78 = .ok (.getfield 28, 3) := by decide +kernel
theorem dX7_count_81 : decode cX7_count 81 = .ok (.aload_n 0, 1) := by decide +kernel
theorem dX7_count_82 : decode cX7_count 82 = .ok (.getfield 10, 3) := by decide +kernel
theorem dX7_count_85 : decode cX7_count 85 = .ok (.invokevirtual 94, 3) := by decide +kernel
theorem dX7_count_88 : decode cX7_count 88 = .ok (.invokevirtual 128, 3) := by decide +kernel
theorem dX7_count_91 : decode cX7_count 91 = .ok (.aload_n 0, 1) := by decide +kernel
theorem dX7_count_92 : decode cX7_count 92 = .ok (.getfield 28, 3) := by decide +kernel
theorem dX7_count_95 : decode cX7_count 95 = .ok (.getfield 187, 3) := by decide +kernel
theorem dX7_count_98 : decode cX7_count 98 = .ok (.ireturn, 1) := by decide +kernel
theorem dX7_count_99 : decode cX7_count 99 = .ok (.aload_n 0, 1) := by decide +kernel
theorem dX7_count_100 : decode cX7_count 100 = .ok (.getfield 60, 3) := by decide +kernel
theorem dX7_count_103 : decode cX7_count 103 = .ok (.getfield 188, 3) := by decide +kernel
theorem dX7_count_106 : decode cX7_count 106 = .ok (.ireturn, 1) := by decide +kernel
theorem dX7_count_107 : decode cX7_count 107 = .ok (.aload_n 0, 1) := by decide +kernel
theorem dX7_count_108 : decode cX7_count 108 = .ok (.getfield 10, 3) := by decide +kernel
theorem dX7_count_111 : decode cX7_count 111 = .ok (.iconst (-1), 1) := by decide +kernel
theorem dX7_count_112 : decode cX7_count 112 = .ok (.invokevirtual 189, 3) := by decide +kernel
theorem dX7_count_115 : decode cX7_count 115 = .ok (.invokestatic 179, 3) := by decide +kernel
theorem dX7_count_118 : decode cX7_count 118 = .ok (.ireturn, 1) := by decide +kernel
theorem dX7_count_119 : decode cX7_count 119 = .ok (.bipush (-102), 2) := by decide +kernel
theorem dX7_count_121 : decode cX7_count 121 = .ok (.ireturn, 1) := by decide +kernel
theorem dX7_digest_0 : decode cX7_digest 0 = .ok (.ldc2_w 192, 3) := by decide +kernel
theorem dX7_digest_3 : decode cX7_digest 3 = .ok (.lstore_n 1, 1) := by decide +kernel
theorem dX7_digest_4 : decode cX7_digest 4 = .ok (.iconst 0, 1) := by decide +kernel
theorem dX7_digest_5 : decode cX7_digest 5 = .ok (.istore_n 3, 1) := by decide +kernel
theorem dX7_digest_6 : decode cX7_digest 6 = .ok (.iload_n 3, 1) := by decide +kernel
theorem dX7_digest_7 : decode cX7_digest 7 = .ok (.aload_n 0, 1) := by decide +kernel
theorem dX7_digest_8 : decode cX7_digest 8 = .ok (.getfield 10, 3) := by decide +kernel
theorem dX7_digest_11 : decode cX7_digest 11 = .ok (.getfield 178, 3) := by decide +kernel
theorem dX7_digest_14 : decode cX7_digest 14 = .ok (.if_icmp .ge 43, 3) := by decide +kernel
theorem dX7_digest_17 : decode cX7_digest 17 = .ok (.iconst 0, 1) := by decide +kernel
theorem dX7_digest_18 : decode cX7_digest 18 = .ok (.istore 4, 2) := by decide +kernel
theorem dX7_digest_20 : decode cX7_digest 20 = .ok (.iload 4, 2) := by decide +kernel
theorem dX7_digest_22 : decode cX7_digest 22 = .ok (.bipush 18, 2) := by decide +kernel
theorem dX7_digest_24 : decode cX7_digest 24 = .ok (.if_icmp .ge 27, 3) := by decide +kernel
theorem dX7_digest_27 : decode cX7_digest 27 = .ok (.ldc2_w 194, 3) := by decide +kernel
theorem dX7_digest_30 : decode cX7_digest 30 = .ok (.lload_n 1, 1) := by decide +kernel
theorem dX7_digest_31 : decode cX7_digest 31 = .ok (.lmul, 1) := by decide +kernel
theorem dX7_digest_32 : decode cX7_digest 32 = .ok (.aload_n 0, 1) := by decide +kernel
theorem dX7_digest_33 : decode cX7_digest 33 = .ok (.getfield 10, 3) := by decide +kernel
theorem dX7_digest_36 : decode cX7_digest 36 = .ok (.iload_n 3, 1) := by decide +kernel
theorem dX7_digest_37 : decode cX7_digest 37 = .ok (.iload 4, 2) := by decide +kernel
theorem dX7_digest_39 : decode cX7_digest 39 = .ok (.invokevirtual 101, 3) := by decide +kernel
theorem dX7_digest_42 : decode cX7_digest 42 = .ok (.i2l, 1) := by decide +kernel
theorem dX7_digest_43 : decode cX7_digest 43 = .ok (.ladd, 1) := by decide +kernel
theorem dX7_digest_44 : decode cX7_digest 44 = .ok (.lstore_n 1, 1) := by decide +kernel
theorem dX7_digest_45 : decode cX7_digest 45 = .ok (.iinc 4 1, 3) := by decide +kernel
theorem dX7_digest_48 : decode cX7_digest 48 = .ok (.goto (-28), 3) := by decide +kernel
theorem dX7_digest_51 : decode cX7_digest 51 = .ok (.iinc 3 1, 3) := by decide +kernel
theorem dX7_digest_54 : decode cX7_digest 54 = .ok (.goto (-48), 3) := by decide +kernel
theorem dX7_digest_57 : decode cX7_digest 57 = .ok (.ldc2_w 194, 3) := by decide +kernel
theorem dX7_digest_60 : decode cX7_digest 60 = .ok (.lload_n 1, 1) := by decide +kernel
theorem dX7_digest_61 : decode cX7_digest 61 = .ok (.lmul, 1) := by decide +kernel
theorem dX7_digest_62 : decode cX7_digest 62 = .ok (.aload_n 0, 1) := by decide +kernel
theorem dX7_digest_63 : decode cX7_digest 63 = .ok (.getfield 64, 3) := by decide +kernel
theorem dX7_digest_66 : decode cX7_digest 66 = .ok (.i2l, 1) := by decide +kernel
theorem dX7_digest_67 : decode cX7_digest 67 = .ok (.ladd, 1) := by decide +kernel
theorem dX7_digest_68 : decode cX7_digest 68 = .ok (.lstore_n 1, 1) := by decide +kernel
theorem dX7_digest_69 : decode cX7_digest 69 = .ok (.iconst 0, 1) := by decide +kernel
theorem dX7_digest_70 : decode cX7_digest 70 = .ok (.istore_n 3, 1) := by decide +kernel
theorem dX7_digest_71 : decode cX7_digest 71 = .ok (.iload_n 3, 1) := by decide +kernel
theorem dX7_digest_72 : decode cX7_digest 72 = .ok (.aload_n 0, 1) := by decide +kernel
theorem dX7_digest_73 : decode cX7_digest 73 = .ok (.getfield 60, 3) := by decide +kernel
theorem dX7_digest_76 : decode cX7_digest 76 = .ok (.getfield 188, 3) := by decide +kernel
theorem dX7_digest_79 : decode cX7_digest 79 = .ok (.if_icmp .ge 26, 3) := by decide +kernel
theorem dX7_digest_82 : decode cX7_digest 82 = .ok (.ldc2_w 194, 3) := by decide +kernel
theorem dX7_digest_85 : decode cX7_digest 85 = .ok (.lload_n 1, 1) := by decide +kernel
theorem dX7_digest_86 : decode cX7_digest 86 = .ok (.lmul, 1) := by decide +kernel
theorem dX7_digest_87 : decode cX7_digest 87 = .ok (.aload_n 0, 1) := by decide +kernel
theorem dX7_digest_88 : decode cX7_digest 88 = .ok (.getfield 60, 3) := by decide +kernel
theorem dX7_digest_91 : decode cX7_digest 91 = .ok (.getfield 196, 3) := by decide +kernel
theorem dX7_digest_94 : decode cX7_digest 94 = .ok (.iload_n 3, 1) := by decide +kernel
theorem dX7_digest_95 : decode cX7_digest 95 = .ok (.iaload, 1) := by decide +kernel
theorem dX7_digest_96 : decode cX7_digest 96 = .ok (.i2l, 1) := by decide +kernel
theorem dX7_digest_97 : decode cX7_digest 97 = .ok (.ladd, 1) := by decide +kernel
theorem dX7_digest_98 : decode cX7_digest 98 = .ok (.lstore_n 1, 1) := by decide +kernel
theorem dX7_digest_99 : decode cX7_digest 99 = .ok (.iinc 3 1, 3) := by decide +kernel
theorem dX7_digest_102 : decode cX7_digest 102 = .ok (.goto (-31), 3) := by decide +kernel
theorem dX7_digest_105 : decode cX7_digest 105 = .ok (.aload_n 0, 1) := by decide +kernel
theorem dX7_digest_106 : decode cX7_digest 106 = .ok (.getfield 53, 3) := by decide +kernel
theorem dX7_digest_109 : decode cX7_digest 109 = .ok (.invokevirtual 164, 3) := by decide +kernel
theorem dX7_digest_112 : decode cX7_digest 112 = .ok (.ldc2_w 194, 3) := by decide +kernel
theorem dX7_digest_115 : decode cX7_digest 115 = .ok (.lload_n 1, 1) := by decide +kernel
theorem dX7_digest_116 : decode cX7_digest 116 = .ok (.lmul, 1) := by decide +kernel
theorem dX7_digest_117 : decode cX7_digest 117 = .ok (.aload_n 0, 1) := by decide +kernel
theorem dX7_digest_118 : decode cX7_digest 118 = .ok (.getfield 53, 3) := by decide +kernel
theorem dX7_digest_121 : decode cX7_digest 121 = .ok (.getfield 166, 3) := by decide +kernel
theorem dX7_digest_124 : decode cX7_digest 124 = .ok (.i2l, 1) := by decide +kernel
theorem dX7_digest_125 : decode cX7_digest 125 = .ok (.ladd, 1) := by decide +kernel
theorem dX7_digest_126 : decode cX7_digest 126 = .ok (.lreturn, 1) := by decide +kernel
theorem dX7_opensTooMany_0 : decode cX7_opensTooMany 0 = .ok (.aload_n 0, 1) := by decide +kernel
theorem dX7_opensTooMany_1 : decode cX7_opensTooMany 1 = .ok (.getfield 10, 3) := by decide +kernel
theorem dX7_opensTooMany_4 : decode cX7_opensTooMany 4 = .ok (.iload_n 1, 1) := by decide +kernel
theorem dX7_opensTooMany_5 : decode cX7_opensTooMany 5 = .ok (.invokevirtual 189, 3) := by decide +kernel
theorem dX7_opensTooMany_8 : decode cX7_opensTooMany 8 = .ok (.istore_n 3, 1) := by decide +kernel
theorem dX7_opensTooMany_9 : decode cX7_opensTooMany 9 = .ok (.iload_n 2, 1) := by decide +kernel
theorem dX7_opensTooMany_10 : decode cX7_opensTooMany 10 = .ok (.iconst (-1), 1) := by decide +kernel
theorem dX7_opensTooMany_11 : decode cX7_opensTooMany 11 = .ok (.if_icmp .eq 24, 3) := by decide +kernel
theorem dX7_opensTooMany_14 : decode cX7_opensTooMany 14 = .ok (.iload_n 3, 1) := by decide +kernel
theorem dX7_opensTooMany_15 : decode cX7_opensTooMany 15 = .ok (.iload_n 2, 1) := by decide +kernel
theorem dX7_opensTooMany_16 : decode cX7_opensTooMany 16 = .ok (.invokestatic 98, 3) := by decide +kernel
theorem dX7_opensTooMany_19 : decode cX7_opensTooMany 19 = .ok (.ifCond .ne 16, 3) := by decide +kernel
theorem dX7_opensTooMany_22 : decode cX7_opensTooMany 22 = .ok (.iload_n 3, 1) := by decide +kernel
theorem dX7_opensTooMany_23 : decode cX7_opensTooMany 23 = .ok (.invokestatic 179, 3) := by decide +kernel
theorem dX7_opensTooMany_26 : decode cX7_opensTooMany 26 = .ok (.bipush 6, 2) := by decide +kernel
theorem dX7_opensTooMany_28 : decode cX7_opensTooMany 28 = .ok (.if_icmp .lt 7, 3) := by decide +kernel
theorem dX7_opensTooMany_31 : decode cX7_opensTooMany 31 = .ok (.iconst 1, 1) := by decide +kernel
theorem dX7_opensTooMany_32 : decode cX7_opensTooMany 32 = .ok (.goto 4, 3) := by decide +kernel
theorem dX7_opensTooMany_35 : decode cX7_opensTooMany 35 = .ok (.iconst 0, 1) := by decide +kernel
theorem dX7_opensTooMany_36 : decode cX7_opensTooMany 36 = .ok (.ireturn, 1) := by decide +kernel
theorem dX7_change_0 : decode cX7_change 0 = .ok (.aload_n 0, 1) := by decide +kernel
theorem dX7_change_1 : decode cX7_change 1 = .ok (.getfield 10, 3) := by decide +kernel
theorem dX7_change_4 : decode cX7_change 4 = .ok (.iload_n 1, 1) := by decide +kernel
theorem dX7_change_5 : decode cX7_change 5 = .ok (.iload_n 2, 1) := by decide +kernel
theorem dX7_change_6 : decode cX7_change 6 = .ok (.invokevirtual 101, 3) := by decide +kernel
theorem dX7_change_9 : decode cX7_change 9 = .ok (.istore 4, 2) := by decide +kernel
theorem dX7_change_11 : decode cX7_change 11 = .ok (.aload_n 0, 1) := by decide +kernel
theorem dX7_change_12 : decode cX7_change 12 = .ok (.getfield 10, 3) := by decide +kernel
theorem dX7_change_15 : decode cX7_change 15 = .ok (.iload_n 1, 1) := by decide +kernel
theorem dX7_change_16 : decode cX7_change 16 = .ok (.iload_n 2, 1) := by decide +kernel
theorem dX7_change_17 : decode cX7_change 17 = .ok (.iload_n 3, 1) := by decide +kernel
theorem dX7_change_18 : decode cX7_change 18 = .ok (.invokevirtual 107, 3) := by decide +kernel
theorem dX7_change_21 : decode cX7_change 21 = .ok (.iload 4, 2) := by decide +kernel
theorem dX7_change_23 : decode cX7_change 23 = .ok (.iload_n 3, 1) := by decide +kernel
theorem dX7_change_24 : decode cX7_change 24 = .ok (.if_icmp .eq 17, 3) := by decide +kernel
theorem dX7_change_27 : decode cX7_change 27 = .ok (.iload_n 2, 1) := by decide +kernel
theorem dX7_change_28 : decode cX7_change 28 = .ok (.ifCond .eq 8, 3) := by decide +kernel
theorem dX7_change_31 : decode cX7_change 31 = .ok (.iload_n 2, 1) := by decide +kernel
theorem dX7_change_32 : decode cX7_change 32 = .ok (.iconst 5, 1) := by decide +kernel
theorem dX7_change_33 : decode cX7_change 33 = .ok (.if_icmp .ne 8, 3) := by decide +kernel
theorem dX7_change_36 : decode cX7_change 36 = .ok (.aload_n 0, 1) := by decide +kernel
theorem dX7_change_37 : decode cX7_change 37 = .ok (.iload_n 1, 1) := by decide +kernel
theorem dX7_change_38 : decode cX7_change 38 = .ok (.invokevirtual 200, 3) := by decide +kernel
theorem dX7_change_41 : decode cX7_change 41 = .ok (.iload_n 2, 1) := by decide +kernel
theorem dX7_change_42 : decode cX7_change 42 = .ok (.bipush 6, 2) := by decide +kernel
theorem dX7_change_44 : decode cX7_change 44 = .ok (.if_icmp .ne 10, 3) := by decide +kernel
theorem dX7_change_47 : decode cX7_change 47 = .ok (.aload_n 0, 1) := by decide +kernel
theorem dX7_change_48 : decode cX7_change 48 = .ok (.getfield 35, 3) := by decide +kernel
theorem dX7_change_51 : decode cX7_change 51 = .ok (.invokevirtual 80, 3) := by decide +kernel
theorem dX7_change_54 : decode cX7_change 54 = .ok (.iload_n 2, 1) := by decide +kernel
theorem dX7_change_55 : decode cX7_change 55 = .ok (.iconst 5, 1) := by decide +kernel
theorem dX7_change_56 : decode cX7_change 56 = .ok (.if_icmp .ne 25, 3) := by decide +kernel
theorem dX7_change_59 : decode cX7_change 59 = .ok (.aload_n 0, 1) := by decide +kernel
theorem dX7_change_60 : decode cX7_change 60 = .ok (.getfield 10, 3) := by decide +kernel
theorem dX7_change_63 : decode cX7_change 63 = .ok (.invokevirtual 94, 3) := by decide +kernel
theorem dX7_change_66 : decode cX7_change 66 = .ok (.aload_n 0, 1) := by decide +kernel
theorem dX7_change_67 : decode cX7_change 67 = .ok (.getfield 64, 3) := by decide +kernel
theorem dX7_change_70 : decode cX7_change 70 = .ok (.invokestatic 98, 3) := by decide +kernel
theorem dX7_change_73 : decode cX7_change 73 = .ok (.ifCond .ne 8, 3) := by decide +kernel
theorem dX7_change_76 : decode cX7_change 76 = .ok (.aload_n 0, 1) := by decide +kernel
theorem dX7_change_77 : decode cX7_change 77 = .ok (.iconst (-1), 1) := by decide +kernel
theorem dX7_change_78 : decode cX7_change 78 = .ok (.putfield 64, 3) := by decide +kernel
theorem dX7_change_81 : decode cX7_change 81 = .ok (.iload 4, 2) := by decide +kernel
theorem dX7_change_83 : decode cX7_change 83 = .ok (.ireturn, 1) := by decide +kernel
theorem dX7_enter_0 : decode cX7_enter 0 = .ok (.aload_n 0, 1) := by decide +kernel
theorem dX7_enter_1 : decode cX7_enter 1 = .ok (.getfield 10, 3) := by decide +kernel
theorem dX7_enter_4 : decode cX7_enter 4 = .ok (.aload_n 0, 1) := by decide +kernel
theorem dX7_enter_5 : decode cX7_enter 5 = .ok (.getfield 64, 3) := by decide +kernel
theorem dX7_enter_8 : decode cX7_enter 8 = .ok (.invokevirtual 203, 3) := by decide +kernel
theorem dX7_enter_11 : decode cX7_enter 11 = .ok (.istore_n 1, 1) := by decide +kernel
theorem dX7_enter_12 : decode cX7_enter 12 = .ok (.iload_n 1, 1) := by decide +kernel
theorem dX7_enter_13 : decode cX7_enter 13 = .ok (.iconst (-1), 1) := by decide +kernel
theorem dX7_enter_14 : decode cX7_enter 14 = .ok (.if_icmp .eq 21, 3) := by decide +kernel
theorem dX7_enter_17 : decode cX7_enter 17 = .ok (.aload_n 0, 1) := by decide +kernel
theorem dX7_enter_18 : decode cX7_enter 18 = .ok (.iload_n 1, 1) := by decide +kernel
theorem dX7_enter_19 : decode cX7_enter 19 = .ok (.iconst 5, 1) := by decide +kernel
theorem dX7_enter_20 : decode cX7_enter 20 = .ok (.iconst 1, 1) := by decide +kernel
theorem dX7_enter_21 : decode cX7_enter 21 = .ok (.aload_n 0, 1) := by decide +kernel
theorem dX7_enter_22 : decode cX7_enter 22 = .ok (.getfield 10, 3) := by decide +kernel
theorem dX7_enter_25 : decode cX7_enter 25 = .ok (.iload_n 1, 1) := by decide +kernel
theorem dX7_enter_26 : decode cX7_enter 26 = .ok (.iconst 5, 1) := by decide +kernel
theorem dX7_enter_27 : decode cX7_enter 27 = .ok (.invokevirtual 101, 3) := by decide +kernel
theorem dX7_enter_30 : decode cX7_enter 30 = .ok (.isub, 1) := by decide +kernel
theorem dX7_enter_31 : decode cX7_enter 31 = .ok (.invokevirtual 90, 3) := by decide +kernel
theorem dX7_enter_34 : decode cX7_enter 34 = .ok (.pop, 1) := by decide +kernel
theorem dX7_enter_35 : decode cX7_enter 35 = .ok (.return_, 1) := by decide +kernel
theorem dX7_speakOf_0 : decode cX7_speakOf 0 = .ok (.aload_n 0, 1) := by decide +kernel
theorem dX7_speakOf_1 : decode cX7_speakOf 1 = .ok (.getfield 10, 3) := by decide +kernel
theorem dX7_speakOf_4 : decode cX7_speakOf 4 = .ok (.iload_n 1, 1) := by decide +kernel
theorem dX7_speakOf_5 : decode cX7_speakOf 5 = .ok (.invokevirtual 206, 3) := by decide +kernel
theorem dX7_speakOf_8 : decode cX7_speakOf 8 = .ok (.istore_n 2, 1) := by decide +kernel
theorem dX7_speakOf_9 : decode cX7_speakOf 9 = .ok (.aload_n 0, 1) := by decide +kernel
theorem dX7_speakOf_10 : decode cX7_speakOf 10 = .ok (.getfield 10, 3) := by decide +kernel
theorem dX7_speakOf_13 : decode cX7_speakOf 13 = .ok (.invokevirtual 94, 3) := by decide +kernel
theorem dX7_speakOf_16 : decode cX7_speakOf 16 = .ok (.iload_n 2, 1) := by decide +kernel
theorem dX7_speakOf_17 : decode cX7_speakOf 17 = .ok (.invokestatic 98, 3) := by decide +kernel
theorem dX7_speakOf_20 : decode cX7_speakOf 20 = .ok (.ifCond .eq 11, 3) := by decide +kernel
theorem dX7_speakOf_23 : decode cX7_speakOf 23 = .ok (.aload_n 0, 1) := by decide +kernel
theorem dX7_speakOf_24 : decode cX7_speakOf 24 = .ok (.getfield 60, 3) := by decide +kernel
theorem dX7_speakOf_27 : decode cX7_speakOf 27 = .ok (.iload_n 2, 1) := by decide +kernel
theorem dX7_speakOf_28 : decode cX7_speakOf 28 = .ok (.invokevirtual 209, 3) := by decide +kernel
theorem dX7_speakOf_31 : decode cX7_speakOf 31 = .ok (.return_, 1) := by decide +kernel
theorem dX7_isLength_0 : decode cX7_isLength 0 = .ok (.iload_n 0, 1) := by decide +kernel
theorem dX7_isLength_1 : decode cX7_isLength 1 = .ok (.ifCond .lt 14, 3) := by decide +kernel
theorem dX7_isLength_4 : decode cX7_isLength 4 = .ok (.iload_n 0, 1) := by decide +kernel
theorem dX7_isLength_5 : decode cX7_isLength 5 = .ok (.sipush 10000, 3) := by decide +kernel
theorem dX7_isLength_8 : decode cX7_isLength 8 = .ok (.if_icmp .gt 7, 3) := by decide +kernel
theorem dX7_isLength_11 : decode cX7_isLength 11 = .ok (.iconst 1, 1) := by decide +kernel
theorem dX7_isLength_12 : decode cX7_isLength 12 = .ok (.goto 4, 3) := by decide +kernel
theorem dX7_isLength_15 : decode cX7_isLength 15 = .ok (.iconst 0, 1) := by decide +kernel
theorem dX7_isLength_16 : decode cX7_isLength 16 = .ok (.ireturn, 1) := by decide +kernel
theorem dX7_isColour_0 : decode cX7_isColour 0 = .ok (.iload_n 0, 1) := by decide +kernel
theorem dX7_isColour_1 : decode cX7_isColour 1 = .ok (.ifCond .lt 13, 3) := by decide +kernel
theorem dX7_isColour_4 : decode cX7_isColour 4 = .ok (.iload_n 0, 1) := by decide +kernel
theorem dX7_isColour_5 : decode cX7_isColour 5 = .ok (.ldc 211, 2) := by decide +kernel
theorem dX7_isColour_7 : decode cX7_isColour 7 = .ok (.if_icmp .gt 7, 3) := by decide +kernel
theorem dX7_isColour_10 : decode cX7_isColour 10 = .ok (.iconst 1, 1) := by decide +kernel
theorem dX7_isColour_11 : decode cX7_isColour 11 = .ok (.goto 4, 3) := by decide +kernel
theorem dX7_isColour_14 : decode cX7_isColour 14 = .ok (.iconst 0, 1) := by decide +kernel
theorem dX7_isColour_15 : decode cX7_isColour 15 = .ok (.ireturn, 1) := by decide +kernel
theorem dX7_holds_0 : decode cX7_holds 0 = .ok (.iload_n 1, 1) := by decide +kernel
theorem dX7_holds_1 : decode cX7_holds 1 = .ok (.ifCond .lt 21, 3) := by decide +kernel
theorem dX7_holds_4 : decode cX7_holds 4 = .ok (.iload_n 1, 1) := by decide +kernel
theorem dX7_holds_5 : decode cX7_holds 5 = .ok (.bipush 24, 2) := by decide +kernel
theorem dX7_holds_7 : decode cX7_holds 7 = .ok (.if_icmp .ge 15, 3) := by decide +kernel
theorem dX7_holds_10 : decode cX7_holds 10 = .ok (.iload_n 0, 1) := by decide +kernel
theorem dX7_holds_11 : decode cX7_holds 11 = .ok (.iload_n 1, 1) := by decide +kernel
theorem dX7_holds_12 : decode cX7_holds 12 = .ok (.ishr, 1) := by decide +kernel
theorem dX7_holds_13 : decode cX7_holds 13 = .ok (.iconst 1, 1) := by decide +kernel
theorem dX7_holds_14 : decode cX7_holds 14 = .ok (.iand, 1) := by decide +kernel
theorem dX7_holds_15 : decode cX7_holds 15 = .ok (.ifCond .eq 7, 3) := by decide +kernel
theorem dX7_holds_18 : decode cX7_holds 18 = .ok (.iconst 1, 1) := by decide +kernel
theorem dX7_holds_19 : decode cX7_holds 19 = .ok (.goto 4, 3) := by decide +kernel
theorem dX7_holds_22 : decode cX7_holds 22 = .ok (.iconst 0, 1) := by decide +kernel
theorem dX7_holds_23 : decode cX7_holds 23 = .ok (.ireturn, 1) := by decide +kernel
theorem dX7_lastOf_0 : decode cX7_lastOf 0 = .ok (.bipush 23, 2) := by decide +kernel
theorem dX7_lastOf_2 : decode cX7_lastOf 2 = .ok (.istore_n 1, 1) := by decide +kernel
theorem dX7_lastOf_3 : decode cX7_lastOf 3 = .ok (.iload_n 1, 1) := by decide +kernel
theorem dX7_lastOf_4 : decode cX7_lastOf 4 = .ok (.ifCond .lt 19, 3) := by decide +kernel
theorem dX7_lastOf_7 : decode cX7_lastOf 7 = .ok (.iload_n 0, 1) := by decide +kernel
theorem dX7_lastOf_8 : decode cX7_lastOf 8 = .ok (.iload_n 1, 1) := by decide +kernel
theorem dX7_lastOf_9 : decode cX7_lastOf 9 = .ok (.ishr, 1) := by decide +kernel
theorem dX7_lastOf_10 : decode cX7_lastOf 10 = .ok (.iconst 1, 1) := by decide +kernel
theorem dX7_lastOf_11 : decode cX7_lastOf 11 = .ok (.iand, 1) := by decide +kernel
theorem dX7_lastOf_12 : decode cX7_lastOf 12 = .ok (.ifCond .eq 5, 3) := by decide +kernel
theorem dX7_lastOf_15 : decode cX7_lastOf 15 = .ok (.iload_n 1, 1) := by decide +kernel
theorem dX7_lastOf_16 : decode cX7_lastOf 16 = .ok (.ireturn, 1) := by decide +kernel
theorem dX7_lastOf_17 : decode cX7_lastOf 17 = .ok (.iinc 1 (-1), 3) := by decide +kernel
theorem dX7_lastOf_20 : decode cX7_lastOf 20 = .ok (.goto (-17), 3) := by decide +kernel
theorem dX7_lastOf_23 : decode cX7_lastOf 23 = .ok (.iconst (-1), 1) := by decide +kernel
theorem dX7_lastOf_24 : decode cX7_lastOf 24 = .ok (.ireturn, 1) := by decide +kernel
theorem dX7_light_0 : decode cX7_light 0 = .ok (.sipush 2126, 3) := by decide +kernel
theorem dX7_light_3 : decode cX7_light 3 = .ok (.iload_n 0, 1) := by decide +kernel
theorem dX7_light_4 : decode cX7_light 4 = .ok (.bipush 16, 2) := by decide +kernel
theorem dX7_light_6 : decode cX7_light 6 = .ok (.ishr, 1) := by decide +kernel
theorem dX7_light_7 : decode cX7_light 7 = .ok (.sipush 255, 3) := by decide +kernel
theorem dX7_light_10 : decode cX7_light 10 = .ok (.iand, 1) := by decide +kernel
theorem dX7_light_11 : decode cX7_light 11 = .ok (.imul, 1) := by decide +kernel
theorem dX7_light_12 : decode cX7_light 12 = .ok (.sipush 7152, 3) := by decide +kernel
theorem dX7_light_15 : decode cX7_light 15 = .ok (.iload_n 0, 1) := by decide +kernel
theorem dX7_light_16 : decode cX7_light 16 = .ok (.bipush 8, 2) := by decide +kernel
theorem dX7_light_18 : decode cX7_light 18 = .ok (.ishr, 1) := by decide +kernel
theorem dX7_light_19 : decode cX7_light 19 = .ok (.sipush 255, 3) := by decide +kernel
theorem dX7_light_22 : decode cX7_light 22 = .ok (.iand, 1) := by decide +kernel
theorem dX7_light_23 : decode cX7_light 23 = .ok (.imul, 1) := by decide +kernel
theorem dX7_light_24 : decode cX7_light 24 = .ok (.iadd, 1) := by decide +kernel
theorem dX7_light_25 : decode cX7_light 25 = .ok (.sipush 722, 3) := by decide +kernel
theorem dX7_light_28 : decode cX7_light 28 = .ok (.iload_n 0, 1) := by decide +kernel
theorem dX7_light_29 : decode cX7_light 29 = .ok (.sipush 255, 3) := by decide +kernel
theorem dX7_light_32 : decode cX7_light 32 = .ok (.iand, 1) := by decide +kernel
theorem dX7_light_33 : decode cX7_light 33 = .ok (.imul, 1) := by decide +kernel
theorem dX7_light_34 : decode cX7_light 34 = .ok (.iadd, 1) := by decide +kernel
theorem dX7_light_35 : decode cX7_light 35 = .ok (.ireturn, 1) := by decide +kernel
theorem dX7_contrastBetween_0 : decode cX7_contrastBetween 0 = .ok (.iload_n 0, 1) := by decide +kernel
theorem dX7_contrastBetween_1 : decode cX7_contrastBetween 1 = .ok (.invokestatic 212, 3) := by decide +kernel
theorem dX7_contrastBetween_4 : decode cX7_contrastBetween 4 = .ok (.iload_n 1, 1) := by decide +kernel
theorem dX7_contrastBetween_5 : decode cX7_contrastBetween 5 = .ok (.invokestatic 212, 3) := by decide +kernel
theorem dX7_contrastBetween_8 : decode cX7_contrastBetween 8 = .ok (.invokestatic 215, 3) := by decide +kernel
theorem dX7_contrastBetween_11 : decode cX7_contrastBetween 11 = .ok (.ldc 220, 2) := by decide +kernel
theorem dX7_contrastBetween_13 : decode cX7_contrastBetween 13 = .ok (.iadd, 1) := by decide +kernel
theorem dX7_contrastBetween_14 : decode cX7_contrastBetween 14 = .ok (.i2l, 1) := by decide +kernel
theorem dX7_contrastBetween_15 : decode cX7_contrastBetween 15 = .ok (.lstore_n 2, 1) := by decide +kernel
theorem dX7_contrastBetween_16 : decode cX7_contrastBetween 16 = .ok (.iload_n 0, 1) := by decide +kernel
theorem dX7_contrastBetween_17 : decode cX7_contrastBetween 17 = .ok (.invokestatic 212, 3) := by decide +kernel
theorem dX7_contrastBetween_20 : decode cX7_contrastBetween 20 = .ok (.iload_n 1, 1) := by decide +kernel
theorem dX7_contrastBetween_21 : decode cX7_contrastBetween 21 = .ok (.invokestatic 212, 3) := by decide +kernel
theorem dX7_contrastBetween_24 : decode cX7_contrastBetween 24 = .ok (.invokestatic 221, 3) := by decide +kernel
theorem dX7_contrastBetween_27 : decode cX7_contrastBetween 27 = .ok (.ldc 220, 2) := by decide +kernel
theorem dX7_contrastBetween_29 : decode cX7_contrastBetween 29 = .ok (.iadd, 1) := by decide +kernel
theorem dX7_contrastBetween_30 : decode cX7_contrastBetween 30 = .ok (.i2l, 1) := by decide +kernel
theorem dX7_contrastBetween_31 : decode cX7_contrastBetween 31 = .ok (.lstore 4, 2) := by decide +kernel
theorem dX7_contrastBetween_33 : decode cX7_contrastBetween 33 = .ok (.ldc2_w 224, 3) := by decide +kernel
theorem dX7_contrastBetween_36 : decode cX7_contrastBetween 36 = .ok (.lload_n 2, 1) := by decide +kernel
theorem dX7_contrastBetween_37 : decode cX7_contrastBetween 37 = .ok (.lmul, 1) := by decide +kernel
theorem dX7_contrastBetween_38 : decode cX7_contrastBetween 38 = .ok (.lload 4, 2) := by decide +kernel
theorem dX7_contrastBetween_40 : decode cX7_contrastBetween 40 = .ok (.ldiv, 1) := by decide +kernel
theorem dX7_contrastBetween_41 : decode cX7_contrastBetween 41 = .ok (.l2i, 1) := by decide +kernel
theorem dX7_contrastBetween_42 : decode cX7_contrastBetween 42 = .ok (.ireturn, 1) := by decide +kernel
theorem dJ6_bitCount_0f7a4_0 : decode cJ6_bitCount_0f7a4 0 = .ok (.iload_n 0, 1) := by decide +kernel
theorem dJ6_bitCount_0f7a4_1 : decode cJ6_bitCount_0f7a4 1 = .ok (.iload_n 0, 1) := by decide +kernel
theorem dJ6_bitCount_0f7a4_2 : decode cJ6_bitCount_0f7a4 2 = .ok (.iconst 1, 1) := by decide +kernel
theorem dJ6_bitCount_0f7a4_3 : decode cJ6_bitCount_0f7a4 3 = .ok (.iushr, 1) := by decide +kernel
theorem dJ6_bitCount_0f7a4_4 : decode cJ6_bitCount_0f7a4 4 = .ok (.ldc_w 265, 3) := by decide +kernel
theorem dJ6_bitCount_0f7a4_7 : decode cJ6_bitCount_0f7a4 7 = .ok (.iand, 1) := by decide +kernel
theorem dJ6_bitCount_0f7a4_8 : decode cJ6_bitCount_0f7a4 8 = .ok (.isub, 1) := by decide +kernel
theorem dJ6_bitCount_0f7a4_9 : decode cJ6_bitCount_0f7a4 9 = .ok (.istore_n 0, 1) := by decide +kernel
theorem dJ6_bitCount_0f7a4_10 : decode cJ6_bitCount_0f7a4 10 = .ok (.iload_n 0, 1) := by decide +kernel
theorem dJ6_bitCount_0f7a4_11 : decode cJ6_bitCount_0f7a4 11 = .ok (.ldc_w 266, 3) := by decide +kernel
theorem dJ6_bitCount_0f7a4_14 : decode cJ6_bitCount_0f7a4 14 = .ok (.iand, 1) := by decide +kernel
theorem dJ6_bitCount_0f7a4_15 : decode cJ6_bitCount_0f7a4 15 = .ok (.iload_n 0, 1) := by decide +kernel
theorem dJ6_bitCount_0f7a4_16 : decode cJ6_bitCount_0f7a4 16 = .ok (.iconst 2, 1) := by decide +kernel
theorem dJ6_bitCount_0f7a4_17 : decode cJ6_bitCount_0f7a4 17 = .ok (.iushr, 1) := by decide +kernel
theorem dJ6_bitCount_0f7a4_18 : decode cJ6_bitCount_0f7a4 18 = .ok (.ldc_w 266, 3) := by decide +kernel
theorem dJ6_bitCount_0f7a4_21 : decode cJ6_bitCount_0f7a4 21 = .ok (.iand, 1) := by decide +kernel
theorem dJ6_bitCount_0f7a4_22 : decode cJ6_bitCount_0f7a4 22 = .ok (.iadd, 1) := by decide +kernel
theorem dJ6_bitCount_0f7a4_23 : decode cJ6_bitCount_0f7a4 23 = .ok (.istore_n 0, 1) := by decide +kernel
theorem dJ6_bitCount_0f7a4_24 : decode cJ6_bitCount_0f7a4 24 = .ok (.iload_n 0, 1) := by decide +kernel
theorem dJ6_bitCount_0f7a4_25 : decode cJ6_bitCount_0f7a4 25 = .ok (.iload_n 0, 1) := by decide +kernel
theorem dJ6_bitCount_0f7a4_26 : decode cJ6_bitCount_0f7a4 26 = .ok (.iconst 4, 1) := by decide +kernel
theorem dJ6_bitCount_0f7a4_27 : decode cJ6_bitCount_0f7a4 27 = .ok (.iushr, 1) := by decide +kernel
theorem dJ6_bitCount_0f7a4_28 : decode cJ6_bitCount_0f7a4 28 = .ok (.iadd, 1) := by decide +kernel
theorem dJ6_bitCount_0f7a4_29 : decode cJ6_bitCount_0f7a4 29 = .ok (.ldc_w 267, 3) := by decide +kernel
theorem dJ6_bitCount_0f7a4_32 : decode cJ6_bitCount_0f7a4 32 = .ok (.iand, 1) := by decide +kernel
theorem dJ6_bitCount_0f7a4_33 : decode cJ6_bitCount_0f7a4 33 = .ok (.istore_n 0, 1) := by decide +kernel
theorem dJ6_bitCount_0f7a4_34 : decode cJ6_bitCount_0f7a4 34 = .ok (.iload_n 0, 1) := by decide +kernel
theorem dJ6_bitCount_0f7a4_35 : decode cJ6_bitCount_0f7a4 35 = .ok (.iload_n 0, 1) := by decide +kernel
theorem dJ6_bitCount_0f7a4_36 : decode cJ6_bitCount_0f7a4 36 = .ok (.bipush 8, 2) := by decide +kernel
theorem dJ6_bitCount_0f7a4_38 : decode cJ6_bitCount_0f7a4 38 = .ok (.iushr, 1) := by decide +kernel
theorem dJ6_bitCount_0f7a4_39 : decode cJ6_bitCount_0f7a4 39 = .ok (.iadd, 1) := by decide +kernel
theorem dJ6_bitCount_0f7a4_40 : decode cJ6_bitCount_0f7a4 40 = .ok (.istore_n 0, 1) := by decide +kernel
theorem dJ6_bitCount_0f7a4_41 : decode cJ6_bitCount_0f7a4 41 = .ok (.iload_n 0, 1) := by decide +kernel
theorem dJ6_bitCount_0f7a4_42 : decode cJ6_bitCount_0f7a4 42 = .ok (.iload_n 0, 1) := by decide +kernel
theorem dJ6_bitCount_0f7a4_43 : decode cJ6_bitCount_0f7a4 43 = .ok (.bipush 16, 2) := by decide +kernel
theorem dJ6_bitCount_0f7a4_45 : decode cJ6_bitCount_0f7a4 45 = .ok (.iushr, 1) := by decide +kernel
theorem dJ6_bitCount_0f7a4_46 : decode cJ6_bitCount_0f7a4 46 = .ok (.iadd, 1) := by decide +kernel
theorem dJ6_bitCount_0f7a4_47 : decode cJ6_bitCount_0f7a4 47 = .ok (.istore_n 0, 1) := by decide +kernel
theorem dJ6_bitCount_0f7a4_48 : decode cJ6_bitCount_0f7a4 48 = .ok (.iload_n 0, 1) := by decide +kernel
theorem dJ6_bitCount_0f7a4_49 : decode cJ6_bitCount_0f7a4 49 = .ok (.bipush 63, 2) := by decide +kernel
theorem dJ6_bitCount_0f7a4_51 : decode cJ6_bitCount_0f7a4 51 = .ok (.iand, 1) := by decide +kernel
theorem dJ6_bitCount_0f7a4_52 : decode cJ6_bitCount_0f7a4 52 = .ok (.ireturn, 1) := by decide +kernel
theorem dJ9_max_7cf53_0 : decode cJ9_max_7cf53 0 = .ok (.iload_n 0, 1) := by decide +kernel
theorem dJ9_max_7cf53_1 : decode cJ9_max_7cf53 1 = .ok (.iload_n 1, 1) := by decide +kernel
theorem dJ9_max_7cf53_2 : decode cJ9_max_7cf53 2 = .ok (.if_icmp .lt 7, 3) := by decide +kernel
theorem dJ9_max_7cf53_5 : decode cJ9_max_7cf53 5 = .ok (.iload_n 0, 1) := by decide +kernel
theorem dJ9_max_7cf53_6 : decode cJ9_max_7cf53 6 = .ok (.goto 4, 3) := by decide +kernel
theorem dJ9_max_7cf53_9 : decode cJ9_max_7cf53 9 = .ok (.iload_n 1, 1) := by decide +kernel
theorem dJ9_max_7cf53_10 : decode cJ9_max_7cf53 10 = .ok (.ireturn, 1) := by decide +kernel
theorem dJ9_min_7cf53_0 : decode cJ9_min_7cf53 0 = .ok (.iload_n 0, 1) := by decide +kernel
theorem dJ9_min_7cf53_1 : decode cJ9_min_7cf53 1 = .ok (.iload_n 1, 1) := by decide +kernel
theorem dJ9_min_7cf53_2 : decode cJ9_min_7cf53 2 = .ok (.if_icmp .gt 7, 3) := by decide +kernel
theorem dJ9_min_7cf53_5 : decode cJ9_min_7cf53 5 = .ok (.iload_n 0, 1) := by decide +kernel
theorem dJ9_min_7cf53_6 : decode cJ9_min_7cf53 6 = .ok (.goto 4, 3) := by decide +kernel
theorem dJ9_min_7cf53_9 : decode cJ9_min_7cf53 9 = .ok (.iload_n 1, 1) := by decide +kernel
theorem dJ9_min_7cf53_10 : decode cJ9_min_7cf53 10 = .ok (.ireturn, 1) := by decide +kernel
end
section
theorem dX8_init_0 : decode cX8_init 0 = .ok (.aload_n 0, 1) := by decide +kernel
theorem dX8_init_1 : decode cX8_init 1 = .ok (.invokespecial 1, 3) := by decide +kernel
theorem dX8_init_4 : decode cX8_init 4 = .ok (.aload_n 0, 1) := by decide +kernel
theorem dX8_init_5 : decode cX8_init 5 = .ok (.sipush 432, 3) := by decide +kernel
theorem dX8_init_8 : decode cX8_init 8 = .ok (.newarray .int, 2) := by decide +kernel
theorem dX8_init_10 : decode cX8_init 10 = .ok (.putfield 7, 3) := by decide +kernel
theorem dX8_init_13 : decode cX8_init 13 = .ok (.aload_n 0, 1) := by decide +kernel
theorem dX8_init_14 : decode cX8_init 14 = .ok (.bipush 24, 2) := by decide +kernel
theorem dX8_init_16 : decode cX8_init 16 = .ok (.newarray .int, 2) := by decide +kernel
theorem dX8_init_18 : decode cX8_init 18 = .ok (.putfield 13, 3) := by decide +kernel
theorem dX8_init_21 : decode cX8_init 21 = .ok (.aload_n 0, 1) := by decide +kernel
theorem dX8_init_22 : decode cX8_init 22 = .ok (.bipush 24, 2) := by decide +kernel
theorem dX8_init_24 : decode cX8_init 24 = .ok (.newarray .int, 2) := by decide +kernel
theorem dX8_init_26 : decode cX8_init 26 = .ok (.putfield 16, 3) := by decide +kernel
theorem dX8_init_29 : decode cX8_init 29 = .ok (.aload_n 0, 1) := by decide +kernel
theorem dX8_init_30 : decode cX8_init 30 = .ok (.bipush 24, 2) := by decide +kernel
theorem dX8_init_32 : decode cX8_init 32 = .ok (.newarray .int, 2) := by decide +kernel
theorem dX8_init_34 : decode cX8_init 34 = .ok (.putfield 19, 3) := by decide +kernel
theorem dX8_init_37 : decode cX8_init 37 = .ok (.aload_n 0, 1) := by decide +kernel
theorem dX8_init_38 : decode cX8_init 38 = .ok (.sipush 192, 3) := by decide +kernel
theorem dX8_init_41 : decode cX8_init 41 = .ok (.newarray .int, 2) := by decide +kernel
theorem dX8_init_43 : decode cX8_init 43 = .ok (.putfield 22, 3) := by decide +kernel
theorem dX8_init_46 : decode cX8_init 46 = .ok (.aload_n 0, 1) := by decide +kernel
theorem dX8_init_47 : decode cX8_init 47 = .ok (.bipush 24, 2) := by decide +kernel
theorem dX8_init_49 : decode cX8_init 49 = .ok (.newarray .int, 2) := by decide +kernel
theorem dX8_init_51 : decode cX8_init 51 = .ok (.putfield 25, 3) := by decide +kernel
theorem dX8_init_54 : decode cX8_init 54 = .ok (.aload_n 0, 1) := by decide +kernel
theorem dX8_init_55 : decode cX8_init 55 = .ok (.bipush 24, 2) := by decide +kernel
theorem dX8_init_57 : decode cX8_init 57 = .ok (.newarray .int, 2) := by decide +kernel
theorem dX8_init_59 : decode cX8_init 59 = .ok (.putfield 28, 3) := by decide +kernel
theorem dX8_init_62 : decode cX8_init 62 = .ok (.aload_n 0, 1) := by decide +kernel
theorem dX8_init_63 : decode cX8_init 63 = .ok (.bipush 24, 2) := by decide +kernel
theorem dX8_init_65 : decode cX8_init 65 = .ok (.newarray .int, 2) := by decide +kernel
theorem dX8_init_67 : decode cX8_init 67 = .ok (.putfield 31, 3) := by decide +kernel
theorem dX8_init_70 : decode cX8_init 70 = .ok (.aload_n 0, 1) := by decide +kernel
theorem dX8_init_71 : decode cX8_init 71 = .ok (.bipush 6, 2) := by decide +kernel
theorem dX8_init_73 : decode cX8_init 73 = .ok (.newarray .int, 2) := by decide +kernel
theorem dX8_init_75 : decode cX8_init 75 = .ok (.putfield 34, 3) := by decide +kernel
theorem dX8_init_78 : decode cX8_init 78 = .ok (.aload_n 0, 1) := by decide +kernel
theorem dX8_init_79 : decode cX8_init 79 = .ok (.sipush 1600, 3) := by decide +kernel
theorem dX8_init_82 : decode cX8_init 82 = .ok (.newarray .int, 2) := by decide +kernel
theorem dX8_init_84 : decode cX8_init 84 = .ok (.putfield 37, 3) := by decide +kernel
theorem dX8_init_87 : decode cX8_init 87 = .ok (.aload_n 0, 1) := by decide +kernel
theorem dX8_init_88 : decode cX8_init 88 = .ok (.sipush 1600, 3) := by decide +kernel
theorem dX8_init_91 : decode cX8_init 91 = .ok (.newarray .int, 2) := by decide +kernel
theorem dX8_init_93 : decode cX8_init 93 = .ok (.putfield 40, 3) := by decide +kernel
theorem dX8_init_96 : decode cX8_init 96 = .ok (.aload_n 0, 1) := by decide +kernel
theorem dX8_init_97 : decode cX8_init 97 = .ok (.sipush 144, 3) := by decide +kernel
theorem dX8_init_100 : decode cX8_init 100 = .ok (.newarray .int, 2) := by decide +kernel
theorem dX8_init_102 : decode cX8_init 102 = .ok (.putfield 43, 3) := by decide +kernel
theorem dX8_init_105 : decode cX8_init 105 = .ok (.aload_n 0, 1) := by decide +kernel
theorem dX8_init_106 : decode cX8_init 106 = .ok (.sipush 144, 3) := by decide +kernel
theorem dX8_init_109 : decode cX8_init 109 = .ok (.newarray .int, 2) := by decide +kernel
theorem dX8_init_111 : decode cX8_init 111 = .ok (.putfield 46, 3) := by decide +kernel
theorem dX8_init_114 : decode cX8_init 114 = .ok (.aload_n 0, 1) := by decide +kernel
theorem dX8_init_115 : decode cX8_init 115 = .ok (.iconst (-1), 1) := by decide +kernel
theorem dX8_init_116 : decode cX8_init 116 = .ok (.putfield 49, 3) := by decide +kernel
theorem dX8_init_119 : decode cX8_init 119 = .ok (.aload_n 0, 1) := by decide +kernel
theorem dX8_init_120 : decode cX8_init 120 = .ok (.iconst 0, 1) := by decide +kernel
theorem dX8_init_121 : decode cX8_init 121 = .ok (.iconst 0, 1) := by decide +kernel
theorem dX8_init_122 : decode cX8_init 122 = .ok (.iconst (-1), 1) := by decide +kernel
theorem dX8_init_123 : decode cX8_init 123 = .ok (.invokevirtual 53, 3) := by decide +kernel
theorem dX8_init_126 : decode cX8_init 126 = .ok (.aload_n 0, 1) := by decide +kernel
theorem dX8_init_127 : decode cX8_init 127 = .ok (.iconst 1, 1) := by decide +kernel
theorem dX8_init_128 : decode cX8_init 128 = .ok (.putfield 57, 3) := by decide +kernel
theorem dX8_init_131 : decode cX8_init 131 = .ok (.return_, 1) := by decide +kernel
theorem dX8_in_0 : decode cX8_in 0 = .ok (.lload_n 0, 1) := by decide +kernel
theorem dX8_in_1 : decode cX8_in 1 = .ok (.lload_n 2, 1) := by decide +kernel
theorem dX8_in_2 : decode cX8_in 2 = .ok (.lcmp, 1) := by decide +kernel
theorem dX8_in_3 : decode cX8_in 3 = .ok (.ifCond .lt 14, 3) := by decide +kernel
theorem dX8_in_6 : decode cX8_in 6 = .ok (.lload_n 0, 1) := by decide +kernel
theorem dX8_in_7 : decode cX8_in 7 = .ok (.lload 4, 2) := by decide +kernel
theorem dX8_in_9 : decode cX8_in 9 = .ok (.lcmp, 1) := by decide +kernel
theorem dX8_in_10 : decode cX8_in 10 = .ok (.ifCond .gt 7, 3) := by decide +kernel
theorem dX8_in_13 : decode cX8_in 13 = .ok (.iconst 1, 1) := by decide +kernel
theorem dX8_in_14 : decode cX8_in 14 = .ok (.goto 4, 3) := by decide +kernel
theorem dX8_in_17 : decode cX8_in 17 = .ok (.iconst 0, 1) := by decide +kernel
theorem dX8_in_18 : decode cX8_in 18 = .ok (.ireturn, 1) := by decide +kernel
theorem dX8_get_0 : decode cX8_get 0 = .ok (.aload_n 0, 1) := by decide +kernel
theorem dX8_get_1 : decode cX8_get 1 = .ok (.getfield 7, 3) := by decide +kernel
theorem dX8_get_4 : decode cX8_get 4 = .ok (.bipush 18, 2) := by decide +kernel
theorem dX8_get_6 : decode cX8_get 6 = .ok (.iload_n 1, 1) := by decide +kernel
theorem dX8_get_7 : decode cX8_get 7 = .ok (.imul, 1) := by decide +kernel
theorem dX8_get_8 : decode cX8_get 8 = .ok (.iload_n 2, 1) := by decide +kernel
theorem dX8_get_9 : decode cX8_get 9 = .ok (.iadd, 1) := by decide +kernel
theorem dX8_get_10 : decode cX8_get 10 = .ok (.iaload, 1) := by decide +kernel
theorem dX8_get_11 : decode cX8_get 11 = .ok (.ireturn, 1) := by decide +kernel
theorem dX8_put_0 : decode cX8_put 0 = .ok (.aload_n 0, 1) := by decide +kernel
theorem dX8_put_1 : decode cX8_put 1 = .ok (.getfield 7, 3) := by decide +kernel
theorem dX8_put_4 : decode cX8_put 4 = .ok (.bipush 18, 2) := by decide +kernel
theorem dX8_put_6 : decode cX8_put 6 = .ok (.iload_n 1, 1) := by decide +kernel
theorem dX8_put_7 : decode cX8_put 7 = .ok (.imul, 1) := by decide +kernel
theorem dX8_put_8 : decode cX8_put 8 = .ok (.iload_n 2, 1) := by decide +kernel
theorem dX8_put_9 : decode cX8_put 9 = .ok (.iadd, 1) := by decide +kernel
theorem dX8_put_10 : decode cX8_put 10 = .ok (.iload_n 3, 1) := by decide +kernel
theorem dX8_put_11 : decode cX8_put 11 = .ok (.iastore, 1) := by decide +kernel
theorem dX8_put_12 : decode cX8_put 12 = .ok (.return_, 1) := by decide +kernel
theorem dX8_begin_0 : decode cX8_begin 0 = .ok (.iconst 0, 1) := by decide +kernel
theorem dX8_begin_1 : decode cX8_begin 1 = .ok (.istore 4, 2) := by decide +kernel
theorem dX8_begin_3 : decode cX8_begin 3 = .ok (.iload 4, 2) := by decide +kernel
theorem dX8_begin_5 : decode cX8_begin 5 = .ok (.bipush 18, 2) := by decide +kernel
theorem dX8_begin_7 : decode cX8_begin 7 = .ok (.if_icmp .ge 17, 3) := by decide +kernel
theorem dX8_begin_10 : decode cX8_begin 10 = .ok (.aload_n 0, 1) := by decide +kernel
theorem dX8_begin_11 : decode cX8_begin 11 = .ok (.iload_n 1, 1) := by decide +kernel
theorem dX8_begin_12 : decode cX8_begin 12 = .ok (.iload 4, 2) := by decide +kernel
theorem dX8_begin_14 : decode cX8_begin 14 = .ok (.iconst 0, 1) := by decide +kernel
theorem dX8_begin_15 : decode cX8_begin 15 = .ok (.invokevirtual 60, 3) := by decide +kernel
theorem dX8_begin_18 : decode cX8_begin 18 = .ok (.iinc 4 1, 3) := by decide +kernel
theorem dX8_begin_21 : decode cX8_begin 21 = .ok (.goto (-18), 3) := by decide +kernel
theorem dX8_begin_24 : decode cX8_begin 24 = .ok (.aload_n 0, 1) := by decide +kernel
theorem dX8_begin_25 : decode cX8_begin 25 = .ok (.iload_n 1, 1) := by decide +kernel
theorem dX8_begin_26 : decode cX8_begin 26 = .ok (.iconst 3, 1) := by decide +kernel
theorem dX8_begin_27 : decode cX8_begin 27 = .ok (.iconst (-1), 1) := by decide +kernel
theorem dX8_begin_28 : decode cX8_begin 28 = .ok (.invokevirtual 60, 3) := by decide +kernel
theorem dX8_begin_31 : decode cX8_begin 31 = .ok (.aload_n 0, 1) := by decide +kernel
theorem dX8_begin_32 : decode cX8_begin 32 = .ok (.iload_n 1, 1) := by decide +kernel
theorem dX8_begin_33 : decode cX8_begin 33 = .ok (.iconst 4, 1) := by decide +kernel
theorem dX8_begin_34 : decode cX8_begin 34 = .ok (.iconst (-1), 1) := by decide +kernel
theorem dX8_begin_35 : decode cX8_begin 35 = .ok (.invokevirtual 60, 3) := by decide +kernel
theorem dX8_begin_38 : decode cX8_begin 38 = .ok (.aload_n 0, 1) := by decide +kernel
theorem dX8_begin_39 : decode cX8_begin 39 = .ok (.iload_n 1, 1) := by decide +kernel
theorem dX8_begin_40 : decode cX8_begin 40 = .ok (.bipush 7, 2) := by decide +kernel
theorem dX8_begin_42 : decode cX8_begin 42 = .ok (.iconst (-1), 1) := by decide +kernel
theorem dX8_begin_43 : decode cX8_begin 43 = .ok (.invokevirtual 60, 3) := by decide +kernel
theorem dX8_begin_46 : decode cX8_begin 46 = .ok (.aload_n 0, 1) := by decide +kernel
theorem dX8_begin_47 : decode cX8_begin 47 = .ok (.iload_n 1, 1) := by decide +kernel
theorem dX8_begin_48 : decode cX8_begin 48 = .ok (.bipush 10, 2) := by decide +kernel
theorem dX8_begin_50 : decode cX8_begin 50 = .ok (.iload_n 2, 1) := by decide +kernel
theorem dX8_begin_51 : decode cX8_begin 51 = .ok (.invokevirtual 60, 3) := by decide +kernel
theorem dX8_begin_54 : decode cX8_begin 54 = .ok (.aload_n 0, 1) := by decide +kernel
theorem dX8_begin_55 : decode cX8_begin 55 = .ok (.iload_n 1, 1) := by decide +kernel
theorem dX8_begin_56 : decode cX8_begin 56 = .ok (.bipush 11, 2) := by decide +kernel
theorem dX8_begin_58 : decode cX8_begin 58 = .ok (.iload_n 3, 1) := by decide +kernel
theorem dX8_begin_59 : decode cX8_begin 59 = .ok (.invokevirtual 60, 3) := by decide +kernel
theorem dX8_begin_62 : decode cX8_begin 62 = .ok (.aload_n 0, 1) := by decide +kernel
theorem dX8_begin_63 : decode cX8_begin 63 = .ok (.iload_n 1, 1) := by decide +kernel
theorem dX8_begin_64 : decode cX8_begin 64 = .ok (.bipush 17, 2) := by decide +kernel
theorem dX8_begin_66 : decode cX8_begin 66 = .ok (.ldc 63, 2) := by decide +kernel
theorem dX8_begin_68 : decode cX8_begin 68 = .ok (.invokevirtual 60, 3) := by decide +kernel
theorem dX8_begin_71 : decode cX8_begin 71 = .ok (.return_, 1) := by decide +kernel
theorem dX8_isPart_0 : decode cX8_isPart 0 = .ok (.iload_n 1, 1) := by decide +kernel
theorem dX8_isPart_1 : decode cX8_isPart 1 = .ok (.i2l, 1) := by decide +kernel
theorem dX8_isPart_2 : decode cX8_isPart 2 = .ok (.lconst 0, 1) := by decide +kernel
theorem dX8_isPart_3 : decode cX8_isPart 3 = .ok (.aload_n 0, 1) := by decide +kernel
theorem dX8_isPart_4 : decode cX8_isPart 4 = .ok (.getfield 57, 3) := by decide +kernel
theorem dX8_isPart_7 : decode cX8_isPart 7 = .ok (.iconst 1, 1) := by decide +kernel
theorem dX8_isPart_8 : decode cX8_isPart 8 = .ok (.isub, 1) := by decide +kernel
theorem dX8_isPart_9 : decode cX8_isPart 9 = .ok (.i2l, 1) := by decide +kernel
theorem dX8_isPart_10 : decode cX8_isPart 10 = .ok (.invokestatic 64, 3) := by decide +kernel
theorem dX8_isPart_13 : decode cX8_isPart 13 = .ok (.ireturn, 1) := by decide +kernel
theorem dX8_part_0 : decode cX8_part 0 = .ok (.aload_n 0, 1) := by decide +kernel
theorem dX8_part_1 : decode cX8_part 1 = .ok (.iload_n 1, 1) := by decide +kernel
theorem dX8_part_2 : decode cX8_part 2 = .ok (.invokevirtual 68, 3) := by decide +kernel
theorem dX8_part_5 : decode cX8_part 5 = .ok (.ifCond .ne 6, 3) := by decide +kernel
theorem dX8_part_8 : decode cX8_part 8 = .ok (.bipush (-101), 2) := by decide +kernel
theorem dX8_part_10 : decode cX8_part 10 = .ok (.ireturn, 1) := by decide +kernel
theorem dX8_part_11 : decode cX8_part 11 = .ok (.iload_n 2, 1) := by decide +kernel
theorem dX8_part_12 : decode cX8_part 12 = .ok (.i2l, 1) := by decide +kernel
theorem dX8_part_13 : decode cX8_part 13 = .ok (.lconst 0, 1) := by decide +kernel
theorem dX8_part_14 : decode cX8_part 14 = .ok (.ldc2_w 72, 3) := by decide +kernel
theorem dX8_part_17 : decode cX8_part 17 = .ok (.invokestatic 64, 3) := by decide +kernel
theorem dX8_part_20 : decode cX8_part 20 = .ok (.ifCond .ne 6, 3) := by decide +kernel
theorem dX8_part_23 : decode cX8_part 23 = .ok (.bipush (-102), 2) := by decide +kernel
theorem dX8_part_25 : decode cX8_part 25 = .ok (.ireturn, 1) := by decide +kernel
theorem dX8_part_26 : decode cX8_part 26 = .ok (.aload_n 0, 1) := by decide +kernel
theorem dX8_part_27 : decode cX8_part 27 = .ok (.getfield 57, 3) := by decide +kernel
theorem dX8_part_30 : decode cX8_part 30 = .ok (.bipush 24, 2) := by decide +kernel
theorem dX8_part_32 : decode cX8_part 32 = .ok (.if_icmp .ne 6, 3) := by decide +kernel
theorem dX8_part_35 : decode cX8_part 35 = .ok (.bipush (-104), 2) := by decide +kernel
theorem dX8_part_37 : decode cX8_part 37 = .ok (.ireturn, 1) := by decide +kernel
theorem dX8_part_38 : decode cX8_part 38 = .ok (.aload_n 0, 1) := by decide +kernel
theorem dX8_part_39 : decode cX8_part 39 = .ok (.aload_n 0, 1) := by decide +kernel
theorem dX8_part_40 : decode cX8_part 40 = .ok (.getfield 57, 3) := by decide +kernel
theorem dX8_part_43 : decode cX8_part 43 = .ok (.iload_n 2, 1) := by decide +kernel
theorem dX8_part_44 : decode cX8_part 44 = .ok (.iload_n 1, 1) := by decide +kernel
theorem dX8_part_45 : decode cX8_part 45 = .ok (.invokevirtual 53, 3) := by decide +kernel
theorem dX8_part_48 : decode cX8_part 48 = .ok (.aload_n 0, 1) := by decide +kernel
theorem dX8_part_49 : decode cX8_part 49 = .ok (.dup, 1) := by decide +kernel
theorem dX8_part_50 : decode cX8_part 50 = .ok (.getfield 57, 3) := by decide +kernel
theorem dX8_part_53 : decode cX8_part 53 = .ok (.iconst 1, 1) := by decide +kernel
theorem dX8_part_54 : decode cX8_part 54 = .ok (.iadd, 1) := by decide +kernel
theorem dX8_part_55 : decode cX8_part 55 = .ok (.putfield 57, 3) := by decide +kernel
theorem dX8_part_58 : decode cX8_part 58 = .ok (.aload_n 0, 1) := by decide +kernel
theorem dX8_part_59 : decode cX8_part 59 = .ok (.getfield 57, 3) := by decide +kernel
theorem dX8_part_62 : decode cX8_part 62 = .ok (.iconst 1, 1) := by decide +kernel
theorem dX8_part_63 : decode cX8_part 63 = .ok (.isub, 1) := by decide +kernel
theorem dX8_part_64 : decode cX8_part 64 = .ok (.ireturn, 1) := by decide +kernel
theorem dX8_isShown_0 : decode cX8_isShown 0 = .ok (.iload_n 1, 1) := by decide +kernel
theorem dX8_isShown_1 : decode cX8_isShown 1 = .ok (.istore_n 2, 1) := by decide +kernel
theorem dX8_isShown_2 : decode cX8_isShown 2 = .ok (.iload_n 2, 1) := by decide +kernel
theorem dX8_isShown_3 : decode cX8_isShown 3 = .ok (.iconst (-1), 1) := by decide +kernel
theorem dX8_isShown_4 : decode cX8_isShown 4 = .ok (.if_icmp .eq 23, 3) := by decide +kernel
theorem dX8_isShown_7 : decode cX8_isShown 7 = .ok (.aload_n 0, 1) := by decide +kernel
theorem dX8_isShown_8 : decode cX8_isShown 8 = .ok (.iload_n 2, 1) := by decide +kernel
theorem dX8_isShown_9 : decode cX8_isShown 9 = .ok (.iconst 5, 1) := by decide +kernel
theorem dX8_isShown_10 : decode cX8_isShown 10 = .ok (.invokevirtual 74, 3) := by decide +kernel
theorem dX8_isShown_13 : decode cX8_isShown 13 = .ok (.ifCond .ne 14, 3) := by decide +kernel
theorem dX8_isShown_16 : decode cX8_isShown 16 = .ok (.aload_n 0, 1) := by decide +kernel
theorem dX8_isShown_17 : decode cX8_isShown 17 = .ok (.iload_n 2, 1) := by decide +kernel
theorem dX8_isShown_18 : decode cX8_isShown 18 = .ok (.bipush 11, 2) := by decide +kernel
theorem dX8_isShown_20 : decode cX8_isShown 20 = .ok (.invokevirtual 74, 3) := by decide +kernel
theorem dX8_isShown_23 : decode cX8_isShown 23 = .ok (.istore_n 2, 1) := by decide +kernel
theorem dX8_isShown_24 : decode cX8_isShown 24 = .ok (.goto (-22), 3) := by decide +kernel
theorem dX8_isShown_27 : decode cX8_isShown 27 = .ok (.iload_n 2, 1) := by decide +kernel
theorem dX8_isShown_28 : decode cX8_isShown 28 = .ok (.iconst (-1), 1) := by decide +kernel
theorem dX8_isShown_29 : decode cX8_isShown 29 = .ok (.if_icmp .ne 7, 3) := by decide +kernel
theorem dX8_isShown_32 : decode cX8_isShown 32 = .ok (.iconst 1, 1) := by decide +kernel
theorem dX8_isShown_33 : decode cX8_isShown 33 = .ok (.goto 4, 3) := by decide +kernel
theorem dX8_isShown_36 : decode cX8_isShown 36 = .ok (.iconst 0, 1) := by decide +kernel
theorem dX8_isShown_37 : decode cX8_isShown 37 = .ok (.ireturn, 1) := by decide +kernel
theorem dX8_lies_0 : decode cX8_lies 0 = .ok (.aload_n 0, 1) := by decide +kernel
theorem dX8_lies_1 : decode cX8_lies 1 = .ok (.iload_n 1, 1) := by decide +kernel
theorem dX8_lies_2 : decode cX8_lies 2 = .ok (.bipush 11, 2) := by decide +kernel
theorem dX8_lies_4 : decode cX8_lies 4 = .ok (.invokevirtual 74, 3) := by decide +kernel
theorem dX8_lies_7 : decode cX8_lies 7 = .ok (.istore_n 3, 1) := by decide +kernel
theorem dX8_lies_8 : decode cX8_lies 8 = .ok (.iload_n 3, 1) := by decide +kernel
theorem dX8_lies_9 : decode cX8_lies 9 = .ok (.iconst (-1), 1) := by decide +kernel
theorem dX8_lies_10 : decode cX8_lies 10 = .ok (.if_icmp .eq 19, 3) := by decide +kernel
theorem dX8_lies_13 : decode cX8_lies 13 = .ok (.iload_n 3, 1) := by decide +kernel
theorem dX8_lies_14 : decode cX8_lies 14 = .ok (.iload_n 2, 1) := by decide +kernel
theorem dX8_lies_15 : decode cX8_lies 15 = .ok (.if_icmp .eq 14, 3) := by decide +kernel
theorem dX8_lies_18 : decode cX8_lies 18 = .ok (.aload_n 0, 1) := by decide +kernel
theorem dX8_lies_19 : decode cX8_lies 19 = .ok (.iload_n 3, 1) := by decide +kernel
theorem dX8_lies_20 : decode cX8_lies 20 = .ok (.bipush 11, 2) := by decide +kernel
theorem dX8_lies_22 : decode cX8_lies 22 = .ok (.invokevirtual 74, 3) := by decide +kernel
theorem dX8_lies_25 : decode cX8_lies 25 = .ok (.istore_n 3, 1) := by decide +kernel
theorem dX8_lies_26 : decode cX8_lies 26 = .ok (.goto (-18), 3) := by decide +kernel
theorem dX8_lies_29 : decode cX8_lies 29 = .ok (.iload_n 3, 1) := by decide +kernel
theorem dX8_lies_30 : decode cX8_lies 30 = .ok (.iload_n 2, 1) := by decide +kernel
theorem dX8_lies_31 : decode cX8_lies 31 = .ok (.if_icmp .ne 7, 3) := by decide +kernel
theorem dX8_lies_34 : decode cX8_lies 34 = .ok (.iconst 1, 1) := by decide +kernel
theorem dX8_lies_35 : decode cX8_lies 35 = .ok (.goto 4, 3) := by decide +kernel
theorem dX8_lies_38 : decode cX8_lies 38 = .ok (.iconst 0, 1) := by decide +kernel
theorem dX8_lies_39 : decode cX8_lies 39 = .ok (.ireturn, 1) := by decide +kernel
theorem dX8_innermost_0 : decode cX8_innermost 0 = .ok (.aload_n 0, 1) := by decide +kernel
theorem dX8_innermost_1 : decode cX8_innermost 1 = .ok (.iload_n 1, 1) := by decide +kernel
theorem dX8_innermost_2 : decode cX8_innermost 2 = .ok (.bipush 11, 2) := by decide +kernel
theorem dX8_innermost_4 : decode cX8_innermost 4 = .ok (.invokevirtual 74, 3) := by decide +kernel
theorem dX8_innermost_7 : decode cX8_innermost 7 = .ok (.istore_n 3, 1) := by decide +kernel
theorem dX8_innermost_8 : decode cX8_innermost 8 = .ok (.iload_n 3, 1) := by decide +kernel
theorem dX8_innermost_9 : decode cX8_innermost 9 = .ok (.iconst (-1), 1) := by decide +kernel
theorem dX8_innermost_10 : decode cX8_innermost 10 = .ok (.if_icmp .eq 25, 3) := by decide +kernel
theorem dX8_innermost_13 : decode cX8_innermost 13 = .ok (.aload_n 0, 1) := by decide +kernel
theorem dX8_innermost_14 : decode cX8_innermost 14 = .ok (.iload_n 3, 1) := by decide +kernel
theorem dX8_innermost_15 : decode cX8_innermost 15 = .ok (.bipush 10, 2) := by decide +kernel
theorem dX8_innermost_17 : decode cX8_innermost 17 = .ok (.invokevirtual 74, 3) := by decide +kernel
theorem dX8_innermost_20 : decode cX8_innermost 20 = .ok (.iload_n 2, 1) := by decide +kernel
theorem dX8_innermost_21 : decode cX8_innermost 21 = .ok (.if_icmp .eq 14, 3) := by decide +kernel
theorem dX8_innermost_24 : decode cX8_innermost 24 = .ok (.aload_n 0, 1) := by decide +kernel
theorem dX8_innermost_25 : decode cX8_innermost 25 = .ok (.iload_n 3, 1) := by decide +kernel
theorem dX8_innermost_26 : decode cX8_innermost 26 = .ok (.bipush 11, 2) := by decide +kernel
theorem dX8_innermost_28 : decode cX8_innermost 28 = .ok (.invokevirtual 74, 3) := by decide +kernel
theorem dX8_innermost_31 : decode cX8_innermost 31 = .ok (.istore_n 3, 1) := by decide +kernel
theorem dX8_innermost_32 : decode cX8_innermost 32 = .ok (.goto (-24), 3) := by decide +kernel
theorem dX8_innermost_35 : decode cX8_innermost 35 = .ok (.iload_n 3, 1) := by decide +kernel
theorem dX8_innermost_36 : decode cX8_innermost 36 = .ok (.ireturn, 1) := by decide +kernel
theorem dX8_line_0 : decode cX8_line 0 = .ok (.iconst 1, 1) := by decide +kernel
theorem dX8_line_1 : decode cX8_line 1 = .ok (.istore_n 1, 1) := by decide +kernel
theorem dX8_line_2 : decode cX8_line 2 = .ok (.aload_n 0, 1) := by decide +kernel
theorem dX8_line_3 : decode cX8_line 3 = .ok (.getfield 19, 3) := by decide +kernel
theorem dX8_line_6 : decode cX8_line 6 = .ok (.iconst 0, 1) := by decide +kernel
theorem dX8_line_7 : decode cX8_line 7 = .ok (.iconst 0, 1) := by decide +kernel
theorem dX8_line_8 : decode cX8_line 8 = .ok (.iastore, 1) := by decide +kernel
theorem dX8_line_9 : decode cX8_line 9 = .ok (.iconst 0, 1) := by decide +kernel
theorem dX8_line_10 : decode cX8_line 10 = .ok (.istore_n 2, 1) := by decide +kernel
theorem dX8_line_11 : decode cX8_line 11 = .ok (.iload_n 1, 1) := by decide +kernel
theorem dX8_line_12 : decode cX8_line 12 = .ok (.ifCond .le 69, 3) := by decide +kernel
theorem dX8_line_15 : decode cX8_line 15 = .ok (.iinc 1 (-1), 3) := by decide +kernel
theorem dX8_line_18 : decode cX8_line 18 = .ok (.aload_n 0, 1) := by decide +kernel
theorem dX8_line_19 : decode cX8_line 19 = .ok (.getfield 19, 3) := by decide +kernel
theorem dX8_line_22 : decode cX8_line 22 = .ok (.iload_n 1, 1) := by decide +kernel
theorem dX8_line_23 : decode cX8_line 23 = .ok (.iaload, 1) := by decide +kernel
theorem dX8_line_24 : decode cX8_line 24 = .ok (.istore_n 3, 1) := by decide +kernel
theorem dX8_line_25 : decode cX8_line 25 = .ok (.aload_n 0, 1) := by decide +kernel
theorem dX8_line_26 : decode cX8_line 26 = .ok (.getfield 16, 3) := by decide +kernel
theorem dX8_line_29 : decode cX8_line 29 = .ok (.iload_n 2, 1) := by decide +kernel
theorem dX8_line_30 : decode cX8_line 30 = .ok (.iload_n 3, 1) := by decide +kernel
theorem dX8_line_31 : decode cX8_line 31 = .ok (.iastore, 1) := by decide +kernel
theorem dX8_line_32 : decode cX8_line 32 = .ok (.iinc 2 1, 3) := by decide +kernel
theorem dX8_line_35 : decode cX8_line 35 = .ok (.aload_n 0, 1) := by decide +kernel
theorem dX8_line_36 : decode cX8_line 36 = .ok (.getfield 57, 3) := by decide +kernel
theorem dX8_line_39 : decode cX8_line 39 = .ok (.iconst 1, 1) := by decide +kernel
theorem dX8_line_40 : decode cX8_line 40 = .ok (.isub, 1) := by decide +kernel
theorem dX8_line_41 : decode cX8_line 41 = .ok (.istore 4, 2) := by decide +kernel
theorem dX8_line_43 : decode cX8_line 43 = .ok (.iload 4, 2) := by decide +kernel
theorem dX8_line_45 : decode cX8_line 45 = .ok (.iload_n 3, 1) := by decide +kernel
theorem dX8_line_46 : decode cX8_line 46 = .ok (.if_icmp .le 32, 3) := by decide +kernel
theorem dX8_line_49 : decode cX8_line 49 = .ok (.aload_n 0, 1) := by decide +kernel
theorem dX8_line_50 : decode cX8_line 50 = .ok (.iload 4, 2) := by decide +kernel
theorem dX8_line_52 : decode cX8_line 52 = .ok (.bipush 11, 2) := by decide +kernel
theorem dX8_line_54 : decode cX8_line 54 = .ok (.invokevirtual 74, 3) := by decide +kernel
theorem dX8_line_57 : decode cX8_line 57 = .ok (.iload_n 3, 1) := by decide +kernel
theorem dX8_line_58 : decode cX8_line 58 = .ok (.if_icmp .ne 14, 3) := by decide +kernel
theorem dX8_line_61 : decode cX8_line 61 = .ok (.aload_n 0, 1) := by decide +kernel
theorem dX8_line_62 : decode cX8_line 62 = .ok (.getfield 19, 3) := by decide +kernel
theorem dX8_line_65 : decode cX8_line 65 = .ok (.iload_n 1, 1) := by decide +kernel
theorem dX8_line_66 : decode cX8_line 66 = .ok (.iload 4, 2) := by decide +kernel
theorem dX8_line_68 : decode cX8_line 68 = .ok (.iastore, 1) := by decide +kernel
theorem dX8_line_69 : decode cX8_line 69 = .ok (.iinc 1 1, 3) := by decide +kernel
theorem dX8_line_72 : decode cX8_line 72 = .ok (.iinc 4 (-1), 3) := by decide +kernel
theorem dX8_line_75 : decode cX8_line 75 = .ok (.goto (-32), 3) := by decide +kernel
theorem dX8_line_78 : decode cX8_line 78 = .ok (.goto (-67), 3) := by decide +kernel
theorem dX8_line_81 : decode cX8_line 81 = .ok (.return_, 1) := by decide +kernel
theorem dX8_opened_0 : decode cX8_opened 0 = .ok (.iconst 0, 1) := by decide +kernel
theorem dX8_opened_1 : decode cX8_opened 1 = .ok (.istore_n 1, 1) := by decide +kernel
theorem dX8_opened_2 : decode cX8_opened 2 = .ok (.iconst 1, 1) := by decide +kernel
theorem dX8_opened_3 : decode cX8_opened 3 = .ok (.istore_n 2, 1) := by decide +kernel
theorem dX8_opened_4 : decode cX8_opened 4 = .ok (.iload_n 2, 1) := by decide +kernel
theorem dX8_opened_5 : decode cX8_opened 5 = .ok (.aload_n 0, 1) := by decide +kernel
theorem dX8_opened_6 : decode cX8_opened 6 = .ok (.getfield 57, 3) := by decide +kernel
theorem dX8_opened_9 : decode cX8_opened 9 = .ok (.if_icmp .ge 26, 3) := by decide +kernel
theorem dX8_opened_12 : decode cX8_opened 12 = .ok (.iload_n 1, 1) := by decide +kernel
theorem dX8_opened_13 : decode cX8_opened 13 = .ok (.aload_n 0, 1) := by decide +kernel
theorem dX8_opened_14 : decode cX8_opened 14 = .ok (.iload_n 2, 1) := by decide +kernel
theorem dX8_opened_15 : decode cX8_opened 15 = .ok (.iconst (-1), 1) := by decide +kernel
theorem dX8_opened_16 : decode cX8_opened 16 = .ok (.invokevirtual 78, 3) := by decide +kernel
theorem dX8_opened_19 : decode cX8_opened 19 = .ok (.ifCond .eq 7, 3) := by decide +kernel
theorem dX8_opened_22 : decode cX8_opened 22 = .ok (.iconst 1, 1) := by decide +kernel
theorem dX8_opened_23 : decode cX8_opened 23 = .ok (.goto 4, 3) := by decide +kernel
theorem dX8_opened_26 : decode cX8_opened 26 = .ok (.iconst 0, 1) := by decide +kernel
theorem dX8_opened_27 : decode cX8_opened 27 = .ok (.iadd, 1) := by decide +kernel
theorem dX8_opened_28 : decode cX8_opened 28 = .ok (.istore_n 1, 1) := by decide +kernel
theorem dX8_opened_29 : decode cX8_opened 29 = .ok (.iinc 2 1, 3) := by decide +kernel
theorem dX8_opened_32 : decode cX8_opened 32 = .ok (.goto (-28), 3) := by decide +kernel
theorem dX8_opened_35 : decode cX8_opened 35 = .ok (.iload_n 1, 1) := by decide +kernel
theorem dX8_opened_36 : decode cX8_opened 36 = .ok (.ireturn, 1) := by decide +kernel
theorem dX8_isOpenedBy_0 : decode cX8_isOpenedBy 0 = .ok (.iconst 0, 1) := by decide +kernel
theorem dX8_isOpenedBy_1 : decode cX8_isOpenedBy 1 = .ok (.istore_n 3, 1) := by decide +kernel
theorem dX8_isOpenedBy_2 : decode cX8_isOpenedBy 2 = .ok (.iconst 0, 1) := by decide +kernel
theorem dX8_isOpenedBy_3 : decode cX8_isOpenedBy 3 = .ok (.istore 4, 2) := by decide +kernel
theorem dX8_isOpenedBy_5 : decode cX8_isOpenedBy 5 = .ok (.iload 4, 2) := by decide +kernel
theorem dX8_isOpenedBy_7 : decode cX8_isOpenedBy 7 = .ok (.aload_n 0, 1) := by decide +kernel
theorem dX8_isOpenedBy_8 : decode cX8_isOpenedBy 8 = .ok (.getfield 57, 3) := by decide +kernel
theorem dX8_isOpenedBy_11 : decode cX8_isOpenedBy 11 = .ok (.if_icmp .ge 37, 3) := by decide +kernel
theorem dX8_isOpenedBy_14 : decode cX8_isOpenedBy 14 = .ok (.iload_n 3, 1) := by decide +kernel
theorem dX8_isOpenedBy_15 : decode cX8_isOpenedBy 15 = .ok (.ifCond .ne 21, 3) := by decide +kernel
theorem dX8_isOpenedBy_18 : decode cX8_isOpenedBy 18 = .ok (.iload 4, 2) := by decide +kernel
theorem dX8_isOpenedBy_20 : decode cX8_isOpenedBy 20 = .ok (.iload_n 2, 1) := by decide +kernel
theorem dX8_isOpenedBy_21 : decode cX8_isOpenedBy 21 = .ok (.if_icmp .eq 19, 3) := by decide +kernel
theorem dX8_isOpenedBy_24 : decode cX8_isOpenedBy 24 = .ok (.aload_n 0, 1) := by decide +kernel
theorem dX8_isOpenedBy_25 : decode cX8_isOpenedBy 25 = .ok (.iload 4, 2) := by decide +kernel
theorem dX8_isOpenedBy_27 : decode cX8_isOpenedBy 27 = .ok (.bipush 7, 2) := by decide +kernel
theorem dX8_isOpenedBy_29 : decode cX8_isOpenedBy 29 = .ok (.invokevirtual 74, 3) := by decide +kernel
theorem dX8_isOpenedBy_32 : decode cX8_isOpenedBy 32 = .ok (.iload_n 1, 1) := by decide +kernel
theorem dX8_isOpenedBy_33 : decode cX8_isOpenedBy 33 = .ok (.if_icmp .ne 7, 3) := by decide +kernel
theorem dX8_isOpenedBy_36 : decode cX8_isOpenedBy 36 = .ok (.iconst 1, 1) := by decide +kernel
theorem dX8_isOpenedBy_37 : decode cX8_isOpenedBy 37 = .ok (.goto 4, 3) := by decide +kernel
theorem dX8_isOpenedBy_40 : decode cX8_isOpenedBy 40 = .ok (.iconst 0, 1) := by decide +kernel
theorem dX8_isOpenedBy_41 : decode cX8_isOpenedBy 41 = .ok (.istore_n 3, 1) := by decide +kernel
theorem dX8_isOpenedBy_42 : decode cX8_isOpenedBy 42 = .ok (.iinc 4 1, 3) := by decide +kernel
theorem dX8_isOpenedBy_45 : decode cX8_isOpenedBy 45 = .ok (.goto (-40), 3) := by decide +kernel
theorem dX8_isOpenedBy_48 : decode cX8_isOpenedBy 48 = .ok (.iload_n 3, 1) := by decide +kernel
theorem dX8_isOpenedBy_49 : decode cX8_isOpenedBy 49 = .ok (.ireturn, 1) := by decide +kernel
theorem dX8_isFor_0 : decode cX8_isFor 0 = .ok (.iload_n 1, 1) := by decide +kernel
theorem dX8_isFor_1 : decode cX8_isFor 1 = .ok (.tableswitch 117 0 9 #[55, 55, 55, 57, 57, 76, 84, 94, 117, 76], 55) := by decide +kernel
theorem dX8_isFor_56 : decode cX8_isFor 56 = .ok (.iconst 1, 1) := by decide +kernel
theorem dX8_isFor_57 : decode cX8_isFor 57 = .ok (.ireturn, 1) := by decide +kernel
theorem dX8_isFor_58 : decode cX8_isFor 58 = .ok (.iload_n 2, 1) := by decide +kernel
theorem dX8_isFor_59 : decode cX8_isFor 59 = .ok (.iconst (-1), 1) := by decide +kernel
theorem dX8_isFor_60 : decode cX8_isFor 60 = .ok (.if_icmp .eq 11, 3) := by decide +kernel
theorem dX8_isFor_63 : decode cX8_isFor 63 = .ok (.aload_n 0, 1) := by decide +kernel
theorem dX8_isFor_64 : decode cX8_isFor 64 = .ok (.iload_n 2, 1) := by decide +kernel
theorem dX8_isFor_65 : decode cX8_isFor 65 = .ok (.invokevirtual 68, 3) := by decide +kernel
theorem dX8_isFor_68 : decode cX8_isFor 68 = .ok (.ifCond .eq 7, 3) := by decide +kernel
theorem dX8_isFor_71 : decode cX8_isFor 71 = .ok (.iconst 1, 1) := by decide +kernel
theorem dX8_isFor_72 : decode cX8_isFor 72 = .ok (.goto 4, 3) := by decide +kernel
theorem dX8_isFor_75 : decode cX8_isFor 75 = .ok (.iconst 0, 1) := by decide +kernel
theorem dX8_isFor_76 : decode cX8_isFor 76 = .ok (.ireturn, 1) := by decide +kernel
theorem dX8_isFor_77 : decode cX8_isFor 77 = .ok (.iload_n 2, 1) := by decide +kernel
theorem dX8_isFor_78 : decode cX8_isFor 78 = .ok (.i2l, 1) := by decide +kernel
theorem dX8_isFor_79 : decode cX8_isFor 79 = .ok (.lconst 0, 1) := by decide +kernel
theorem dX8_isFor_80 : decode cX8_isFor 80 = .ok (.lconst 1, 1) := by decide +kernel
theorem dX8_isFor_81 : decode cX8_isFor 81 = .ok (.invokestatic 64, 3) := by decide +kernel
theorem dX8_isFor_84 : decode cX8_isFor 84 = .ok (.ireturn, 1) := by decide +kernel
theorem dX8_isFor_85 : decode cX8_isFor 85 = .ok (.iload_n 2, 1) := by decide +kernel
theorem dX8_isFor_86 : decode cX8_isFor 86 = .ok (.i2l, 1) := by decide +kernel
theorem dX8_isFor_87 : decode cX8_isFor 87 = .ok (.lconst 0, 1) := by decide +kernel
theorem dX8_isFor_88 : decode cX8_isFor 88 = .ok (.ldc2_w 82, 3) := by decide +kernel
theorem dX8_isFor_91 : decode cX8_isFor 91 = .ok (.invokestatic 64, 3) := by decide +kernel
theorem dX8_isFor_94 : decode cX8_isFor 94 = .ok (.ireturn, 1) := by decide +kernel
theorem dX8_isFor_95 : decode cX8_isFor 95 = .ok (.iload_n 2, 1) := by decide +kernel
theorem dX8_isFor_96 : decode cX8_isFor 96 = .ok (.iconst (-1), 1) := by decide +kernel
theorem dX8_isFor_97 : decode cX8_isFor 97 = .ok (.if_icmp .eq 15, 3) := by decide +kernel
theorem dX8_isFor_100 : decode cX8_isFor 100 = .ok (.iload_n 2, 1) := by decide +kernel
theorem dX8_isFor_101 : decode cX8_isFor 101 = .ok (.ifCond .eq 15, 3) := by decide +kernel
theorem dX8_isFor_104 : decode cX8_isFor 104 = .ok (.aload_n 0, 1) := by decide +kernel
theorem dX8_isFor_105 : decode cX8_isFor 105 = .ok (.iload_n 2, 1) := by decide +kernel
theorem dX8_isFor_106 : decode cX8_isFor 106 = .ok (.invokevirtual 68, 3) := by decide +kernel
theorem dX8_isFor_109 : decode cX8_isFor 109 = .ok (.ifCond .eq 7, 3) := by decide +kernel
theorem dX8_isFor_112 : decode cX8_isFor 112 = .ok (.iconst 1, 1) := by decide +kernel
theorem dX8_isFor_113 : decode cX8_isFor 113 = .ok (.goto 4, 3) := by decide +kernel
theorem dX8_isFor_116 : decode cX8_isFor 116 = .ok (.iconst 0, 1) := by decide +kernel
theorem dX8_isFor_117 : decode cX8_isFor 117 = .ok (.ireturn, 1) := by decide +kernel
theorem dX8_isFor_118 : decode cX8_isFor 118 = .ok (.iload_n 2, 1) := by decide +kernel
theorem dX8_isFor_119 : decode cX8_isFor 119 = .ok (.i2l, 1) := by decide +kernel
theorem dX8_isFor_120 : decode cX8_isFor 120 = .ok (.lconst 0, 1) := by decide +kernel
theorem dX8_isFor_121 : decode cX8_isFor 121 = .ok (.ldc2_w 84, 3) := by decide +kernel
theorem dX8_isFor_124 : decode cX8_isFor 124 = .ok (.invokestatic 64, 3) := by decide +kernel
theorem dX8_isFor_127 : decode cX8_isFor 127 = .ok (.ireturn, 1) := by decide +kernel
theorem dX8_speak_0 : decode cX8_speak 0 = .ok (.aload_n 0, 1) := by decide +kernel
theorem dX8_speak_1 : decode cX8_speak 1 = .ok (.iload_n 1, 1) := by decide +kernel
theorem dX8_speak_2 : decode cX8_speak 2 = .ok (.bipush 6, 2) := by decide +kernel
theorem dX8_speak_4 : decode cX8_speak 4 = .ok (.invokevirtual 86, 3) := by decide +kernel
theorem dX8_speak_7 : decode cX8_speak 7 = .ok (.istore_n 2, 1) := by decide +kernel
theorem dX8_speak_8 : decode cX8_speak 8 = .ok (.iload_n 2, 1) := by decide +kernel
theorem dX8_speak_9 : decode cX8_speak 9 = .ok (.iconst (-1), 1) := by decide +kernel
theorem dX8_speak_10 : decode cX8_speak 10 = .ok (.if_icmp .eq 15, 3) := by decide +kernel
theorem dX8_speak_13 : decode cX8_speak 13 = .ok (.aload_n 0, 1) := by decide +kernel
theorem dX8_speak_14 : decode cX8_speak 14 = .ok (.iload_n 2, 1) := by decide +kernel
theorem dX8_speak_15 : decode cX8_speak 15 = .ok (.invokevirtual 89, 3) := by decide +kernel
theorem dX8_speak_18 : decode cX8_speak 18 = .ok (.ifCond .eq 7, 3) := by decide +kernel
theorem dX8_speak_21 : decode cX8_speak 21 = .ok (.iconst 1, 1) := by decide +kernel
theorem dX8_speak_22 : decode cX8_speak 22 = .ok (.goto 4, 3) := by decide +kernel
theorem dX8_speak_25 : decode cX8_speak 25 = .ok (.iconst 0, 1) := by decide +kernel
theorem dX8_speak_26 : decode cX8_speak 26 = .ok (.istore_n 3, 1) := by decide +kernel
theorem dX8_speak_27 : decode cX8_speak 27 = .ok (.iconst 0, 1) := by decide +kernel
theorem dX8_speak_28 : decode cX8_speak 28 = .ok (.istore 4, 2) := by decide +kernel
theorem dX8_speak_30 : decode cX8_speak 30 = .ok (.iload 4, 2) := by decide +kernel
theorem dX8_speak_32 : decode cX8_speak 32 = .ok (.aload_n 0, 1) := by decide +kernel
theorem dX8_speak_33 : decode cX8_speak 33 = .ok (.getfield 92, 3) := by decide +kernel
theorem dX8_speak_36 : decode cX8_speak 36 = .ok (.if_icmp .ge 30, 3) := by decide +kernel
theorem dX8_speak_39 : decode cX8_speak 39 = .ok (.iload_n 3, 1) := by decide +kernel
theorem dX8_speak_40 : decode cX8_speak 40 = .ok (.ifCond .eq 18, 3) := by decide +kernel
theorem dX8_speak_43 : decode cX8_speak 43 = .ok (.aload_n 0, 1) := by decide +kernel
theorem dX8_speak_44 : decode cX8_speak 44 = .ok (.getfield 13, 3) := by decide +kernel
theorem dX8_speak_47 : decode cX8_speak 47 = .ok (.iload 4, 2) := by decide +kernel
theorem dX8_speak_49 : decode cX8_speak 49 = .ok (.iaload, 1) := by decide +kernel
theorem dX8_speak_50 : decode cX8_speak 50 = .ok (.iload_n 2, 1) := by decide +kernel
theorem dX8_speak_51 : decode cX8_speak 51 = .ok (.if_icmp .eq 7, 3) := by decide +kernel
theorem dX8_speak_54 : decode cX8_speak 54 = .ok (.iconst 1, 1) := by decide +kernel
theorem dX8_speak_55 : decode cX8_speak 55 = .ok (.goto 4, 3) := by decide +kernel
theorem dX8_speak_58 : decode cX8_speak 58 = .ok (.iconst 0, 1) := by decide +kernel
theorem dX8_speak_59 : decode cX8_speak 59 = .ok (.istore_n 3, 1) := by decide +kernel
theorem dX8_speak_60 : decode cX8_speak 60 = .ok (.iinc 4 1, 3) := by decide +kernel
theorem dX8_speak_63 : decode cX8_speak 63 = .ok (.goto (-33), 3) := by decide +kernel
theorem dX8_speak_66 : decode cX8_speak 66 = .ok (.iload_n 3, 1) := by decide +kernel
theorem dX8_speak_67 : decode cX8_speak 67 = .ok (.ifCond .eq 23, 3) := by decide +kernel
theorem dX8_speak_70 : decode cX8_speak 70 = .ok (.aload_n 0, 1) := by decide +kernel
theorem dX8_speak_71 : decode cX8_speak 71 = .ok (.getfield 13, 3) := by decide +kernel
theorem dX8_speak_74 : decode cX8_speak 74 = .ok (.aload_n 0, 1) := by decide +kernel
theorem dX8_speak_75 : decode cX8_speak 75 = .ok (.getfield 92, 3) := by decide +kernel
theorem dX8_speak_78 : decode cX8_speak 78 = .ok (.iload_n 2, 1) := by decide +kernel
theorem dX8_speak_79 : decode cX8_speak 79 = .ok (.iastore, 1) := by decide +kernel
theorem dX8_speak_80 : decode cX8_speak 80 = .ok (.aload_n 0, 1) := by decide +kernel
theorem dX8_speak_81 : decode cX8_speak 81 = .ok (.dup, 1) := by decide +kernel
theorem dX8_speak_82 : decode cX8_speak 82 = .ok (.getfield 92, 3) := by decide +kernel
theorem dX8_speak_85 : decode cX8_speak 85 = .ok (.iconst 1, 1) := by decide +kernel
theorem dX8_speak_86 : decode cX8_speak 86 = .ok (.iadd, 1) := by decide +kernel
theorem dX8_speak_87 : decode cX8_speak 87 = .ok (.putfield 92, 3) := by decide +kernel
theorem dX8_speak_90 : decode cX8_speak 90 = .ok (.return_, 1) := by decide +kernel
theorem dX8_lookAtFocus_0 : decode cX8_lookAtFocus 0 = .ok (.aload_n 0, 1) := by decide +kernel
theorem dX8_lookAtFocus_1 : decode cX8_lookAtFocus 1 = .ok (.getfield 49, 3) := by decide +kernel
theorem dX8_lookAtFocus_4 : decode cX8_lookAtFocus 4 = .ok (.iconst (-1), 1) := by decide +kernel
theorem dX8_lookAtFocus_5 : decode cX8_lookAtFocus 5 = .ok (.if_icmp .eq 19, 3) := by decide +kernel
theorem dX8_lookAtFocus_8 : decode cX8_lookAtFocus 8 = .ok (.aload_n 0, 1) := by decide +kernel
theorem dX8_lookAtFocus_9 : decode cX8_lookAtFocus 9 = .ok (.aload_n 0, 1) := by decide +kernel
theorem dX8_lookAtFocus_10 : decode cX8_lookAtFocus 10 = .ok (.getfield 49, 3) := by decide +kernel
theorem dX8_lookAtFocus_13 : decode cX8_lookAtFocus 13 = .ok (.invokevirtual 89, 3) := by decide +kernel
theorem dX8_lookAtFocus_16 : decode cX8_lookAtFocus 16 = .ok (.ifCond .ne 8, 3) := by decide +kernel
theorem dX8_lookAtFocus_19 : decode cX8_lookAtFocus 19 = .ok (.aload_n 0, 1) := by decide +kernel
theorem dX8_lookAtFocus_20 : decode cX8_lookAtFocus 20 = .ok (.iconst (-1), 1) := by decide +kernel
theorem dX8_lookAtFocus_21 : decode cX8_lookAtFocus 21 = .ok (.putfield 49, 3) := by decide +kernel
theorem dX8_lookAtFocus_24 : decode cX8_lookAtFocus 24 = .ok (.return_, 1) := by decide +kernel
theorem dX8_set_0 : decode cX8_set 0 = .ok (.aload_n 0, 1) := by decide +kernel
theorem dX8_set_1 : decode cX8_set 1 = .ok (.iload_n 1, 1) := by decide +kernel
theorem dX8_set_2 : decode cX8_set 2 = .ok (.invokevirtual 68, 3) := by decide +kernel
theorem dX8_set_5 : decode cX8_set 5 = .ok (.ifCond .ne 6, 3) := by decide +kernel
theorem dX8_set_8 : decode cX8_set 8 = .ok (.bipush (-101), 2) := by decide +kernel
theorem dX8_set_10 : decode cX8_set 10 = .ok (.ireturn, 1) := by decide +kernel
theorem dX8_set_11 : decode cX8_set 11 = .ok (.iload_n 2, 1) := by decide +kernel
theorem dX8_set_12 : decode cX8_set 12 = .ok (.i2l, 1) := by decide +kernel
theorem dX8_set_13 : decode cX8_set 13 = .ok (.lconst 0, 1) := by decide +kernel
theorem dX8_set_14 : decode cX8_set 14 = .ok (.ldc2_w 95, 3) := by decide +kernel
theorem dX8_set_17 : decode cX8_set 17 = .ok (.invokestatic 64, 3) := by decide +kernel
theorem dX8_set_20 : decode cX8_set 20 = .ok (.ifCond .eq 12, 3) := by decide +kernel
theorem dX8_set_23 : decode cX8_set 23 = .ok (.aload_n 0, 1) := by decide +kernel
theorem dX8_set_24 : decode cX8_set 24 = .ok (.iload_n 2, 1) := by decide +kernel
theorem dX8_set_25 : decode cX8_set 25 = .ok (.iload_n 3, 1) := by decide +kernel
theorem dX8_set_26 : decode cX8_set 26 = .ok (.invokevirtual 97, 3) := by decide +kernel
theorem dX8_set_29 : decode cX8_set 29 = .ok (.ifCond .ne 6, 3) := by decide +kernel
theorem dX8_set_32 : decode cX8_set 32 = .ok (.bipush (-102), 2) := by decide +kernel
theorem dX8_set_34 : decode cX8_set 34 = .ok (.ireturn, 1) := by decide +kernel
theorem dX8_set_35 : decode cX8_set 35 = .ok (.iload_n 1, 1) := by decide +kernel
theorem dX8_set_36 : decode cX8_set 36 = .ok (.ifCond .ne 11, 3) := by decide +kernel
theorem dX8_set_39 : decode cX8_set 39 = .ok (.iload_n 2, 1) := by decide +kernel
theorem dX8_set_40 : decode cX8_set 40 = .ok (.iconst 5, 1) := by decide +kernel
theorem dX8_set_41 : decode cX8_set 41 = .ok (.if_icmp .ne 6, 3) := by decide +kernel
theorem dX8_set_44 : decode cX8_set 44 = .ok (.bipush (-103), 2) := by decide +kernel
theorem dX8_set_46 : decode cX8_set 46 = .ok (.ireturn, 1) := by decide +kernel
theorem dX8_set_47 : decode cX8_set 47 = .ok (.iload_n 2, 1) := by decide +kernel
theorem dX8_set_48 : decode cX8_set 48 = .ok (.bipush 7, 2) := by decide +kernel
theorem dX8_set_50 : decode cX8_set 50 = .ok (.if_icmp .ne 68, 3) := by decide +kernel
theorem dX8_set_53 : decode cX8_set 53 = .ok (.iload_n 3, 1) := by decide +kernel
theorem dX8_set_54 : decode cX8_set 54 = .ok (.iconst (-1), 1) := by decide +kernel
theorem dX8_set_55 : decode cX8_set 55 = .ok (.if_icmp .eq 63, 3) := by decide +kernel
theorem dX8_set_58 : decode cX8_set 58 = .ok (.aload_n 0, 1) := by decide +kernel
theorem dX8_set_59 : decode cX8_set 59 = .ok (.iload_n 3, 1) := by decide +kernel
theorem dX8_set_60 : decode cX8_set 60 = .ok (.iload_n 1, 1) := by decide +kernel
theorem dX8_set_61 : decode cX8_set 61 = .ok (.invokevirtual 78, 3) := by decide +kernel
theorem dX8_set_64 : decode cX8_set 64 = .ok (.ifCond .ne 54, 3) := by decide +kernel
theorem dX8_set_67 : decode cX8_set 67 = .ok (.iconst 0, 1) := by decide +kernel
theorem dX8_set_68 : decode cX8_set 68 = .ok (.istore 4, 2) := by decide +kernel
theorem dX8_set_70 : decode cX8_set 70 = .ok (.iconst 1, 1) := by decide +kernel
theorem dX8_set_71 : decode cX8_set 71 = .ok (.istore 5, 2) := by decide +kernel
theorem dX8_set_73 : decode cX8_set 73 = .ok (.iload 5, 2) := by decide +kernel
theorem dX8_set_75 : decode cX8_set 75 = .ok (.aload_n 0, 1) := by decide +kernel
theorem dX8_set_76 : decode cX8_set 76 = .ok (.getfield 57, 3) := by decide +kernel
theorem dX8_set_79 : decode cX8_set 79 = .ok (.if_icmp .ge 29, 3) := by decide +kernel
theorem dX8_set_82 : decode cX8_set 82 = .ok (.iload 4, 2) := by decide +kernel
theorem dX8_set_84 : decode cX8_set 84 = .ok (.aload_n 0, 1) := by decide +kernel
theorem dX8_set_85 : decode cX8_set 85 = .ok (.iload 5, 2) := by decide +kernel
theorem dX8_set_87 : decode cX8_set 87 = .ok (.iload_n 1, 1) := by decide +kernel
theorem dX8_set_88 : decode cX8_set 88 = .ok (.invokevirtual 78, 3) := by decide +kernel
theorem dX8_set_91 : decode cX8_set 91 = .ok (.ifCond .eq 7, 3) := by decide +kernel
theorem dX8_set_94 : decode cX8_set 94 = .ok (.iconst 1, 1) := by decide +kernel
theorem dX8_set_95 : decode cX8_set 95 = .ok (.goto 4, 3) := by decide +kernel
theorem dX8_set_98 : decode cX8_set 98 = .ok (.iconst 0, 1) := by decide +kernel
theorem dX8_set_99 : decode cX8_set 99 = .ok (.iadd, 1) := by decide +kernel
theorem dX8_set_100 : decode cX8_set 100 = .ok (.istore 4, 2) := by decide +kernel
theorem dX8_set_102 : decode cX8_set 102 = .ok (.iinc 5 1, 3) := by decide +kernel
theorem dX8_set_105 : decode cX8_set 105 = .ok (.goto (-32), 3) := by decide +kernel
theorem dX8_set_108 : decode cX8_set 108 = .ok (.iload 4, 2) := by decide +kernel
theorem dX8_set_110 : decode cX8_set 110 = .ok (.bipush 6, 2) := by decide +kernel
theorem dX8_set_112 : decode cX8_set 112 = .ok (.if_icmp .ne 6, 3) := by decide +kernel
theorem dX8_set_115 : decode cX8_set 115 = .ok (.bipush (-104), 2) := by decide +kernel
theorem dX8_set_117 : decode cX8_set 117 = .ok (.ireturn, 1) := by decide +kernel
theorem dX8_set_118 : decode cX8_set 118 = .ok (.aload_n 0, 1) := by decide +kernel
theorem dX8_set_119 : decode cX8_set 119 = .ok (.iload_n 1, 1) := by decide +kernel
theorem dX8_set_120 : decode cX8_set 120 = .ok (.iload_n 2, 1) := by decide +kernel
theorem dX8_set_121 : decode cX8_set 121 = .ok (.invokevirtual 74, 3) := by decide +kernel
theorem dX8_set_124 : decode cX8_set 124 = .ok (.istore 4, 2) := by decide +kernel
theorem dX8_set_126 : decode cX8_set 126 = .ok (.aload_n 0, 1) := by decide +kernel
theorem dX8_set_127 : decode cX8_set 127 = .ok (.iload_n 1, 1) := by decide +kernel
theorem dX8_set_128 : decode cX8_set 128 = .ok (.iload_n 2, 1) := by decide +kernel
theorem dX8_set_129 : decode cX8_set 129 = .ok (.iload_n 3, 1) := by decide +kernel
theorem dX8_set_130 : decode cX8_set 130 = .ok (.invokevirtual 60, 3) := by decide +kernel
theorem dX8_set_133 : decode cX8_set 133 = .ok (.iload 4, 2) := by decide +kernel
theorem dX8_set_135 : decode cX8_set 135 = .ok (.iload_n 3, 1) := by decide +kernel
theorem dX8_set_136 : decode cX8_set 136 = .ok (.if_icmp .eq 17, 3) := by decide +kernel
theorem dX8_set_139 : decode cX8_set 139 = .ok (.iload_n 2, 1) := by decide +kernel
theorem dX8_set_140 : decode cX8_set 140 = .ok (.ifCond .eq 8, 3) := by decide +kernel
theorem dX8_set_143 : decode cX8_set 143 = .ok (.iload_n 2, 1) := by decide +kernel
theorem dX8_set_144 : decode cX8_set 144 = .ok (.iconst 5, 1) := by decide +kernel
theorem dX8_set_145 : decode cX8_set 145 = .ok (.if_icmp .ne 8, 3) := by decide +kernel
theorem dX8_set_148 : decode cX8_set 148 = .ok (.aload_n 0, 1) := by decide +kernel
theorem dX8_set_149 : decode cX8_set 149 = .ok (.iload_n 1, 1) := by decide +kernel
theorem dX8_set_150 : decode cX8_set 150 = .ok (.invokevirtual 100, 3) := by decide +kernel
theorem dX8_set_153 : decode cX8_set 153 = .ok (.aload_n 0, 1) := by decide +kernel
theorem dX8_set_154 : decode cX8_set 154 = .ok (.invokevirtual 104, 3) := by decide +kernel
theorem dX8_set_157 : decode cX8_set 157 = .ok (.iload 4, 2) := by decide +kernel
theorem dX8_set_159 : decode cX8_set 159 = .ok (.ireturn, 1) := by decide +kernel
theorem dX8_told_0 : decode cX8_told 0 = .ok (.aload_n 0, 1) := by decide +kernel
theorem dX8_told_1 : decode cX8_told 1 = .ok (.iload_n 1, 1) := by decide +kernel
theorem dX8_told_2 : decode cX8_told 2 = .ok (.invokevirtual 68, 3) := by decide +kernel
theorem dX8_told_5 : decode cX8_told 5 = .ok (.ifCond .ne 6, 3) := by decide +kernel
theorem dX8_told_8 : decode cX8_told 8 = .ok (.bipush (-101), 2) := by decide +kernel
theorem dX8_told_10 : decode cX8_told 10 = .ok (.ireturn, 1) := by decide +kernel
theorem dX8_told_11 : decode cX8_told 11 = .ok (.iload_n 2, 1) := by decide +kernel
theorem dX8_told_12 : decode cX8_told 12 = .ok (.i2l, 1) := by decide +kernel
theorem dX8_told_13 : decode cX8_told 13 = .ok (.lconst 0, 1) := by decide +kernel
theorem dX8_told_14 : decode cX8_told 14 = .ok (.ldc2_w 107, 3) := by decide +kernel
theorem dX8_told_17 : decode cX8_told 17 = .ok (.invokestatic 64, 3) := by decide +kernel
theorem dX8_told_20 : decode cX8_told 20 = .ok (.ifCond .eq 12, 3) := by decide +kernel
theorem dX8_told_23 : decode cX8_told 23 = .ok (.aload_n 0, 1) := by decide +kernel
theorem dX8_told_24 : decode cX8_told 24 = .ok (.iload_n 1, 1) := by decide +kernel
theorem dX8_told_25 : decode cX8_told 25 = .ok (.iload_n 2, 1) := by decide +kernel
theorem dX8_told_26 : decode cX8_told 26 = .ok (.invokevirtual 74, 3) := by decide +kernel
theorem dX8_told_29 : decode cX8_told 29 = .ok (.goto 27, 3) := by decide +kernel
theorem dX8_told_32 : decode cX8_told 32 = .ok (.iload_n 2, 1) := by decide +kernel
theorem dX8_told_33 : decode cX8_told 33 = .ok (.bipush 18, 2) := by decide +kernel
theorem dX8_told_35 : decode cX8_told 35 = .ok (.if_icmp .ne 19, 3) := by decide +kernel
theorem dX8_told_38 : decode cX8_told 38 = .ok (.aload_n 0, 1) := by decide +kernel
theorem dX8_told_39 : decode cX8_told 39 = .ok (.iload_n 1, 1) := by decide +kernel
theorem dX8_told_40 : decode cX8_told 40 = .ok (.invokevirtual 89, 3) := by decide +kernel
theorem dX8_told_43 : decode cX8_told 43 = .ok (.ifCond .eq 7, 3) := by decide +kernel
theorem dX8_told_46 : decode cX8_told 46 = .ok (.iconst 1, 1) := by decide +kernel
theorem dX8_told_47 : decode cX8_told 47 = .ok (.goto 9, 3) := by decide +kernel
theorem dX8_told_50 : decode cX8_told 50 = .ok (.iconst 0, 1) := by decide +kernel
theorem dX8_told_51 : decode cX8_told 51 = .ok (.goto 5, 3) := by decide +kernel
theorem dX8_told_54 : decode cX8_told 54 = .ok (.bipush (-102), 2) := by decide +kernel
theorem dX8_told_56 : decode cX8_told 56 = .ok (.ireturn, 1) := by decide +kernel
theorem dX8_box_0 : decode cX8_box 0 = .ok (.aload_n 0, 1) := by decide +kernel
theorem dX8_box_1 : decode cX8_box 1 = .ok (.iload_n 1, 1) := by decide +kernel
theorem dX8_box_2 : decode cX8_box 2 = .ok (.invokevirtual 68, 3) := by decide +kernel
theorem dX8_box_5 : decode cX8_box 5 = .ok (.ifCond .ne 6, 3) := by decide +kernel
theorem dX8_box_8 : decode cX8_box 8 = .ok (.bipush (-101), 2) := by decide +kernel
theorem dX8_box_10 : decode cX8_box 10 = .ok (.ireturn, 1) := by decide +kernel
theorem dX8_box_11 : decode cX8_box 11 = .ok (.iload_n 2, 1) := by decide +kernel
theorem dX8_box_12 : decode cX8_box 12 = .ok (.i2l, 1) := by decide +kernel
theorem dX8_box_13 : decode cX8_box 13 = .ok (.lconst 0, 1) := by decide +kernel
theorem dX8_box_14 : decode cX8_box 14 = .ok (.ldc2_w 109, 3) := by decide +kernel
theorem dX8_box_17 : decode cX8_box 17 = .ok (.invokestatic 64, 3) := by decide +kernel
theorem dX8_box_20 : decode cX8_box 20 = .ok (.ifCond .eq 41, 3) := by decide +kernel
theorem dX8_box_23 : decode cX8_box 23 = .ok (.iload_n 3, 1) := by decide +kernel
theorem dX8_box_24 : decode cX8_box 24 = .ok (.i2l, 1) := by decide +kernel
theorem dX8_box_25 : decode cX8_box 25 = .ok (.lconst 0, 1) := by decide +kernel
theorem dX8_box_26 : decode cX8_box 26 = .ok (.ldc2_w 109, 3) := by decide +kernel
theorem dX8_box_29 : decode cX8_box 29 = .ok (.invokestatic 64, 3) := by decide +kernel
theorem dX8_box_32 : decode cX8_box 32 = .ok (.ifCond .eq 29, 3) := by decide +kernel
theorem dX8_box_35 : decode cX8_box 35 = .ok (.iload 4, 2) := by decide +kernel
theorem dX8_box_37 : decode cX8_box 37 = .ok (.i2l, 1) := by decide +kernel
theorem dX8_box_38 : decode cX8_box 38 = .ok (.lconst 0, 1) := by decide +kernel
theorem dX8_box_39 : decode cX8_box 39 = .ok (.ldc2_w 109, 3) := by decide +kernel
theorem dX8_box_42 : decode cX8_box 42 = .ok (.invokestatic 64, 3) := by decide +kernel
theorem dX8_box_45 : decode cX8_box 45 = .ok (.ifCond .eq 16, 3) := by decide +kernel
theorem dX8_box_48 : decode cX8_box 48 = .ok (.iload 5, 2) := by decide +kernel
theorem dX8_box_50 : decode cX8_box 50 = .ok (.i2l, 1) := by decide +kernel
theorem dX8_box_51 : decode cX8_box 51 = .ok (.lconst 0, 1) := by decide +kernel
theorem dX8_box_52 : decode cX8_box 52 = .ok (.ldc2_w 109, 3) := by decide +kernel
theorem dX8_box_55 : decode cX8_box 55 = .ok (.invokestatic 64, 3) := by decide +kernel
theorem dX8_box_58 : decode cX8_box 58 = .ok (.ifCond .ne 6, 3) := by decide +kernel
theorem dX8_box_61 : decode cX8_box 61 = .ok (.bipush (-102), 2) := by decide +kernel
theorem dX8_box_63 : decode cX8_box 63 = .ok (.ireturn, 1) := by decide +kernel
theorem dX8_box_64 : decode cX8_box 64 = .ok (.aload_n 0, 1) := by decide +kernel
theorem dX8_box_65 : decode cX8_box 65 = .ok (.iload_n 1, 1) := by decide +kernel
theorem dX8_box_66 : decode cX8_box 66 = .ok (.bipush 12, 2) := by decide +kernel
theorem dX8_box_68 : decode cX8_box 68 = .ok (.iload_n 2, 1) := by decide +kernel
theorem dX8_box_69 : decode cX8_box 69 = .ok (.invokevirtual 60, 3) := by decide +kernel
theorem dX8_box_72 : decode cX8_box 72 = .ok (.aload_n 0, 1) := by decide +kernel
theorem dX8_box_73 : decode cX8_box 73 = .ok (.iload_n 1, 1) := by decide +kernel
theorem dX8_box_74 : decode cX8_box 74 = .ok (.bipush 13, 2) := by decide +kernel
theorem dX8_box_76 : decode cX8_box 76 = .ok (.iload_n 3, 1) := by decide +kernel
theorem dX8_box_77 : decode cX8_box 77 = .ok (.invokevirtual 60, 3) := by decide +kernel
theorem dX8_box_80 : decode cX8_box 80 = .ok (.aload_n 0, 1) := by decide +kernel
theorem dX8_box_81 : decode cX8_box 81 = .ok (.iload_n 1, 1) := by decide +kernel
theorem dX8_box_82 : decode cX8_box 82 = .ok (.bipush 14, 2) := by decide +kernel
theorem dX8_box_84 : decode cX8_box 84 = .ok (.iload 4, 2) := by decide +kernel
theorem dX8_box_86 : decode cX8_box 86 = .ok (.invokevirtual 60, 3) := by decide +kernel
theorem dX8_box_89 : decode cX8_box 89 = .ok (.aload_n 0, 1) := by decide +kernel
theorem dX8_box_90 : decode cX8_box 90 = .ok (.iload_n 1, 1) := by decide +kernel
theorem dX8_box_91 : decode cX8_box 91 = .ok (.bipush 15, 2) := by decide +kernel
theorem dX8_box_93 : decode cX8_box 93 = .ok (.iload 5, 2) := by decide +kernel
theorem dX8_box_95 : decode cX8_box 95 = .ok (.invokevirtual 60, 3) := by decide +kernel
theorem dX8_box_98 : decode cX8_box 98 = .ok (.iconst 1, 1) := by decide +kernel
theorem dX8_box_99 : decode cX8_box 99 = .ok (.ireturn, 1) := by decide +kernel
theorem dX8_light_0 : decode cX8_light 0 = .ok (.ldc2_w 111, 3) := by decide +kernel
theorem dX8_light_3 : decode cX8_light 3 = .ok (.iload_n 0, 1) := by decide +kernel
theorem dX8_light_4 : decode cX8_light 4 = .ok (.bipush 16, 2) := by decide +kernel
theorem dX8_light_6 : decode cX8_light 6 = .ok (.ishr, 1) := by decide +kernel
theorem dX8_light_7 : decode cX8_light 7 = .ok (.i2l, 1) := by decide +kernel
theorem dX8_light_8 : decode cX8_light 8 = .ok (.lmul, 1) := by decide +kernel
theorem dX8_light_9 : decode cX8_light 9 = .ok (.ldc2_w 113, 3) := by decide +kernel
theorem dX8_light_12 : decode cX8_light 12 = .ok (.iload_n 0, 1) := by decide +kernel
theorem dX8_light_13 : decode cX8_light 13 = .ok (.bipush 8, 2) := by decide +kernel
theorem dX8_light_15 : decode cX8_light 15 = .ok (.ishr, 1) := by decide +kernel
theorem dX8_light_16 : decode cX8_light 16 = .ok (.sipush 255, 3) := by decide +kernel
theorem dX8_light_19 : decode cX8_light 19 = .ok (.iand, 1) := by decide +kernel
theorem dX8_light_20 : decode cX8_light 20 = .ok (.i2l, 1) := by decide +kernel
theorem dX8_light_21 : decode cX8_light 21 = .ok (.lmul, 1) := by decide +kernel
theorem dX8_light_22 : decode cX8_light 22 = .ok (.ladd, 1) := by decide +kernel
theorem dX8_light_23 : decode cX8_light 23 = .ok (.ldc2_w 115, 3) := by decide +kernel
theorem dX8_light_26 : decode cX8_light 26 = .ok (.iload_n 0, 1) := by decide +kernel
theorem dX8_light_27 : decode cX8_light 27 = .ok (.sipush 255, 3) := by decide +kernel
theorem dX8_light_30 : decode cX8_light 30 = .ok (.iand, 1) := by decide +kernel
theorem dX8_light_31 : decode cX8_light 31 = .ok (.i2l, 1) := by decide +kernel
theorem dX8_light_32 : decode cX8_light 32 = .ok (.lmul, 1) := by decide +kernel
theorem dX8_light_33 : decode cX8_light 33 = .ok (.ladd, 1) := by decide +kernel
theorem dX8_light_34 : decode cX8_light 34 = .ok (.lreturn, 1) := by decide +kernel
theorem dX8_contrastOf_0 : decode cX8_contrastOf 0 = .ok (.iload_n 0, 1) := by decide +kernel
theorem dX8_contrastOf_1 : decode cX8_contrastOf 1 = .ok (.invokestatic 117, 3) := by decide +kernel
theorem dX8_contrastOf_4 : decode cX8_contrastOf 4 = .ok (.ldc2_w 121, 3) := by decide +kernel
theorem dX8_contrastOf_7 : decode cX8_contrastOf 7 = .ok (.ladd, 1) := by decide +kernel
theorem dX8_contrastOf_8 : decode cX8_contrastOf 8 = .ok (.lstore_n 2, 1) := by decide +kernel
theorem dX8_contrastOf_9 : decode cX8_contrastOf 9 = .ok (.iload_n 1, 1) := by decide +kernel
theorem dX8_contrastOf_10 : decode cX8_contrastOf 10 = .ok (.invokestatic 117, 3) := by decide +kernel
theorem dX8_contrastOf_13 : decode cX8_contrastOf 13 = .ok (.ldc2_w 121, 3) := by decide +kernel
theorem dX8_contrastOf_16 : decode cX8_contrastOf 16 = .ok (.ladd, 1) := by decide +kernel
theorem dX8_contrastOf_17 : decode cX8_contrastOf 17 = .ok (.lstore 4, 2) := by decide +kernel
theorem dX8_contrastOf_19 : decode cX8_contrastOf 19 = .ok (.lload_n 2, 1) := by decide +kernel
theorem dX8_contrastOf_20 : decode cX8_contrastOf 20 = .ok (.lload 4, 2) := by decide +kernel
theorem dX8_contrastOf_22 : decode cX8_contrastOf 22 = .ok (.lcmp, 1) := by decide +kernel
theorem dX8_contrastOf_23 : decode cX8_contrastOf 23 = .ok (.ifCond .le 14, 3) := by decide +kernel
theorem dX8_contrastOf_26 : decode cX8_contrastOf 26 = .ok (.ldc2_w 84, 3) := by decide +kernel
theorem dX8_contrastOf_29 : decode cX8_contrastOf 29 = .ok (.lload_n 2, 1) := by decide +kernel
theorem dX8_contrastOf_30 : decode cX8_contrastOf 30 = .ok (.lmul, 1) := by decide +kernel
theorem dX8_contrastOf_31 : decode cX8_contrastOf 31 = .ok (.lload 4, 2) := by decide +kernel
theorem dX8_contrastOf_33 : decode cX8_contrastOf 33 = .ok (.ldiv, 1) := by decide +kernel
theorem dX8_contrastOf_34 : decode cX8_contrastOf 34 = .ok (.goto 11, 3) := by decide +kernel
theorem dX8_contrastOf_37 : decode cX8_contrastOf 37 = .ok (.ldc2_w 84, 3) := by decide +kernel
theorem dX8_contrastOf_40 : decode cX8_contrastOf 40 = .ok (.lload 4, 2) := by decide +kernel
theorem dX8_contrastOf_42 : decode cX8_contrastOf 42 = .ok (.lmul, 1) := by decide +kernel
theorem dX8_contrastOf_43 : decode cX8_contrastOf 43 = .ok (.lload_n 2, 1) := by decide +kernel
theorem dX8_contrastOf_44 : decode cX8_contrastOf 44 = .ok (.ldiv, 1) := by decide +kernel
theorem dX8_contrastOf_45 : decode cX8_contrastOf 45 = .ok (.l2i, 1) := by decide +kernel
theorem dX8_contrastOf_46 : decode cX8_contrastOf 46 = .ok (.ireturn, 1) := by decide +kernel
theorem dX8_colours_0 : decode cX8_colours 0 = .ok (.aload_n 0, 1) := by decide +kernel
theorem dX8_colours_1 : decode cX8_colours 1 = .ok (.iload_n 1, 1) := by decide +kernel
theorem dX8_colours_2 : decode cX8_colours 2 = .ok (.invokevirtual 68, 3) := by decide +kernel
theorem dX8_colours_5 : decode cX8_colours 5 = .ok (.ifCond .ne 6, 3) := by decide +kernel
theorem dX8_colours_8 : decode cX8_colours 8 = .ok (.bipush (-101), 2) := by decide +kernel
theorem dX8_colours_10 : decode cX8_colours 10 = .ok (.ireturn, 1) := by decide +kernel
theorem dX8_colours_11 : decode cX8_colours 11 = .ok (.iload_n 2, 1) := by decide +kernel
theorem dX8_colours_12 : decode cX8_colours 12 = .ok (.i2l, 1) := by decide +kernel
theorem dX8_colours_13 : decode cX8_colours 13 = .ok (.lconst 0, 1) := by decide +kernel
theorem dX8_colours_14 : decode cX8_colours 14 = .ok (.ldc2_w 123, 3) := by decide +kernel
theorem dX8_colours_17 : decode cX8_colours 17 = .ok (.invokestatic 64, 3) := by decide +kernel
theorem dX8_colours_20 : decode cX8_colours 20 = .ok (.ifCond .eq 15, 3) := by decide +kernel
theorem dX8_colours_23 : decode cX8_colours 23 = .ok (.iload_n 3, 1) := by decide +kernel
theorem dX8_colours_24 : decode cX8_colours 24 = .ok (.i2l, 1) := by decide +kernel
theorem dX8_colours_25 : decode cX8_colours 25 = .ok (.lconst 0, 1) := by decide +kernel
theorem dX8_colours_26 : decode cX8_colours 26 = .ok (.ldc2_w 123, 3) := by decide +kernel
theorem dX8_colours_29 : decode cX8_colours 29 = .ok (.invokestatic 64, 3) := by decide +kernel
theorem dX8_colours_32 : decode cX8_colours 32 = .ok (.ifCond .ne 6, 3) := by decide +kernel
theorem dX8_colours_35 : decode cX8_colours 35 = .ok (.bipush (-102), 2) := by decide +kernel
theorem dX8_colours_37 : decode cX8_colours 37 = .ok (.ireturn, 1) := by decide +kernel
theorem dX8_colours_38 : decode cX8_colours 38 = .ok (.aload_n 0, 1) := by decide +kernel
theorem dX8_colours_39 : decode cX8_colours 39 = .ok (.iload_n 1, 1) := by decide +kernel
theorem dX8_colours_40 : decode cX8_colours 40 = .ok (.bipush 16, 2) := by decide +kernel
theorem dX8_colours_42 : decode cX8_colours 42 = .ok (.iload_n 2, 1) := by decide +kernel
theorem dX8_colours_43 : decode cX8_colours 43 = .ok (.invokevirtual 60, 3) := by decide +kernel
theorem dX8_colours_46 : decode cX8_colours 46 = .ok (.aload_n 0, 1) := by decide +kernel
theorem dX8_colours_47 : decode cX8_colours 47 = .ok (.iload_n 1, 1) := by decide +kernel
theorem dX8_colours_48 : decode cX8_colours 48 = .ok (.bipush 17, 2) := by decide +kernel
theorem dX8_colours_50 : decode cX8_colours 50 = .ok (.iload_n 3, 1) := by decide +kernel
theorem dX8_colours_51 : decode cX8_colours 51 = .ok (.invokevirtual 60, 3) := by decide +kernel
theorem dX8_colours_54 : decode cX8_colours 54 = .ok (.iload_n 2, 1) := by decide +kernel
theorem dX8_colours_55 : decode cX8_colours 55 = .ok (.iload_n 3, 1) := by decide +kernel
theorem dX8_colours_56 : decode cX8_colours 56 = .ok (.invokestatic 125, 3) := by decide +kernel
theorem dX8_colours_59 : decode cX8_colours 59 = .ok (.ireturn, 1) := by decide +kernel
theorem dX8_contrast_0 : decode cX8_contrast 0 = .ok (.aload_n 0, 1) := by decide +kernel
theorem dX8_contrast_1 : decode cX8_contrast 1 = .ok (.iload_n 1, 1) := by decide +kernel
theorem dX8_contrast_2 : decode cX8_contrast 2 = .ok (.invokevirtual 68, 3) := by decide +kernel
theorem dX8_contrast_5 : decode cX8_contrast 5 = .ok (.ifCond .eq 23, 3) := by decide +kernel
theorem dX8_contrast_8 : decode cX8_contrast 8 = .ok (.aload_n 0, 1) := by decide +kernel
theorem dX8_contrast_9 : decode cX8_contrast 9 = .ok (.iload_n 1, 1) := by decide +kernel
theorem dX8_contrast_10 : decode cX8_contrast 10 = .ok (.bipush 16, 2) := by decide +kernel
theorem dX8_contrast_12 : decode cX8_contrast 12 = .ok (.invokevirtual 74, 3) := by decide +kernel
theorem dX8_contrast_15 : decode cX8_contrast 15 = .ok (.aload_n 0, 1) := by decide +kernel
theorem dX8_contrast_16 : decode cX8_contrast 16 = .ok (.iload_n 1, 1) := by decide +kernel
theorem dX8_contrast_17 : decode cX8_contrast 17 = .ok (.bipush 17, 2) := by decide +kernel
theorem dX8_contrast_19 : decode cX8_contrast 19 = .ok (.invokevirtual 74, 3) := by decide +kernel
theorem dX8_contrast_22 : decode cX8_contrast 22 = .ok (.invokestatic 125, 3) := by decide +kernel
theorem dX8_contrast_25 : decode cX8_contrast 25 = .ok (.goto 5, 3) := by decide +kernel
theorem dX8_contrast_28 : decode cX8_contrast 28 = .ok (.bipush (-101), 2) := by decide +kernel
theorem dX8_contrast_30 : decode cX8_contrast 30 = .ok (.ireturn, 1) := by decide +kernel
theorem dX8_addWord_0 : decode cX8_addWord 0 = .ok (.iload_n 2, 1) := by decide +kernel
theorem dX8_addWord_1 : decode cX8_addWord 1 = .ok (.ifCond .eq 41, 3) := by decide +kernel
theorem dX8_addWord_4 : decode cX8_addWord 4 = .ok (.aload_n 0, 1) := by decide +kernel
theorem dX8_addWord_5 : decode cX8_addWord 5 = .ok (.getfield 25, 3) := by decide +kernel
theorem dX8_addWord_8 : decode cX8_addWord 8 = .ok (.iload_n 1, 1) := by decide +kernel
theorem dX8_addWord_9 : decode cX8_addWord 9 = .ok (.iaload, 1) := by decide +kernel
theorem dX8_addWord_10 : decode cX8_addWord 10 = .ok (.bipush 8, 2) := by decide +kernel
theorem dX8_addWord_12 : decode cX8_addWord 12 = .ok (.if_icmp .ge 30, 3) := by decide +kernel
theorem dX8_addWord_15 : decode cX8_addWord 15 = .ok (.aload_n 0, 1) := by decide +kernel
theorem dX8_addWord_16 : decode cX8_addWord 16 = .ok (.getfield 22, 3) := by decide +kernel
theorem dX8_addWord_19 : decode cX8_addWord 19 = .ok (.bipush 8, 2) := by decide +kernel
theorem dX8_addWord_21 : decode cX8_addWord 21 = .ok (.iload_n 1, 1) := by decide +kernel
theorem dX8_addWord_22 : decode cX8_addWord 22 = .ok (.imul, 1) := by decide +kernel
theorem dX8_addWord_23 : decode cX8_addWord 23 = .ok (.aload_n 0, 1) := by decide +kernel
theorem dX8_addWord_24 : decode cX8_addWord 24 = .ok (.getfield 25, 3) := by decide +kernel
theorem dX8_addWord_27 : decode cX8_addWord 27 = .ok (.iload_n 1, 1) := by decide +kernel
theorem dX8_addWord_28 : decode cX8_addWord 28 = .ok (.iaload, 1) := by decide +kernel
theorem dX8_addWord_29 : decode cX8_addWord 29 = .ok (.iadd, 1) := by decide +kernel
theorem dX8_addWord_30 : decode cX8_addWord 30 = .ok (.iload_n 2, 1) := by decide +kernel
theorem dX8_addWord_31 : decode cX8_addWord 31 = .ok (.iastore, 1) := by decide +kernel
theorem dX8_addWord_32 : decode cX8_addWord 32 = .ok (.aload_n 0, 1) := by decide +kernel
theorem dX8_addWord_33 : decode cX8_addWord 33 = .ok (.getfield 25, 3) := by decide +kernel
theorem dX8_addWord_36 : decode cX8_addWord 36 = .ok (.iload_n 1, 1) := by decide +kernel
theorem dX8_addWord_37 : decode cX8_addWord 37 = .ok (.dup2, 1) := by decide +kernel
theorem dX8_addWord_38 : decode cX8_addWord 38 = .ok (.iaload, 1) := by decide +kernel
theorem dX8_addWord_39 : decode cX8_addWord 39 = .ok (.iconst 1, 1) := by decide +kernel
theorem dX8_addWord_40 : decode cX8_addWord 40 = .ok (.iadd, 1) := by decide +kernel
theorem dX8_addWord_41 : decode cX8_addWord 41 = .ok (.iastore, 1) := by decide +kernel
theorem dX8_addWord_42 : decode cX8_addWord 42 = .ok (.return_, 1) := by decide +kernel
theorem dX8_findName_0 : decode cX8_findName 0 = .ok (.aload_n 0, 1) := by decide +kernel
theorem dX8_findName_1 : decode cX8_findName 1 = .ok (.getfield 25, 3) := by decide +kernel
theorem dX8_findName_4 : decode cX8_findName 4 = .ok (.iload_n 1, 1) := by decide +kernel
theorem dX8_findName_5 : decode cX8_findName 5 = .ok (.iconst 0, 1) := by decide +kernel
theorem dX8_findName_6 : decode cX8_findName 6 = .ok (.iastore, 1) := by decide +kernel
theorem dX8_findName_7 : decode cX8_findName 7 = .ok (.iconst 3, 1) := by decide +kernel
theorem dX8_findName_8 : decode cX8_findName 8 = .ok (.istore_n 2, 1) := by decide +kernel
theorem dX8_findName_9 : decode cX8_findName 9 = .ok (.iload_n 2, 1) := by decide +kernel
theorem dX8_findName_10 : decode cX8_findName 10 = .ok (.iconst 5, 1) := by decide +kernel
theorem dX8_findName_11 : decode cX8_findName 11 = .ok (.if_icmp .ge 35, 3) := by decide +kernel
theorem dX8_findName_14 : decode cX8_findName 14 = .ok (.aload_n 0, 1) := by decide +kernel
theorem dX8_findName_15 : decode cX8_findName 15 = .ok (.iload_n 1, 1) := by decide +kernel
theorem dX8_findName_16 : decode cX8_findName 16 = .ok (.iload_n 2, 1) := by decide +kernel
theorem dX8_findName_17 : decode cX8_findName 17 = .ok (.invokevirtual 74, 3) := by decide +kernel
theorem dX8_findName_20 : decode cX8_findName 20 = .ok (.iconst (-1), 1) := by decide +kernel
theorem dX8_findName_21 : decode cX8_findName 21 = .ok (.if_icmp .eq 19, 3) := by decide +kernel
theorem dX8_findName_24 : decode cX8_findName 24 = .ok (.aload_n 0, 1) := by decide +kernel
theorem dX8_findName_25 : decode cX8_findName 25 = .ok (.iload_n 1, 1) := by decide +kernel
theorem dX8_findName_26 : decode cX8_findName 26 = .ok (.aload_n 0, 1) := by decide +kernel
theorem dX8_findName_27 : decode cX8_findName 27 = .ok (.aload_n 0, 1) := by decide +kernel
theorem dX8_findName_28 : decode cX8_findName 28 = .ok (.iload_n 1, 1) := by decide +kernel
theorem dX8_findName_29 : decode cX8_findName 29 = .ok (.iload_n 2, 1) := by decide +kernel
theorem dX8_findName_30 : decode cX8_findName 30 = .ok (.invokevirtual 74, 3) := by decide +kernel
theorem dX8_findName_33 : decode cX8_findName 33 = .ok (.iconst 0, 1) := by decide +kernel
theorem dX8_findName_34 : decode cX8_findName 34 = .ok (.invokevirtual 74, 3) := by decide +kernel
theorem dX8_findName_37 : decode cX8_findName 37 = .ok (.invokevirtual 128, 3) := by decide +kernel
theorem dX8_findName_40 : decode cX8_findName 40 = .ok (.iinc 2 1, 3) := by decide +kernel
theorem dX8_findName_43 : decode cX8_findName 43 = .ok (.goto (-34), 3) := by decide +kernel
theorem dX8_findName_46 : decode cX8_findName 46 = .ok (.aload_n 0, 1) := by decide +kernel
theorem dX8_findName_47 : decode cX8_findName 47 = .ok (.getfield 25, 3) := by decide +kernel
theorem dX8_findName_50 : decode cX8_findName 50 = .ok (.iload_n 1, 1) := by decide +kernel
theorem dX8_findName_51 : decode cX8_findName 51 = .ok (.iaload, 1) := by decide +kernel
theorem dX8_findName_52 : decode cX8_findName 52 = .ok (.ifCond .ne 14, 3) := by decide +kernel
theorem dX8_findName_55 : decode cX8_findName 55 = .ok (.aload_n 0, 1) := by decide +kernel
theorem dX8_findName_56 : decode cX8_findName 56 = .ok (.iload_n 1, 1) := by decide +kernel
theorem dX8_findName_57 : decode cX8_findName 57 = .ok (.aload_n 0, 1) := by decide +kernel
theorem dX8_findName_58 : decode cX8_findName 58 = .ok (.iload_n 1, 1) := by decide +kernel
theorem dX8_findName_59 : decode cX8_findName 59 = .ok (.iconst 1, 1) := by decide +kernel
theorem dX8_findName_60 : decode cX8_findName 60 = .ok (.invokevirtual 74, 3) := by decide +kernel
theorem dX8_findName_63 : decode cX8_findName 63 = .ok (.invokevirtual 128, 3) := by decide +kernel
theorem dX8_findName_66 : decode cX8_findName 66 = .ok (.aload_n 0, 1) := by decide +kernel
theorem dX8_findName_67 : decode cX8_findName 67 = .ok (.getfield 25, 3) := by decide +kernel
theorem dX8_findName_70 : decode cX8_findName 70 = .ok (.iload_n 1, 1) := by decide +kernel
theorem dX8_findName_71 : decode cX8_findName 71 = .ok (.iaload, 1) := by decide +kernel
theorem dX8_findName_72 : decode cX8_findName 72 = .ok (.ifCond .ne 14, 3) := by decide +kernel
theorem dX8_findName_75 : decode cX8_findName 75 = .ok (.aload_n 0, 1) := by decide +kernel
theorem dX8_findName_76 : decode cX8_findName 76 = .ok (.iload_n 1, 1) := by decide +kernel
theorem dX8_findName_77 : decode cX8_findName 77 = .ok (.aload_n 0, 1) := by decide +kernel
theorem dX8_findName_78 : decode cX8_findName 78 = .ok (.iload_n 1, 1) := by decide +kernel
theorem dX8_findName_79 : decode cX8_findName 79 = .ok (.iconst 0, 1) := by decide +kernel
theorem dX8_findName_80 : decode cX8_findName 80 = .ok (.invokevirtual 74, 3) := by decide +kernel
theorem dX8_findName_83 : decode cX8_findName 83 = .ok (.invokevirtual 128, 3) := by decide +kernel
theorem dX8_findName_86 : decode cX8_findName 86 = .ok (.aload_n 0, 1) := by decide +kernel
theorem dX8_findName_87 : decode cX8_findName 87 = .ok (.getfield 25, 3) := by decide +kernel
theorem dX8_findName_90 : decode cX8_findName 90 = .ok (.iload_n 1, 1) := by decide +kernel
theorem dX8_findName_91 : decode cX8_findName 91 = .ok (.iaload, 1) := by decide +kernel
theorem dX8_findName_92 : decode cX8_findName 92 = .ok (.ifCond .ne 80, 3) := by decide +kernel
theorem dX8_findName_95 : decode cX8_findName 95 = .ok (.aload_n 0, 1) := by decide +kernel
theorem dX8_findName_96 : decode cX8_findName 96 = .ok (.iload_n 1, 1) := by decide +kernel
theorem dX8_findName_97 : decode cX8_findName 97 = .ok (.bipush 10, 2) := by decide +kernel
theorem dX8_findName_99 : decode cX8_findName 99 = .ok (.invokevirtual 74, 3) := by decide +kernel
theorem dX8_findName_102 : decode cX8_findName 102 = .ok (.iconst 2, 1) := by decide +kernel
theorem dX8_findName_103 : decode cX8_findName 103 = .ok (.if_icmp .ne 69, 3) := by decide +kernel
theorem dX8_findName_106 : decode cX8_findName 106 = .ok (.aload_n 0, 1) := by decide +kernel
theorem dX8_findName_107 : decode cX8_findName 107 = .ok (.invokevirtual 132, 3) := by decide +kernel
theorem dX8_findName_110 : decode cX8_findName 110 = .ok (.iconst 0, 1) := by decide +kernel
theorem dX8_findName_111 : decode cX8_findName 111 = .ok (.istore_n 2, 1) := by decide +kernel
theorem dX8_findName_112 : decode cX8_findName 112 = .ok (.iload_n 2, 1) := by decide +kernel
theorem dX8_findName_113 : decode cX8_findName 113 = .ok (.aload_n 0, 1) := by decide +kernel
theorem dX8_findName_114 : decode cX8_findName 114 = .ok (.getfield 57, 3) := by decide +kernel
theorem dX8_findName_117 : decode cX8_findName 117 = .ok (.if_icmp .ge 55, 3) := by decide +kernel
theorem dX8_findName_120 : decode cX8_findName 120 = .ok (.aload_n 0, 1) := by decide +kernel
theorem dX8_findName_121 : decode cX8_findName 121 = .ok (.getfield 16, 3) := by decide +kernel
theorem dX8_findName_124 : decode cX8_findName 124 = .ok (.iload_n 2, 1) := by decide +kernel
theorem dX8_findName_125 : decode cX8_findName 125 = .ok (.iaload, 1) := by decide +kernel
theorem dX8_findName_126 : decode cX8_findName 126 = .ok (.istore_n 3, 1) := by decide +kernel
theorem dX8_findName_127 : decode cX8_findName 127 = .ok (.aload_n 0, 1) := by decide +kernel
theorem dX8_findName_128 : decode cX8_findName 128 = .ok (.iload_n 3, 1) := by decide +kernel
theorem dX8_findName_129 : decode cX8_findName 129 = .ok (.bipush 10, 2) := by decide +kernel
theorem dX8_findName_131 : decode cX8_findName 131 = .ok (.invokevirtual 74, 3) := by decide +kernel
theorem dX8_findName_134 : decode cX8_findName 134 = .ok (.iconst 1, 1) := by decide +kernel
theorem dX8_findName_135 : decode cX8_findName 135 = .ok (.if_icmp .ne 31, 3) := by decide +kernel
theorem dX8_findName_138 : decode cX8_findName 138 = .ok (.aload_n 0, 1) := by decide +kernel
theorem dX8_findName_139 : decode cX8_findName 139 = .ok (.iload_n 3, 1) := by decide +kernel
theorem dX8_findName_140 : decode cX8_findName 140 = .ok (.iload_n 1, 1) := by decide +kernel
theorem dX8_findName_141 : decode cX8_findName 141 = .ok (.invokevirtual 135, 3) := by decide +kernel
theorem dX8_findName_144 : decode cX8_findName 144 = .ok (.ifCond .eq 22, 3) := by decide +kernel
theorem dX8_findName_147 : decode cX8_findName 147 = .ok (.aload_n 0, 1) := by decide +kernel
theorem dX8_findName_148 : decode cX8_findName 148 = .ok (.iload_n 3, 1) := by decide +kernel
theorem dX8_findName_149 : decode cX8_findName 149 = .ok (.invokevirtual 89, 3) := by decide +kernel
theorem dX8_findName_152 : decode cX8_findName 152 = .ok (.ifCond .eq 14, 3) := by decide +kernel
theorem dX8_findName_155 : decode cX8_findName 155 = .ok (.aload_n 0, 1) := by decide +kernel
theorem dX8_findName_156 : decode cX8_findName 156 = .ok (.iload_n 1, 1) := by decide +kernel
theorem dX8_findName_157 : decode cX8_findName 157 = .ok (.aload_n 0, 1) := by decide +kernel
theorem dX8_findName_158 : decode cX8_findName 158 = .ok (.iload_n 3, 1) := by decide +kernel
theorem dX8_findName_159 : decode cX8_findName 159 = .ok (.iconst 0, 1) := by decide +kernel
theorem dX8_findName_160 : decode cX8_findName 160 = .ok (.invokevirtual 74, 3) := by decide +kernel
theorem dX8_findName_163 : decode cX8_findName 163 = .ok (.invokevirtual 128, 3) := by decide +kernel
theorem dX8_findName_166 : decode cX8_findName 166 = .ok (.iinc 2 1, 3) := by decide +kernel
theorem dX8_findName_169 : decode cX8_findName 169 = .ok (.goto (-57), 3) := by decide +kernel
theorem dX8_findName_172 : decode cX8_findName 172 = .ok (.aload_n 0, 1) := by decide +kernel
theorem dX8_findName_173 : decode cX8_findName 173 = .ok (.getfield 25, 3) := by decide +kernel
theorem dX8_findName_176 : decode cX8_findName 176 = .ok (.iload_n 1, 1) := by decide +kernel
theorem dX8_findName_177 : decode cX8_findName 177 = .ok (.iaload, 1) := by decide +kernel
theorem dX8_findName_178 : decode cX8_findName 178 = .ok (.ifCond .ne 14, 3) := by decide +kernel
theorem dX8_findName_181 : decode cX8_findName 181 = .ok (.aload_n 0, 1) := by decide +kernel
theorem dX8_findName_182 : decode cX8_findName 182 = .ok (.iload_n 1, 1) := by decide +kernel
theorem dX8_findName_183 : decode cX8_findName 183 = .ok (.aload_n 0, 1) := by decide +kernel
theorem dX8_findName_184 : decode cX8_findName 184 = .ok (.iload_n 1, 1) := by decide +kernel
theorem dX8_findName_185 : decode cX8_findName 185 = .ok (.iconst 2, 1) := by decide +kernel
theorem dX8_findName_186 : decode cX8_findName 186 = .ok (.invokevirtual 74, 3) := by decide +kernel
theorem dX8_findName_189 : decode cX8_findName 189 = .ok (.invokevirtual 128, 3) := by decide +kernel
theorem dX8_findName_192 : decode cX8_findName 192 = .ok (.return_, 1) := by decide +kernel
theorem dX8_name_0 : decode cX8_name 0 = .ok (.aload_n 0, 1) := by decide +kernel
theorem dX8_name_1 : decode cX8_name 1 = .ok (.iload_n 1, 1) := by decide +kernel
theorem dX8_name_2 : decode cX8_name 2 = .ok (.invokevirtual 68, 3) := by decide +kernel
theorem dX8_name_5 : decode cX8_name 5 = .ok (.ifCond .ne 6, 3) := by decide +kernel
theorem dX8_name_8 : decode cX8_name 8 = .ok (.bipush (-101), 2) := by decide +kernel
theorem dX8_name_10 : decode cX8_name 10 = .ok (.ireturn, 1) := by decide +kernel
theorem dX8_name_11 : decode cX8_name 11 = .ok (.aload_n 0, 1) := by decide +kernel
theorem dX8_name_12 : decode cX8_name 12 = .ok (.iload_n 1, 1) := by decide +kernel
theorem dX8_name_13 : decode cX8_name 13 = .ok (.invokevirtual 138, 3) := by decide +kernel
theorem dX8_name_16 : decode cX8_name 16 = .ok (.aload_n 0, 1) := by decide +kernel
theorem dX8_name_17 : decode cX8_name 17 = .ok (.getfield 25, 3) := by decide +kernel
theorem dX8_name_20 : decode cX8_name 20 = .ok (.iload_n 1, 1) := by decide +kernel
theorem dX8_name_21 : decode cX8_name 21 = .ok (.iaload, 1) := by decide +kernel
theorem dX8_name_22 : decode cX8_name 22 = .ok (.ireturn, 1) := by decide +kernel
theorem dX8_word_0 : decode cX8_word 0 = .ok (.aload_n 0, 1) := by decide +kernel
theorem dX8_word_1 : decode cX8_word 1 = .ok (.iload_n 1, 1) := by decide +kernel
theorem dX8_word_2 : decode cX8_word 2 = .ok (.invokevirtual 68, 3) := by decide +kernel
theorem dX8_word_5 : decode cX8_word 5 = .ok (.ifCond .ne 5, 3) := by decide +kernel
theorem dX8_word_8 : decode cX8_word 8 = .ok (.iconst 0, 1) := by decide +kernel
theorem dX8_word_9 : decode cX8_word 9 = .ok (.ireturn, 1) := by decide +kernel
theorem dX8_word_10 : decode cX8_word 10 = .ok (.aload_n 0, 1) := by decide +kernel
theorem dX8_word_11 : decode cX8_word 11 = .ok (.iload_n 1, 1) := by decide +kernel
theorem dX8_word_12 : decode cX8_word 12 = .ok (.invokevirtual 138, 3) := by decide +kernel
theorem dX8_word_15 : decode cX8_word 15 = .ok (.iload_n 2, 1) := by decide +kernel
theorem dX8_word_16 : decode cX8_word 16 = .ok (.i2l, 1) := by decide +kernel
theorem dX8_word_17 : decode cX8_word 17 = .ok (.lconst 0, 1) := by decide +kernel
theorem dX8_word_18 : decode cX8_word 18 = .ok (.aload_n 0, 1) := by decide +kernel
theorem dX8_word_19 : decode cX8_word 19 = .ok (.getfield 25, 3) := by decide +kernel
theorem dX8_word_22 : decode cX8_word 22 = .ok (.iload_n 1, 1) := by decide +kernel
theorem dX8_word_23 : decode cX8_word 23 = .ok (.iaload, 1) := by decide +kernel
theorem dX8_word_24 : decode cX8_word 24 = .ok (.iconst 1, 1) := by decide +kernel
theorem dX8_word_25 : decode cX8_word 25 = .ok (.isub, 1) := by decide +kernel
theorem dX8_word_26 : decode cX8_word 26 = .ok (.i2l, 1) := by decide +kernel
theorem dX8_word_27 : decode cX8_word 27 = .ok (.invokestatic 64, 3) := by decide +kernel
theorem dX8_word_30 : decode cX8_word 30 = .ok (.ifCond .eq 17, 3) := by decide +kernel
theorem dX8_word_33 : decode cX8_word 33 = .ok (.aload_n 0, 1) := by decide +kernel
theorem dX8_word_34 : decode cX8_word 34 = .ok (.getfield 22, 3) := by decide +kernel
theorem dX8_word_37 : decode cX8_word 37 = .ok (.bipush 8, 2) := by decide +kernel
theorem dX8_word_39 : decode cX8_word 39 = .ok (.iload_n 1, 1) := by decide +kernel
theorem dX8_word_40 : decode cX8_word 40 = .ok (.imul, 1) := by decide +kernel
theorem dX8_word_41 : decode cX8_word 41 = .ok (.iload_n 2, 1) := by decide +kernel
theorem dX8_word_42 : decode cX8_word 42 = .ok (.iadd, 1) := by decide +kernel
theorem dX8_word_43 : decode cX8_word 43 = .ok (.iaload, 1) := by decide +kernel
theorem dX8_word_44 : decode cX8_word 44 = .ok (.goto 4, 3) := by decide +kernel
theorem dX8_word_47 : decode cX8_word 47 = .ok (.iconst 0, 1) := by decide +kernel
theorem dX8_word_48 : decode cX8_word 48 = .ok (.ireturn, 1) := by decide +kernel
theorem dX8_findSaid_0 : decode cX8_findSaid 0 = .ok (.aload_n 0, 1) := by decide +kernel
theorem dX8_findSaid_1 : decode cX8_findSaid 1 = .ok (.invokevirtual 132, 3) := by decide +kernel
theorem dX8_findSaid_4 : decode cX8_findSaid 4 = .ok (.aload_n 0, 1) := by decide +kernel
theorem dX8_findSaid_5 : decode cX8_findSaid 5 = .ok (.iconst 0, 1) := by decide +kernel
theorem dX8_findSaid_6 : decode cX8_findSaid 6 = .ok (.putfield 141, 3) := by decide +kernel
theorem dX8_findSaid_9 : decode cX8_findSaid 9 = .ok (.iconst 0, 1) := by decide +kernel
theorem dX8_findSaid_10 : decode cX8_findSaid 10 = .ok (.istore_n 1, 1) := by decide +kernel
theorem dX8_findSaid_11 : decode cX8_findSaid 11 = .ok (.iload_n 1, 1) := by decide +kernel
theorem dX8_findSaid_12 : decode cX8_findSaid 12 = .ok (.aload_n 0, 1) := by decide +kernel
theorem dX8_findSaid_13 : decode cX8_findSaid 13 = .ok (.getfield 57, 3) := by decide +kernel
theorem dX8_findSaid_16 : decode cX8_findSaid 16 = .ok (.if_icmp .ge 103, 3) := by decide +kernel
theorem dX8_findSaid_19 : decode cX8_findSaid 19 = .ok (.aload_n 0, 1) := by decide +kernel
theorem dX8_findSaid_20 : decode cX8_findSaid 20 = .ok (.getfield 16, 3) := by decide +kernel
theorem dX8_findSaid_23 : decode cX8_findSaid 23 = .ok (.iload_n 1, 1) := by decide +kernel
theorem dX8_findSaid_24 : decode cX8_findSaid 24 = .ok (.iaload, 1) := by decide +kernel
theorem dX8_findSaid_25 : decode cX8_findSaid 25 = .ok (.istore_n 2, 1) := by decide +kernel
theorem dX8_findSaid_26 : decode cX8_findSaid 26 = .ok (.aload_n 0, 1) := by decide +kernel
theorem dX8_findSaid_27 : decode cX8_findSaid 27 = .ok (.iload_n 2, 1) := by decide +kernel
theorem dX8_findSaid_28 : decode cX8_findSaid 28 = .ok (.bipush 10, 2) := by decide +kernel
theorem dX8_findSaid_30 : decode cX8_findSaid 30 = .ok (.invokevirtual 74, 3) := by decide +kernel
theorem dX8_findSaid_33 : decode cX8_findSaid 33 = .ok (.istore_n 3, 1) := by decide +kernel
theorem dX8_findSaid_34 : decode cX8_findSaid 34 = .ok (.iload_n 3, 1) := by decide +kernel
theorem dX8_findSaid_35 : decode cX8_findSaid 35 = .ok (.iconst 1, 1) := by decide +kernel
theorem dX8_findSaid_36 : decode cX8_findSaid 36 = .ok (.if_icmp .ne 22, 3) := by decide +kernel
theorem dX8_findSaid_39 : decode cX8_findSaid 39 = .ok (.aload_n 0, 1) := by decide +kernel
theorem dX8_findSaid_40 : decode cX8_findSaid 40 = .ok (.iload_n 2, 1) := by decide +kernel
theorem dX8_findSaid_41 : decode cX8_findSaid 41 = .ok (.iconst 0, 1) := by decide +kernel
theorem dX8_findSaid_42 : decode cX8_findSaid 42 = .ok (.invokevirtual 74, 3) := by decide +kernel
theorem dX8_findSaid_45 : decode cX8_findSaid 45 = .ok (.ifCond .eq 13, 3) := by decide +kernel
theorem dX8_findSaid_48 : decode cX8_findSaid 48 = .ok (.aload_n 0, 1) := by decide +kernel
theorem dX8_findSaid_49 : decode cX8_findSaid 49 = .ok (.iload_n 2, 1) := by decide +kernel
theorem dX8_findSaid_50 : decode cX8_findSaid 50 = .ok (.iconst 2, 1) := by decide +kernel
theorem dX8_findSaid_51 : decode cX8_findSaid 51 = .ok (.invokevirtual 86, 3) := by decide +kernel
theorem dX8_findSaid_54 : decode cX8_findSaid 54 = .ok (.iconst (-1), 1) := by decide +kernel
theorem dX8_findSaid_55 : decode cX8_findSaid 55 = .ok (.if_icmp .eq 18, 3) := by decide +kernel
theorem dX8_findSaid_58 : decode cX8_findSaid 58 = .ok (.iload_n 3, 1) := by decide +kernel
theorem dX8_findSaid_59 : decode cX8_findSaid 59 = .ok (.iconst 2, 1) := by decide +kernel
theorem dX8_findSaid_60 : decode cX8_findSaid 60 = .ok (.if_icmp .eq 13, 3) := by decide +kernel
theorem dX8_findSaid_63 : decode cX8_findSaid 63 = .ok (.iload_n 3, 1) := by decide +kernel
theorem dX8_findSaid_64 : decode cX8_findSaid 64 = .ok (.iconst 3, 1) := by decide +kernel
theorem dX8_findSaid_65 : decode cX8_findSaid 65 = .ok (.if_icmp .eq 8, 3) := by decide +kernel
theorem dX8_findSaid_68 : decode cX8_findSaid 68 = .ok (.iload_n 3, 1) := by decide +kernel
theorem dX8_findSaid_69 : decode cX8_findSaid 69 = .ok (.iconst 4, 1) := by decide +kernel
theorem dX8_findSaid_70 : decode cX8_findSaid 70 = .ok (.if_icmp .ne 7, 3) := by decide +kernel
theorem dX8_findSaid_73 : decode cX8_findSaid 73 = .ok (.iconst 1, 1) := by decide +kernel
theorem dX8_findSaid_74 : decode cX8_findSaid 74 = .ok (.goto 4, 3) := by decide +kernel
theorem dX8_findSaid_77 : decode cX8_findSaid 77 = .ok (.iconst 0, 1) := by decide +kernel
theorem dX8_findSaid_78 : decode cX8_findSaid 78 = .ok (.istore 4, 2) := by decide +kernel
theorem dX8_findSaid_80 : decode cX8_findSaid 80 = .ok (.iload 4, 2) := by decide +kernel
theorem dX8_findSaid_82 : decode cX8_findSaid 82 = .ok (.ifCond .eq 31, 3) := by decide +kernel
theorem dX8_findSaid_85 : decode cX8_findSaid 85 = .ok (.aload_n 0, 1) := by decide +kernel
theorem dX8_findSaid_86 : decode cX8_findSaid 86 = .ok (.iload_n 2, 1) := by decide +kernel
theorem dX8_findSaid_87 : decode cX8_findSaid 87 = .ok (.invokevirtual 89, 3) := by decide +kernel
theorem dX8_findSaid_90 : decode cX8_findSaid 90 = .ok (.ifCond .eq 23, 3) := by decide +kernel
theorem dX8_findSaid_93 : decode cX8_findSaid 93 = .ok (.aload_n 0, 1) := by decide +kernel
theorem dX8_findSaid_94 : decode cX8_findSaid 94 = .ok (.getfield 28, 3) := by decide +kernel
theorem dX8_findSaid_97 : decode cX8_findSaid 97 = .ok (.aload_n 0, 1) := by decide +kernel
theorem dX8_findSaid_98 : decode cX8_findSaid 98 = .ok (.getfield 141, 3) := by decide +kernel
theorem dX8_findSaid_101 : decode cX8_findSaid 101 = .ok (.iload_n 2, 1) := by decide +kernel
theorem dX8_findSaid_102 : decode cX8_findSaid 102 = .ok (.iastore, 1) := by decide +kernel
theorem dX8_findSaid_103 : decode cX8_findSaid 103 = .ok (.aload_n 0, 1) := by decide +kernel
theorem dX8_findSaid_104 : decode cX8_findSaid 104 = .ok (.dup, 1) := by decide +kernel
theorem dX8_findSaid_105 : decode cX8_findSaid 105 = .ok (.getfield 141, 3) := by decide +kernel
theorem dX8_findSaid_108 : decode cX8_findSaid 108 = .ok (.iconst 1, 1) := by decide +kernel
theorem dX8_findSaid_109 : decode cX8_findSaid 109 = .ok (.iadd, 1) := by decide +kernel
theorem dX8_findSaid_110 : decode cX8_findSaid 110 = .ok (.putfield 141, 3) := by decide +kernel
theorem dX8_findSaid_113 : decode cX8_findSaid 113 = .ok (.iinc 1 1, 3) := by decide +kernel
theorem dX8_findSaid_116 : decode cX8_findSaid 116 = .ok (.goto (-105), 3) := by decide +kernel
theorem dX8_findSaid_119 : decode cX8_findSaid 119 = .ok (.return_, 1) := by decide +kernel
theorem dX8_said_0 : decode cX8_said 0 = .ok (.aload_n 0, 1) := by decide +kernel
theorem dX8_said_1 : decode cX8_said 1 = .ok (.invokevirtual 144, 3) := by decide +kernel
theorem dX8_said_4 : decode cX8_said 4 = .ok (.iload_n 1, 1) := by decide +kernel
theorem dX8_said_5 : decode cX8_said 5 = .ok (.i2l, 1) := by decide +kernel
theorem dX8_said_6 : decode cX8_said 6 = .ok (.lconst 0, 1) := by decide +kernel
theorem dX8_said_7 : decode cX8_said 7 = .ok (.aload_n 0, 1) := by decide +kernel
theorem dX8_said_8 : decode cX8_said 8 = .ok (.getfield 141, 3) := by decide +kernel
theorem dX8_said_11 : decode cX8_said 11 = .ok (.iconst 1, 1) := by decide +kernel
theorem dX8_said_12 : decode cX8_said 12 = .ok (.isub, 1) := by decide +kernel
theorem dX8_said_13 : decode cX8_said 13 = .ok (.i2l, 1) := by decide +kernel
theorem dX8_said_14 : decode cX8_said 14 = .ok (.invokestatic 64, 3) := by decide +kernel
theorem dX8_said_17 : decode cX8_said 17 = .ok (.ifCond .eq 12, 3) := by decide +kernel
theorem dX8_said_20 : decode cX8_said 20 = .ok (.aload_n 0, 1) := by decide +kernel
theorem dX8_said_21 : decode cX8_said 21 = .ok (.getfield 28, 3) := by decide +kernel
theorem dX8_said_24 : decode cX8_said 24 = .ok (.iload_n 1, 1) := by decide +kernel
theorem dX8_said_25 : decode cX8_said 25 = .ok (.iaload, 1) := by decide +kernel
theorem dX8_said_26 : decode cX8_said 26 = .ok (.goto 4, 3) := by decide +kernel
theorem dX8_said_29 : decode cX8_said 29 = .ok (.iconst (-1), 1) := by decide +kernel
theorem dX8_said_30 : decode cX8_said 30 = .ok (.ireturn, 1) := by decide +kernel
theorem dX8_hasBox_0 : decode cX8_hasBox 0 = .ok (.aload_n 0, 1) := by decide +kernel
theorem dX8_hasBox_1 : decode cX8_hasBox 1 = .ok (.iload_n 1, 1) := by decide +kernel
theorem dX8_hasBox_2 : decode cX8_hasBox 2 = .ok (.bipush 14, 2) := by decide +kernel
theorem dX8_hasBox_4 : decode cX8_hasBox 4 = .ok (.invokevirtual 74, 3) := by decide +kernel
theorem dX8_hasBox_7 : decode cX8_hasBox 7 = .ok (.ifCond .le 17, 3) := by decide +kernel
theorem dX8_hasBox_10 : decode cX8_hasBox 10 = .ok (.aload_n 0, 1) := by decide +kernel
theorem dX8_hasBox_11 : decode cX8_hasBox 11 = .ok (.iload_n 1, 1) := by decide +kernel
theorem dX8_hasBox_12 : decode cX8_hasBox 12 = .ok (.bipush 15, 2) := by decide +kernel
theorem dX8_hasBox_14 : decode cX8_hasBox 14 = .ok (.invokevirtual 74, 3) := by decide +kernel
theorem dX8_hasBox_17 : decode cX8_hasBox 17 = .ok (.ifCond .le 7, 3) := by decide +kernel
theorem dX8_hasBox_20 : decode cX8_hasBox 20 = .ok (.iconst 1, 1) := by decide +kernel
theorem dX8_hasBox_21 : decode cX8_hasBox 21 = .ok (.goto 4, 3) := by decide +kernel
theorem dX8_hasBox_24 : decode cX8_hasBox 24 = .ok (.iconst 0, 1) := by decide +kernel
theorem dX8_hasBox_25 : decode cX8_hasBox 25 = .ok (.ireturn, 1) := by decide +kernel
theorem dX8_isAbove_0 : decode cX8_isAbove 0 = .ok (.aload_n 0, 1) := by decide +kernel
theorem dX8_isAbove_1 : decode cX8_isAbove 1 = .ok (.iload_n 1, 1) := by decide +kernel
theorem dX8_isAbove_2 : decode cX8_isAbove 2 = .ok (.bipush 13, 2) := by decide +kernel
theorem dX8_isAbove_4 : decode cX8_isAbove 4 = .ok (.invokevirtual 74, 3) := by decide +kernel
theorem dX8_isAbove_7 : decode cX8_isAbove 7 = .ok (.aload_n 0, 1) := by decide +kernel
theorem dX8_isAbove_8 : decode cX8_isAbove 8 = .ok (.iload_n 1, 1) := by decide +kernel
theorem dX8_isAbove_9 : decode cX8_isAbove 9 = .ok (.bipush 15, 2) := by decide +kernel
theorem dX8_isAbove_11 : decode cX8_isAbove 11 = .ok (.invokevirtual 74, 3) := by decide +kernel
theorem dX8_isAbove_14 : decode cX8_isAbove 14 = .ok (.iadd, 1) := by decide +kernel
theorem dX8_isAbove_15 : decode cX8_isAbove 15 = .ok (.aload_n 0, 1) := by decide +kernel
theorem dX8_isAbove_16 : decode cX8_isAbove 16 = .ok (.iload_n 2, 1) := by decide +kernel
theorem dX8_isAbove_17 : decode cX8_isAbove 17 = .ok (.bipush 13, 2) := by decide +kernel
theorem dX8_isAbove_19 : decode cX8_isAbove 19 = .ok (.invokevirtual 74, 3) := by decide +kernel
theorem dX8_isAbove_22 : decode cX8_isAbove 22 = .ok (.if_icmp .gt 7, 3) := by decide +kernel
theorem dX8_isAbove_25 : decode cX8_isAbove 25 = .ok (.iconst 1, 1) := by decide +kernel
theorem dX8_isAbove_26 : decode cX8_isAbove 26 = .ok (.goto 4, 3) := by decide +kernel
theorem dX8_isAbove_29 : decode cX8_isAbove 29 = .ok (.iconst 0, 1) := by decide +kernel
theorem dX8_isAbove_30 : decode cX8_isAbove 30 = .ok (.ireturn, 1) := by decide +kernel
theorem dX8_isAstray_0 : decode cX8_isAstray 0 = .ok (.aload_n 0, 1) := by decide +kernel
theorem dX8_isAstray_1 : decode cX8_isAstray 1 = .ok (.iload_n 1, 1) := by decide +kernel
theorem dX8_isAstray_2 : decode cX8_isAstray 2 = .ok (.invokevirtual 147, 3) := by decide +kernel
theorem dX8_isAstray_5 : decode cX8_isAstray 5 = .ok (.ifCond .eq 11, 3) := by decide +kernel
theorem dX8_isAstray_8 : decode cX8_isAstray 8 = .ok (.aload_n 0, 1) := by decide +kernel
theorem dX8_isAstray_9 : decode cX8_isAstray 9 = .ok (.iload_n 2, 1) := by decide +kernel
theorem dX8_isAstray_10 : decode cX8_isAstray 10 = .ok (.invokevirtual 147, 3) := by decide +kernel
theorem dX8_isAstray_13 : decode cX8_isAstray 13 = .ok (.ifCond .ne 5, 3) := by decide +kernel
theorem dX8_isAstray_16 : decode cX8_isAstray 16 = .ok (.iconst 0, 1) := by decide +kernel
theorem dX8_isAstray_17 : decode cX8_isAstray 17 = .ok (.ireturn, 1) := by decide +kernel
theorem dX8_isAstray_18 : decode cX8_isAstray 18 = .ok (.aload_n 0, 1) := by decide +kernel
theorem dX8_isAstray_19 : decode cX8_isAstray 19 = .ok (.iload_n 2, 1) := by decide +kernel
theorem dX8_isAstray_20 : decode cX8_isAstray 20 = .ok (.iload_n 1, 1) := by decide +kernel
theorem dX8_isAstray_21 : decode cX8_isAstray 21 = .ok (.invokevirtual 150, 3) := by decide +kernel
theorem dX8_isAstray_24 : decode cX8_isAstray 24 = .ok (.ifCond .ne 37, 3) := by decide +kernel
theorem dX8_isAstray_27 : decode cX8_isAstray 27 = .ok (.aload_n 0, 1) := by decide +kernel
theorem dX8_isAstray_28 : decode cX8_isAstray 28 = .ok (.iload_n 1, 1) := by decide +kernel
theorem dX8_isAstray_29 : decode cX8_isAstray 29 = .ok (.iload_n 2, 1) := by decide +kernel
theorem dX8_isAstray_30 : decode cX8_isAstray 30 = .ok (.invokevirtual 150, 3) := by decide +kernel
theorem dX8_isAstray_33 : decode cX8_isAstray 33 = .ok (.ifCond .ne 32, 3) := by decide +kernel
theorem dX8_isAstray_36 : decode cX8_isAstray 36 = .ok (.aload_n 0, 1) := by decide +kernel
theorem dX8_isAstray_37 : decode cX8_isAstray 37 = .ok (.iload_n 2, 1) := by decide +kernel
theorem dX8_isAstray_38 : decode cX8_isAstray 38 = .ok (.bipush 12, 2) := by decide +kernel
theorem dX8_isAstray_40 : decode cX8_isAstray 40 = .ok (.invokevirtual 74, 3) := by decide +kernel
theorem dX8_isAstray_43 : decode cX8_isAstray 43 = .ok (.aload_n 0, 1) := by decide +kernel
theorem dX8_isAstray_44 : decode cX8_isAstray 44 = .ok (.iload_n 2, 1) := by decide +kernel
theorem dX8_isAstray_45 : decode cX8_isAstray 45 = .ok (.bipush 14, 2) := by decide +kernel
theorem dX8_isAstray_47 : decode cX8_isAstray 47 = .ok (.invokevirtual 74, 3) := by decide +kernel
theorem dX8_isAstray_50 : decode cX8_isAstray 50 = .ok (.iadd, 1) := by decide +kernel
theorem dX8_isAstray_51 : decode cX8_isAstray 51 = .ok (.aload_n 0, 1) := by decide +kernel
theorem dX8_isAstray_52 : decode cX8_isAstray 52 = .ok (.iload_n 1, 1) := by decide +kernel
theorem dX8_isAstray_53 : decode cX8_isAstray 53 = .ok (.bipush 12, 2) := by decide +kernel
theorem dX8_isAstray_55 : decode cX8_isAstray 55 = .ok (.invokevirtual 74, 3) := by decide +kernel
theorem dX8_isAstray_58 : decode cX8_isAstray 58 = .ok (.if_icmp .gt 7, 3) := by decide +kernel
theorem dX8_isAstray_61 : decode cX8_isAstray 61 = .ok (.iconst 1, 1) := by decide +kernel
theorem dX8_isAstray_62 : decode cX8_isAstray 62 = .ok (.goto 4, 3) := by decide +kernel
theorem dX8_isAstray_65 : decode cX8_isAstray 65 = .ok (.iconst 0, 1) := by decide +kernel
theorem dX8_isAstray_66 : decode cX8_isAstray 66 = .ok (.ireturn, 1) := by decide +kernel
theorem dX8_pairs_0 : decode cX8_pairs 0 = .ok (.aload_n 0, 1) := by decide +kernel
theorem dX8_pairs_1 : decode cX8_pairs 1 = .ok (.invokevirtual 144, 3) := by decide +kernel
theorem dX8_pairs_4 : decode cX8_pairs 4 = .ok (.iconst 0, 1) := by decide +kernel
theorem dX8_pairs_5 : decode cX8_pairs 5 = .ok (.istore_n 1, 1) := by decide +kernel
theorem dX8_pairs_6 : decode cX8_pairs 6 = .ok (.iconst 0, 1) := by decide +kernel
theorem dX8_pairs_7 : decode cX8_pairs 7 = .ok (.istore_n 2, 1) := by decide +kernel
theorem dX8_pairs_8 : decode cX8_pairs 8 = .ok (.iload_n 2, 1) := by decide +kernel
theorem dX8_pairs_9 : decode cX8_pairs 9 = .ok (.aload_n 0, 1) := by decide +kernel
theorem dX8_pairs_10 : decode cX8_pairs 10 = .ok (.getfield 141, 3) := by decide +kernel
theorem dX8_pairs_13 : decode cX8_pairs 13 = .ok (.if_icmp .ge 49, 3) := by decide +kernel
theorem dX8_pairs_16 : decode cX8_pairs 16 = .ok (.iconst 0, 1) := by decide +kernel
theorem dX8_pairs_17 : decode cX8_pairs 17 = .ok (.istore_n 3, 1) := by decide +kernel
theorem dX8_pairs_18 : decode cX8_pairs 18 = .ok (.iload_n 3, 1) := by decide +kernel
theorem dX8_pairs_19 : decode cX8_pairs 19 = .ok (.iload_n 2, 1) := by decide +kernel
theorem dX8_pairs_20 : decode cX8_pairs 20 = .ok (.if_icmp .ge 36, 3) := by decide +kernel
theorem dX8_pairs_23 : decode cX8_pairs 23 = .ok (.iload_n 1, 1) := by decide +kernel
theorem dX8_pairs_24 : decode cX8_pairs 24 = .ok (.aload_n 0, 1) := by decide +kernel
theorem dX8_pairs_25 : decode cX8_pairs 25 = .ok (.aload_n 0, 1) := by decide +kernel
theorem dX8_pairs_26 : decode cX8_pairs 26 = .ok (.getfield 28, 3) := by decide +kernel
theorem dX8_pairs_29 : decode cX8_pairs 29 = .ok (.iload_n 3, 1) := by decide +kernel
theorem dX8_pairs_30 : decode cX8_pairs 30 = .ok (.iaload, 1) := by decide +kernel
theorem dX8_pairs_31 : decode cX8_pairs 31 = .ok (.aload_n 0, 1) := by decide +kernel
theorem dX8_pairs_32 : decode cX8_pairs 32 = .ok (.getfield 28, 3) := by decide +kernel
theorem dX8_pairs_35 : decode cX8_pairs 35 = .ok (.iload_n 2, 1) := by decide +kernel
theorem dX8_pairs_36 : decode cX8_pairs 36 = .ok (.iaload, 1) := by decide +kernel
theorem dX8_pairs_37 : decode cX8_pairs 37 = .ok (.invokevirtual 153, 3) := by decide +kernel
theorem dX8_pairs_40 : decode cX8_pairs 40 = .ok (.ifCond .eq 7, 3) := by decide +kernel
theorem dX8_pairs_43 : decode cX8_pairs 43 = .ok (.iconst 1, 1) := by decide +kernel
theorem dX8_pairs_44 : decode cX8_pairs 44 = .ok (.goto 4, 3) := by decide +kernel
theorem dX8_pairs_47 : decode cX8_pairs 47 = .ok (.iconst 0, 1) := by decide +kernel
theorem dX8_pairs_48 : decode cX8_pairs 48 = .ok (.iadd, 1) := by decide +kernel
theorem dX8_pairs_49 : decode cX8_pairs 49 = .ok (.istore_n 1, 1) := by decide +kernel
theorem dX8_pairs_50 : decode cX8_pairs 50 = .ok (.iinc 3 1, 3) := by decide +kernel
theorem dX8_pairs_53 : decode cX8_pairs 53 = .ok (.goto (-35), 3) := by decide +kernel
theorem dX8_pairs_56 : decode cX8_pairs 56 = .ok (.iinc 2 1, 3) := by decide +kernel
theorem dX8_pairs_59 : decode cX8_pairs 59 = .ok (.goto (-51), 3) := by decide +kernel
theorem dX8_pairs_62 : decode cX8_pairs 62 = .ok (.iload_n 1, 1) := by decide +kernel
theorem dX8_pairs_63 : decode cX8_pairs 63 = .ok (.ireturn, 1) := by decide +kernel
theorem dX8_isStop_0 : decode cX8_isStop 0 = .ok (.aload_n 0, 1) := by decide +kernel
theorem dX8_isStop_1 : decode cX8_isStop 1 = .ok (.iload_n 1, 1) := by decide +kernel
theorem dX8_isStop_2 : decode cX8_isStop 2 = .ok (.bipush 10, 2) := by decide +kernel
theorem dX8_isStop_4 : decode cX8_isStop 4 = .ok (.invokevirtual 74, 3) := by decide +kernel
theorem dX8_isStop_7 : decode cX8_isStop 7 = .ok (.iconst 2, 1) := by decide +kernel
theorem dX8_isStop_8 : decode cX8_isStop 8 = .ok (.if_icmp .eq 14, 3) := by decide +kernel
theorem dX8_isStop_11 : decode cX8_isStop 11 = .ok (.aload_n 0, 1) := by decide +kernel
theorem dX8_isStop_12 : decode cX8_isStop 12 = .ok (.iload_n 1, 1) := by decide +kernel
theorem dX8_isStop_13 : decode cX8_isStop 13 = .ok (.bipush 10, 2) := by decide +kernel
theorem dX8_isStop_15 : decode cX8_isStop 15 = .ok (.invokevirtual 74, 3) := by decide +kernel
theorem dX8_isStop_18 : decode cX8_isStop 18 = .ok (.iconst 3, 1) := by decide +kernel
theorem dX8_isStop_19 : decode cX8_isStop 19 = .ok (.if_icmp .ne 15, 3) := by decide +kernel
theorem dX8_isStop_22 : decode cX8_isStop 22 = .ok (.aload_n 0, 1) := by decide +kernel
theorem dX8_isStop_23 : decode cX8_isStop 23 = .ok (.iload_n 1, 1) := by decide +kernel
theorem dX8_isStop_24 : decode cX8_isStop 24 = .ok (.invokevirtual 89, 3) := by decide +kernel
theorem dX8_isStop_27 : decode cX8_isStop 27 = .ok (.ifCond .eq 7, 3) := by decide +kernel
theorem dX8_isStop_30 : decode cX8_isStop 30 = .ok (.iconst 1, 1) := by decide +kernel
theorem dX8_isStop_31 : decode cX8_isStop 31 = .ok (.goto 4, 3) := by decide +kernel
theorem dX8_isStop_34 : decode cX8_isStop 34 = .ok (.iconst 0, 1) := by decide +kernel
theorem dX8_isStop_35 : decode cX8_isStop 35 = .ok (.ireturn, 1) := by decide +kernel
theorem dX8_findStops_0 : decode cX8_findStops 0 = .ok (.aload_n 0, 1) := by decide +kernel
theorem dX8_findStops_1 : decode cX8_findStops 1 = .ok (.invokevirtual 132, 3) := by decide +kernel
theorem dX8_findStops_4 : decode cX8_findStops 4 = .ok (.aload_n 0, 1) := by decide +kernel
theorem dX8_findStops_5 : decode cX8_findStops 5 = .ok (.iconst 0, 1) := by decide +kernel
theorem dX8_findStops_6 : decode cX8_findStops 6 = .ok (.putfield 156, 3) := by decide +kernel
theorem dX8_findStops_9 : decode cX8_findStops 9 = .ok (.iconst 0, 1) := by decide +kernel
theorem dX8_findStops_10 : decode cX8_findStops 10 = .ok (.istore_n 2, 1) := by decide +kernel
theorem dX8_findStops_11 : decode cX8_findStops 11 = .ok (.iload_n 2, 1) := by decide +kernel
theorem dX8_findStops_12 : decode cX8_findStops 12 = .ok (.aload_n 0, 1) := by decide +kernel
theorem dX8_findStops_13 : decode cX8_findStops 13 = .ok (.getfield 57, 3) := by decide +kernel
theorem dX8_findStops_16 : decode cX8_findStops 16 = .ok (.if_icmp .ge 156, 3) := by decide +kernel
theorem dX8_findStops_19 : decode cX8_findStops 19 = .ok (.aload_n 0, 1) := by decide +kernel
theorem dX8_findStops_20 : decode cX8_findStops 20 = .ok (.getfield 16, 3) := by decide +kernel
theorem dX8_findStops_23 : decode cX8_findStops 23 = .ok (.iload_n 2, 1) := by decide +kernel
theorem dX8_findStops_24 : decode cX8_findStops 24 = .ok (.iaload, 1) := by decide +kernel
theorem dX8_findStops_25 : decode cX8_findStops 25 = .ok (.istore_n 3, 1) := by decide +kernel
theorem dX8_findStops_26 : decode cX8_findStops 26 = .ok (.aload_n 0, 1) := by decide +kernel
theorem dX8_findStops_27 : decode cX8_findStops 27 = .ok (.iload_n 3, 1) := by decide +kernel
theorem dX8_findStops_28 : decode cX8_findStops 28 = .ok (.invokevirtual 159, 3) := by decide +kernel
theorem dX8_findStops_31 : decode cX8_findStops 31 = .ok (.ifCond .eq 135, 3) := by decide +kernel
theorem dX8_findStops_34 : decode cX8_findStops 34 = .ok (.iload_n 1, 1) := by decide +kernel
theorem dX8_findStops_35 : decode cX8_findStops 35 = .ok (.iconst (-1), 1) := by decide +kernel
theorem dX8_findStops_36 : decode cX8_findStops 36 = .ok (.if_icmp .eq 12, 3) := by decide +kernel
theorem dX8_findStops_39 : decode cX8_findStops 39 = .ok (.aload_n 0, 1) := by decide +kernel
theorem dX8_findStops_40 : decode cX8_findStops 40 = .ok (.iload_n 3, 1) := by decide +kernel
theorem dX8_findStops_41 : decode cX8_findStops 41 = .ok (.iload_n 1, 1) := by decide +kernel
theorem dX8_findStops_42 : decode cX8_findStops 42 = .ok (.invokevirtual 135, 3) := by decide +kernel
theorem dX8_findStops_45 : decode cX8_findStops 45 = .ok (.ifCond .eq 121, 3) := by decide +kernel
theorem dX8_findStops_48 : decode cX8_findStops 48 = .ok (.aload_n 0, 1) := by decide +kernel
theorem dX8_findStops_49 : decode cX8_findStops 49 = .ok (.getfield 156, 3) := by decide +kernel
theorem dX8_findStops_52 : decode cX8_findStops 52 = .ok (.istore 4, 2) := by decide +kernel
theorem dX8_findStops_54 : decode cX8_findStops 54 = .ok (.aload_n 0, 1) := by decide +kernel
theorem dX8_findStops_55 : decode cX8_findStops 55 = .ok (.iload_n 3, 1) := by decide +kernel
theorem dX8_findStops_56 : decode cX8_findStops 56 = .ok (.bipush 6, 2) := by decide +kernel
theorem dX8_findStops_58 : decode cX8_findStops 58 = .ok (.invokevirtual 74, 3) := by decide +kernel
theorem dX8_findStops_61 : decode cX8_findStops 61 = .ok (.ifCond .ne 8, 3) := by decide +kernel
theorem dX8_findStops_64 : decode cX8_findStops 64 = .ok (.bipush 101, 2) := by decide +kernel
theorem dX8_findStops_66 : decode cX8_findStops 66 = .ok (.goto 10, 3) := by decide +kernel
theorem dX8_findStops_69 : decode cX8_findStops 69 = .ok (.aload_n 0, 1) := by decide +kernel
theorem dX8_findStops_70 : decode cX8_findStops 70 = .ok (.iload_n 3, 1) := by decide +kernel
theorem dX8_findStops_71 : decode cX8_findStops 71 = .ok (.bipush 6, 2) := by decide +kernel
theorem dX8_findStops_73 : decode cX8_findStops 73 = .ok (.invokevirtual 74, 3) := by decide +kernel
theorem dX8_findStops_76 : decode cX8_findStops 76 = .ok (.istore 5, 2) := by decide +kernel
theorem dX8_findStops_78 : decode cX8_findStops 78 = .ok (.iload 4, 2) := by decide +kernel
theorem dX8_findStops_80 : decode cX8_findStops 80 = .ok (.ifCond .le 68, 3) := by decide +kernel
theorem dX8_findStops_83 : decode cX8_findStops 83 = .ok (.aload_n 0, 1) := by decide +kernel
theorem dX8_findStops_84 : decode cX8_findStops 84 = .ok (.aload_n 0, 1) := by decide +kernel
theorem dX8_findStops_85 : decode cX8_findStops 85 = .ok (.getfield 31, 3) := by decide +kernel
theorem dX8_findStops_88 : decode cX8_findStops 88 = .ok (.iload 4, 2) := by decide +kernel
theorem dX8_findStops_90 : decode cX8_findStops 90 = .ok (.iconst 1, 1) := by decide +kernel
theorem dX8_findStops_91 : decode cX8_findStops 91 = .ok (.isub, 1) := by decide +kernel
theorem dX8_findStops_92 : decode cX8_findStops 92 = .ok (.iaload, 1) := by decide +kernel
theorem dX8_findStops_93 : decode cX8_findStops 93 = .ok (.bipush 6, 2) := by decide +kernel
theorem dX8_findStops_95 : decode cX8_findStops 95 = .ok (.invokevirtual 74, 3) := by decide +kernel
theorem dX8_findStops_98 : decode cX8_findStops 98 = .ok (.ifCond .ne 8, 3) := by decide +kernel
theorem dX8_findStops_101 : decode cX8_findStops 101 = .ok (.bipush 101, 2) := by decide +kernel
theorem dX8_findStops_103 : decode cX8_findStops 103 = .ok (.goto 18, 3) := by decide +kernel
theorem dX8_findStops_106 : decode cX8_findStops 106 = .ok (.aload_n 0, 1) := by decide +kernel
theorem dX8_findStops_107 : decode cX8_findStops 107 = .ok (.aload_n 0, 1) := by decide +kernel
theorem dX8_findStops_108 : decode cX8_findStops 108 = .ok (.getfield 31, 3) := by decide +kernel
theorem dX8_findStops_111 : decode cX8_findStops 111 = .ok (.iload 4, 2) := by decide +kernel
theorem dX8_findStops_113 : decode cX8_findStops 113 = .ok (.iconst 1, 1) := by decide +kernel
theorem dX8_findStops_114 : decode cX8_findStops 114 = .ok (.isub, 1) := by decide +kernel
theorem dX8_findStops_115 : decode cX8_findStops 115 = .ok (.iaload, 1) := by decide +kernel
theorem dX8_findStops_116 : decode cX8_findStops 116 = .ok (.bipush 6, 2) := by decide +kernel
theorem dX8_findStops_118 : decode cX8_findStops 118 = .ok (.invokevirtual 74, 3) := by decide +kernel
theorem dX8_findStops_121 : decode cX8_findStops 121 = .ok (.iload 5, 2) := by decide +kernel
theorem dX8_findStops_123 : decode cX8_findStops 123 = .ok (.if_icmp .le 25, 3) := by decide +kernel
theorem dX8_findStops_126 : decode cX8_findStops 126 = .ok (.aload_n 0, 1) := by decide +kernel
theorem dX8_findStops_127 : decode cX8_findStops 127 = .ok (.getfield 31, 3) := by decide +kernel
theorem dX8_findStops_130 : decode cX8_findStops 130 = .ok (.iload 4, 2) := by decide +kernel
theorem dX8_findStops_132 : decode cX8_findStops 132 = .ok (.aload_n 0, 1) := by decide +kernel
theorem dX8_findStops_133 : decode cX8_findStops 133 = .ok (.getfield 31, 3) := by decide +kernel
theorem dX8_findStops_136 : decode cX8_findStops 136 = .ok (.iload 4, 2) := by decide +kernel
theorem dX8_findStops_138 : decode cX8_findStops 138 = .ok (.iconst 1, 1) := by decide +kernel
theorem dX8_findStops_139 : decode cX8_findStops 139 = .ok (.isub, 1) := by decide +kernel
theorem dX8_findStops_140 : decode cX8_findStops 140 = .ok (.iaload, 1) := by decide +kernel
theorem dX8_findStops_141 : decode cX8_findStops 141 = .ok (.iastore, 1) := by decide +kernel
theorem dX8_findStops_142 : decode cX8_findStops 142 = .ok (.iinc 4 (-1), 3) := by decide +kernel
theorem dX8_findStops_145 : decode cX8_findStops 145 = .ok (.goto (-67), 3) := by decide +kernel
theorem dX8_findStops_148 : decode cX8_findStops 148 = .ok (.aload_n 0, 1) := by decide +kernel
theorem dX8_findStops_149 : decode cX8_findStops 149 = .ok (.getfield 31, 3) := by decide +kernel
theorem dX8_findStops_152 : decode cX8_findStops 152 = .ok (.iload 4, 2) := by decide +kernel
theorem dX8_findStops_154 : decode cX8_findStops 154 = .ok (.iload_n 3, 1) := by decide +kernel
theorem dX8_findStops_155 : decode cX8_findStops 155 = .ok (.iastore, 1) := by decide +kernel
theorem dX8_findStops_156 : decode cX8_findStops 156 = .ok (.aload_n 0, 1) := by decide +kernel
theorem dX8_findStops_157 : decode cX8_findStops 157 = .ok (.dup, 1) := by decide +kernel
theorem dX8_findStops_158 : decode cX8_findStops 158 = .ok (.getfield 156, 3) := by decide +kernel
theorem dX8_findStops_161 : decode cX8_findStops 161 = .ok (.iconst 1, 1) := by decide +kernel
theorem dX8_findStops_162 : decode cX8_findStops 162 = .ok (.iadd, 1) := by decide +kernel
theorem dX8_findStops_163 : decode cX8_findStops 163 = .ok (.putfield 156, 3) := by decide +kernel
theorem dX8_findStops_166 : decode cX8_findStops 166 = .ok (.iinc 2 1, 3) := by decide +kernel
theorem dX8_findStops_169 : decode cX8_findStops 169 = .ok (.goto (-158), 3) := by decide +kernel
theorem dX8_findStops_172 : decode cX8_findStops 172 = .ok (.return_, 1) := by decide +kernel
theorem dX8_stop_0 : decode cX8_stop 0 = .ok (.aload_n 0, 1) := by decide +kernel
theorem dX8_stop_1 : decode cX8_stop 1 = .ok (.iconst (-1), 1) := by decide +kernel
theorem dX8_stop_2 : decode cX8_stop 2 = .ok (.invokevirtual 162, 3) := by decide +kernel
theorem dX8_stop_5 : decode cX8_stop 5 = .ok (.iload_n 1, 1) := by decide +kernel
theorem dX8_stop_6 : decode cX8_stop 6 = .ok (.i2l, 1) := by decide +kernel
theorem dX8_stop_7 : decode cX8_stop 7 = .ok (.lconst 0, 1) := by decide +kernel
theorem dX8_stop_8 : decode cX8_stop 8 = .ok (.aload_n 0, 1) := by decide +kernel
theorem dX8_stop_9 : decode cX8_stop 9 = .ok (.getfield 156, 3) := by decide +kernel
theorem dX8_stop_12 : decode cX8_stop 12 = .ok (.iconst 1, 1) := by decide +kernel
theorem dX8_stop_13 : decode cX8_stop 13 = .ok (.isub, 1) := by decide +kernel
theorem dX8_stop_14 : decode cX8_stop 14 = .ok (.i2l, 1) := by decide +kernel
theorem dX8_stop_15 : decode cX8_stop 15 = .ok (.invokestatic 64, 3) := by decide +kernel
theorem dX8_stop_18 : decode cX8_stop 18 = .ok (.ifCond .eq 12, 3) := by decide +kernel
theorem dX8_stop_21 : decode cX8_stop 21 = .ok (.aload_n 0, 1) := by decide +kernel
theorem dX8_stop_22 : decode cX8_stop 22 = .ok (.getfield 31, 3) := by decide +kernel
theorem dX8_stop_25 : decode cX8_stop 25 = .ok (.iload_n 1, 1) := by decide +kernel
theorem dX8_stop_26 : decode cX8_stop 26 = .ok (.iaload, 1) := by decide +kernel
theorem dX8_stop_27 : decode cX8_stop 27 = .ok (.goto 4, 3) := by decide +kernel
theorem dX8_stop_30 : decode cX8_stop 30 = .ok (.iconst (-1), 1) := by decide +kernel
theorem dX8_stop_31 : decode cX8_stop 31 = .ok (.ireturn, 1) := by decide +kernel
theorem dX8_trapOf_0 : decode cX8_trapOf 0 = .ok (.iload_n 1, 1) := by decide +kernel
theorem dX8_trapOf_1 : decode cX8_trapOf 1 = .ok (.iconst (-1), 1) := by decide +kernel
theorem dX8_trapOf_2 : decode cX8_trapOf 2 = .ok (.if_icmp .ne 7, 3) := by decide +kernel
theorem dX8_trapOf_5 : decode cX8_trapOf 5 = .ok (.iconst (-1), 1) := by decide +kernel
theorem dX8_trapOf_6 : decode cX8_trapOf 6 = .ok (.goto 9, 3) := by decide +kernel
theorem dX8_trapOf_9 : decode cX8_trapOf 9 = .ok (.aload_n 0, 1) := by decide +kernel
theorem dX8_trapOf_10 : decode cX8_trapOf 10 = .ok (.iload_n 1, 1) := by decide +kernel
theorem dX8_trapOf_11 : decode cX8_trapOf 11 = .ok (.iconst 5, 1) := by decide +kernel
theorem dX8_trapOf_12 : decode cX8_trapOf 12 = .ok (.invokevirtual 86, 3) := by decide +kernel
theorem dX8_trapOf_15 : decode cX8_trapOf 15 = .ok (.ireturn, 1) := by decide +kernel
theorem dX8_pressed_0 : decode cX8_pressed 0 = .ok (.iload_n 1, 1) := by decide +kernel
theorem dX8_pressed_1 : decode cX8_pressed 1 = .ok (.iconst 2, 1) := by decide +kernel
theorem dX8_pressed_2 : decode cX8_pressed 2 = .ok (.if_icmp .ne 78, 3) := by decide +kernel
theorem dX8_pressed_5 : decode cX8_pressed 5 = .ok (.aload_n 0, 1) := by decide +kernel
theorem dX8_pressed_6 : decode cX8_pressed 6 = .ok (.getfield 49, 3) := by decide +kernel
theorem dX8_pressed_9 : decode cX8_pressed 9 = .ok (.iconst (-1), 1) := by decide +kernel
theorem dX8_pressed_10 : decode cX8_pressed 10 = .ok (.if_icmp .eq 69, 3) := by decide +kernel
theorem dX8_pressed_13 : decode cX8_pressed 13 = .ok (.aload_n 0, 1) := by decide +kernel
theorem dX8_pressed_14 : decode cX8_pressed 14 = .ok (.aload_n 0, 1) := by decide +kernel
theorem dX8_pressed_15 : decode cX8_pressed 15 = .ok (.getfield 49, 3) := by decide +kernel
theorem dX8_pressed_18 : decode cX8_pressed 18 = .ok (.bipush 10, 2) := by decide +kernel
theorem dX8_pressed_20 : decode cX8_pressed 20 = .ok (.invokevirtual 74, 3) := by decide +kernel
theorem dX8_pressed_23 : decode cX8_pressed 23 = .ok (.iconst 2, 1) := by decide +kernel
theorem dX8_pressed_24 : decode cX8_pressed 24 = .ok (.if_icmp .ne 55, 3) := by decide +kernel
theorem dX8_pressed_27 : decode cX8_pressed 27 = .ok (.aload_n 0, 1) := by decide +kernel
theorem dX8_pressed_28 : decode cX8_pressed 28 = .ok (.aload_n 0, 1) := by decide +kernel
theorem dX8_pressed_29 : decode cX8_pressed 29 = .ok (.getfield 49, 3) := by decide +kernel
theorem dX8_pressed_32 : decode cX8_pressed 32 = .ok (.bipush 7, 2) := by decide +kernel
theorem dX8_pressed_34 : decode cX8_pressed 34 = .ok (.invokevirtual 74, 3) := by decide +kernel
theorem dX8_pressed_37 : decode cX8_pressed 37 = .ok (.iconst (-1), 1) := by decide +kernel
theorem dX8_pressed_38 : decode cX8_pressed 38 = .ok (.if_icmp .eq 41, 3) := by decide +kernel
theorem dX8_pressed_41 : decode cX8_pressed 41 = .ok (.aload_n 0, 1) := by decide +kernel
theorem dX8_pressed_42 : decode cX8_pressed 42 = .ok (.aload_n 0, 1) := by decide +kernel
theorem dX8_pressed_43 : decode cX8_pressed 43 = .ok (.getfield 49, 3) := by decide +kernel
theorem dX8_pressed_46 : decode cX8_pressed 46 = .ok (.bipush 7, 2) := by decide +kernel
theorem dX8_pressed_48 : decode cX8_pressed 48 = .ok (.invokevirtual 74, 3) := by decide +kernel
theorem dX8_pressed_51 : decode cX8_pressed 51 = .ok (.istore_n 3, 1) := by decide +kernel
theorem dX8_pressed_52 : decode cX8_pressed 52 = .ok (.aload_n 0, 1) := by decide +kernel
theorem dX8_pressed_53 : decode cX8_pressed 53 = .ok (.iload_n 3, 1) := by decide +kernel
theorem dX8_pressed_54 : decode cX8_pressed 54 = .ok (.iconst 5, 1) := by decide +kernel
theorem dX8_pressed_55 : decode cX8_pressed 55 = .ok (.iconst 1, 1) := by decide +kernel
theorem dX8_pressed_56 : decode cX8_pressed 56 = .ok (.aload_n 0, 1) := by decide +kernel
theorem dX8_pressed_57 : decode cX8_pressed 57 = .ok (.iload_n 3, 1) := by decide +kernel
theorem dX8_pressed_58 : decode cX8_pressed 58 = .ok (.iconst 5, 1) := by decide +kernel
theorem dX8_pressed_59 : decode cX8_pressed 59 = .ok (.invokevirtual 74, 3) := by decide +kernel
theorem dX8_pressed_62 : decode cX8_pressed 62 = .ok (.isub, 1) := by decide +kernel
theorem dX8_pressed_63 : decode cX8_pressed 63 = .ok (.invokevirtual 60, 3) := by decide +kernel
theorem dX8_pressed_66 : decode cX8_pressed 66 = .ok (.iload_n 2, 1) := by decide +kernel
theorem dX8_pressed_67 : decode cX8_pressed 67 = .ok (.ifCond .eq 8, 3) := by decide +kernel
theorem dX8_pressed_70 : decode cX8_pressed 70 = .ok (.aload_n 0, 1) := by decide +kernel
theorem dX8_pressed_71 : decode cX8_pressed 71 = .ok (.iload_n 3, 1) := by decide +kernel
theorem dX8_pressed_72 : decode cX8_pressed 72 = .ok (.invokevirtual 100, 3) := by decide +kernel
theorem dX8_pressed_75 : decode cX8_pressed 75 = .ok (.aload_n 0, 1) := by decide +kernel
theorem dX8_pressed_76 : decode cX8_pressed 76 = .ok (.invokevirtual 104, 3) := by decide +kernel
theorem dX8_pressed_79 : decode cX8_pressed 79 = .ok (.return_, 1) := by decide +kernel
theorem dX8_pressed_80 : decode cX8_pressed 80 = .ok (.aload_n 0, 1) := by decide +kernel
theorem dX8_pressed_81 : decode cX8_pressed 81 = .ok (.aload_n 0, 1) := by decide +kernel
theorem dX8_pressed_82 : decode cX8_pressed 82 = .ok (.aload_n 0, 1) := by decide +kernel
theorem dX8_pressed_83 : decode cX8_pressed 83 = .ok (.getfield 49, 3) := by decide +kernel
theorem dX8_pressed_86 : decode cX8_pressed 86 = .ok (.invokevirtual 165, 3) := by decide +kernel
theorem dX8_pressed_89 : decode cX8_pressed 89 = .ok (.invokevirtual 162, 3) := by decide +kernel
theorem dX8_pressed_92 : decode cX8_pressed 92 = .ok (.aload_n 0, 1) := by decide +kernel
theorem dX8_pressed_93 : decode cX8_pressed 93 = .ok (.getfield 156, 3) := by decide +kernel
theorem dX8_pressed_96 : decode cX8_pressed 96 = .ok (.ifCond .ne 4, 3) := by decide +kernel
theorem dX8_pressed_99 : decode cX8_pressed 99 = .ok (.return_, 1) := by decide +kernel
theorem dX8_pressed_100 : decode cX8_pressed 100 = .ok (.iconst 0, 1) := by decide +kernel
theorem dX8_pressed_101 : decode cX8_pressed 101 = .ok (.istore_n 3, 1) := by decide +kernel
theorem dX8_pressed_102 : decode cX8_pressed 102 = .ok (.iload_n 3, 1) := by decide +kernel
theorem dX8_pressed_103 : decode cX8_pressed 103 = .ok (.aload_n 0, 1) := by decide +kernel
theorem dX8_pressed_104 : decode cX8_pressed 104 = .ok (.getfield 156, 3) := by decide +kernel
theorem dX8_pressed_107 : decode cX8_pressed 107 = .ok (.if_icmp .ge 22, 3) := by decide +kernel
theorem dX8_pressed_110 : decode cX8_pressed 110 = .ok (.aload_n 0, 1) := by decide +kernel
theorem dX8_pressed_111 : decode cX8_pressed 111 = .ok (.getfield 31, 3) := by decide +kernel
theorem dX8_pressed_114 : decode cX8_pressed 114 = .ok (.iload_n 3, 1) := by decide +kernel
theorem dX8_pressed_115 : decode cX8_pressed 115 = .ok (.iaload, 1) := by decide +kernel
theorem dX8_pressed_116 : decode cX8_pressed 116 = .ok (.aload_n 0, 1) := by decide +kernel
theorem dX8_pressed_117 : decode cX8_pressed 117 = .ok (.getfield 49, 3) := by decide +kernel
theorem dX8_pressed_120 : decode cX8_pressed 120 = .ok (.if_icmp .eq 9, 3) := by decide +kernel
theorem dX8_pressed_123 : decode cX8_pressed 123 = .ok (.iinc 3 1, 3) := by decide +kernel
theorem dX8_pressed_126 : decode cX8_pressed 126 = .ok (.goto (-24), 3) := by decide +kernel
theorem dX8_pressed_129 : decode cX8_pressed 129 = .ok (.iload_n 3, 1) := by decide +kernel
theorem dX8_pressed_130 : decode cX8_pressed 130 = .ok (.aload_n 0, 1) := by decide +kernel
theorem dX8_pressed_131 : decode cX8_pressed 131 = .ok (.getfield 156, 3) := by decide +kernel
theorem dX8_pressed_134 : decode cX8_pressed 134 = .ok (.if_icmp .ne 34, 3) := by decide +kernel
theorem dX8_pressed_137 : decode cX8_pressed 137 = .ok (.aload_n 0, 1) := by decide +kernel
theorem dX8_pressed_138 : decode cX8_pressed 138 = .ok (.iload_n 1, 1) := by decide +kernel
theorem dX8_pressed_139 : decode cX8_pressed 139 = .ok (.ifCond .ne 12, 3) := by decide +kernel
theorem dX8_pressed_142 : decode cX8_pressed 142 = .ok (.aload_n 0, 1) := by decide +kernel
theorem dX8_pressed_143 : decode cX8_pressed 143 = .ok (.getfield 31, 3) := by decide +kernel
theorem dX8_pressed_146 : decode cX8_pressed 146 = .ok (.iconst 0, 1) := by decide +kernel
theorem dX8_pressed_147 : decode cX8_pressed 147 = .ok (.iaload, 1) := by decide +kernel
theorem dX8_pressed_148 : decode cX8_pressed 148 = .ok (.goto 14, 3) := by decide +kernel
theorem dX8_pressed_151 : decode cX8_pressed 151 = .ok (.aload_n 0, 1) := by decide +kernel
theorem dX8_pressed_152 : decode cX8_pressed 152 = .ok (.getfield 31, 3) := by decide +kernel
theorem dX8_pressed_155 : decode cX8_pressed 155 = .ok (.aload_n 0, 1) := by decide +kernel
theorem dX8_pressed_156 : decode cX8_pressed 156 = .ok (.getfield 156, 3) := by decide +kernel
theorem dX8_pressed_159 : decode cX8_pressed 159 = .ok (.iconst 1, 1) := by decide +kernel
theorem dX8_pressed_160 : decode cX8_pressed 160 = .ok (.isub, 1) := by decide +kernel
theorem dX8_pressed_161 : decode cX8_pressed 161 = .ok (.iaload, 1) := by decide +kernel
theorem dX8_pressed_162 : decode cX8_pressed 162 = .ok (.putfield 49, 3) := by decide +kernel
theorem dX8_pressed_165 : decode cX8_pressed 165 = .ok (.goto 45, 3) := by decide +kernel
theorem dX8_pressed_168 : decode cX8_pressed 168 = .ok (.aload_n 0, 1) := by decide +kernel
theorem dX8_pressed_169 : decode cX8_pressed 169 = .ok (.iload_n 1, 1) := by decide +kernel
theorem dX8_pressed_170 : decode cX8_pressed 170 = .ok (.ifCond .ne 19, 3) := by decide +kernel
theorem dX8_pressed_173 : decode cX8_pressed 173 = .ok (.aload_n 0, 1) := by decide +kernel
theorem dX8_pressed_174 : decode cX8_pressed 174 = .ok (.getfield 31, 3) := by decide +kernel
theorem dX8_pressed_177 : decode cX8_pressed 177 = .ok (.iload_n 3, 1) := by decide +kernel
theorem dX8_pressed_178 : decode cX8_pressed 178 = .ok (.iconst 1, 1) := by decide +kernel
theorem dX8_pressed_179 : decode cX8_pressed 179 = .ok (.iadd, 1) := by decide +kernel
theorem dX8_pressed_180 : decode cX8_pressed 180 = .ok (.aload_n 0, 1) := by decide +kernel
theorem dX8_pressed_181 : decode cX8_pressed 181 = .ok (.getfield 156, 3) := by decide +kernel
theorem dX8_pressed_184 : decode cX8_pressed 184 = .ok (.irem, 1) := by decide +kernel
theorem dX8_pressed_185 : decode cX8_pressed 185 = .ok (.iaload, 1) := by decide +kernel
theorem dX8_pressed_186 : decode cX8_pressed 186 = .ok (.goto 21, 3) := by decide +kernel
theorem dX8_pressed_189 : decode cX8_pressed 189 = .ok (.aload_n 0, 1) := by decide +kernel
theorem dX8_pressed_190 : decode cX8_pressed 190 = .ok (.getfield 31, 3) := by decide +kernel
theorem dX8_pressed_193 : decode cX8_pressed 193 = .ok (.iload_n 3, 1) := by decide +kernel
theorem dX8_pressed_194 : decode cX8_pressed 194 = .ok (.aload_n 0, 1) := by decide +kernel
theorem dX8_pressed_195 : decode cX8_pressed 195 = .ok (.getfield 156, 3) := by decide +kernel
theorem dX8_pressed_198 : decode cX8_pressed 198 = .ok (.iadd, 1) := by decide +kernel
theorem dX8_pressed_199 : decode cX8_pressed 199 = .ok (.iconst 1, 1) := by decide +kernel
theorem dX8_pressed_200 : decode cX8_pressed 200 = .ok (.isub, 1) := by decide +kernel
theorem dX8_pressed_201 : decode cX8_pressed 201 = .ok (.aload_n 0, 1) := by decide +kernel
theorem dX8_pressed_202 : decode cX8_pressed 202 = .ok (.getfield 156, 3) := by decide +kernel
theorem dX8_pressed_205 : decode cX8_pressed 205 = .ok (.irem, 1) := by decide +kernel
theorem dX8_pressed_206 : decode cX8_pressed 206 = .ok (.iaload, 1) := by decide +kernel
theorem dX8_pressed_207 : decode cX8_pressed 207 = .ok (.putfield 49, 3) := by decide +kernel
theorem dX8_pressed_210 : decode cX8_pressed 210 = .ok (.return_, 1) := by decide +kernel
theorem dX8_press_0 : decode cX8_press 0 = .ok (.iload_n 1, 1) := by decide +kernel
theorem dX8_press_1 : decode cX8_press 1 = .ok (.i2l, 1) := by decide +kernel
theorem dX8_press_2 : decode cX8_press 2 = .ok (.lconst 0, 1) := by decide +kernel
theorem dX8_press_3 : decode cX8_press 3 = .ok (.ldc2_w 169, 3) := by decide +kernel
theorem dX8_press_6 : decode cX8_press 6 = .ok (.invokestatic 64, 3) := by decide +kernel
theorem dX8_press_9 : decode cX8_press 9 = .ok (.ifCond .ne 6, 3) := by decide +kernel
theorem dX8_press_12 : decode cX8_press 12 = .ok (.bipush (-102), 2) := by decide +kernel
theorem dX8_press_14 : decode cX8_press 14 = .ok (.ireturn, 1) := by decide +kernel
theorem dX8_press_15 : decode cX8_press 15 = .ok (.aload_n 0, 1) := by decide +kernel
theorem dX8_press_16 : decode cX8_press 16 = .ok (.iload_n 1, 1) := by decide +kernel
theorem dX8_press_17 : decode cX8_press 17 = .ok (.iconst 1, 1) := by decide +kernel
theorem dX8_press_18 : decode cX8_press 18 = .ok (.invokevirtual 171, 3) := by decide +kernel
theorem dX8_press_21 : decode cX8_press 21 = .ok (.aload_n 0, 1) := by decide +kernel
theorem dX8_press_22 : decode cX8_press 22 = .ok (.getfield 49, 3) := by decide +kernel
theorem dX8_press_25 : decode cX8_press 25 = .ok (.ireturn, 1) := by decide +kernel
theorem dX8_focus_0 : decode cX8_focus 0 = .ok (.aload_n 0, 1) := by decide +kernel
theorem dX8_focus_1 : decode cX8_focus 1 = .ok (.getfield 49, 3) := by decide +kernel
theorem dX8_focus_4 : decode cX8_focus 4 = .ok (.ireturn, 1) := by decide +kernel
theorem dX8_caught_0 : decode cX8_caught 0 = .ok (.aload_n 0, 1) := by decide +kernel
theorem dX8_caught_1 : decode cX8_caught 1 = .ok (.aload_n 0, 1) := by decide +kernel
theorem dX8_caught_2 : decode cX8_caught 2 = .ok (.getfield 49, 3) := by decide +kernel
theorem dX8_caught_5 : decode cX8_caught 5 = .ok (.invokevirtual 165, 3) := by decide +kernel
theorem dX8_caught_8 : decode cX8_caught 8 = .ok (.ireturn, 1) := by decide +kernel
theorem dX8_leave_0 : decode cX8_leave 0 = .ok (.aload_n 0, 1) := by decide +kernel
theorem dX8_leave_1 : decode cX8_leave 1 = .ok (.getfield 49, 3) := by decide +kernel
theorem dX8_leave_4 : decode cX8_leave 4 = .ok (.istore_n 1, 1) := by decide +kernel
theorem dX8_leave_5 : decode cX8_leave 5 = .ok (.aload_n 0, 1) := by decide +kernel
theorem dX8_leave_6 : decode cX8_leave 6 = .ok (.iconst (-1), 1) := by decide +kernel
theorem dX8_leave_7 : decode cX8_leave 7 = .ok (.putfield 49, 3) := by decide +kernel
theorem dX8_leave_10 : decode cX8_leave 10 = .ok (.iload_n 1, 1) := by decide +kernel
theorem dX8_leave_11 : decode cX8_leave 11 = .ok (.ireturn, 1) := by decide +kernel
theorem dX8_findDoors_0 : decode cX8_findDoors 0 = .ok (.aload_n 0, 1) := by decide +kernel
theorem dX8_findDoors_1 : decode cX8_findDoors 1 = .ok (.iconst 0, 1) := by decide +kernel
theorem dX8_findDoors_2 : decode cX8_findDoors 2 = .ok (.putfield 175, 3) := by decide +kernel
theorem dX8_findDoors_5 : decode cX8_findDoors 5 = .ok (.iconst 1, 1) := by decide +kernel
theorem dX8_findDoors_6 : decode cX8_findDoors 6 = .ok (.istore_n 1, 1) := by decide +kernel
theorem dX8_findDoors_7 : decode cX8_findDoors 7 = .ok (.iload_n 1, 1) := by decide +kernel
theorem dX8_findDoors_8 : decode cX8_findDoors 8 = .ok (.aload_n 0, 1) := by decide +kernel
theorem dX8_findDoors_9 : decode cX8_findDoors 9 = .ok (.getfield 57, 3) := by decide +kernel
theorem dX8_findDoors_12 : decode cX8_findDoors 12 = .ok (.if_icmp .ge 38, 3) := by decide +kernel
theorem dX8_findDoors_15 : decode cX8_findDoors 15 = .ok (.aload_n 0, 1) := by decide +kernel
theorem dX8_findDoors_16 : decode cX8_findDoors 16 = .ok (.iload_n 1, 1) := by decide +kernel
theorem dX8_findDoors_17 : decode cX8_findDoors 17 = .ok (.iconst (-1), 1) := by decide +kernel
theorem dX8_findDoors_18 : decode cX8_findDoors 18 = .ok (.invokevirtual 78, 3) := by decide +kernel
theorem dX8_findDoors_21 : decode cX8_findDoors 21 = .ok (.ifCond .eq 23, 3) := by decide +kernel
theorem dX8_findDoors_24 : decode cX8_findDoors 24 = .ok (.aload_n 0, 1) := by decide +kernel
theorem dX8_findDoors_25 : decode cX8_findDoors 25 = .ok (.getfield 34, 3) := by decide +kernel
theorem dX8_findDoors_28 : decode cX8_findDoors 28 = .ok (.aload_n 0, 1) := by decide +kernel
theorem dX8_findDoors_29 : decode cX8_findDoors 29 = .ok (.getfield 175, 3) := by decide +kernel
theorem dX8_findDoors_32 : decode cX8_findDoors 32 = .ok (.iload_n 1, 1) := by decide +kernel
theorem dX8_findDoors_33 : decode cX8_findDoors 33 = .ok (.iastore, 1) := by decide +kernel
theorem dX8_findDoors_34 : decode cX8_findDoors 34 = .ok (.aload_n 0, 1) := by decide +kernel
theorem dX8_findDoors_35 : decode cX8_findDoors 35 = .ok (.dup, 1) := by decide +kernel
theorem dX8_findDoors_36 : decode cX8_findDoors 36 = .ok (.getfield 175, 3) := by decide +kernel
theorem dX8_findDoors_39 : decode cX8_findDoors 39 = .ok (.iconst 1, 1) := by decide +kernel
theorem dX8_findDoors_40 : decode cX8_findDoors 40 = .ok (.iadd, 1) := by decide +kernel
theorem dX8_findDoors_41 : decode cX8_findDoors 41 = .ok (.putfield 175, 3) := by decide +kernel
theorem dX8_findDoors_44 : decode cX8_findDoors 44 = .ok (.iinc 1 1, 3) := by decide +kernel
theorem dX8_findDoors_47 : decode cX8_findDoors 47 = .ok (.goto (-40), 3) := by decide +kernel
theorem dX8_findDoors_50 : decode cX8_findDoors 50 = .ok (.return_, 1) := by decide +kernel
theorem dX8_state_0 : decode cX8_state 0 = .ok (.iconst 0, 1) := by decide +kernel
theorem dX8_state_1 : decode cX8_state 1 = .ok (.istore_n 1, 1) := by decide +kernel
theorem dX8_state_2 : decode cX8_state 2 = .ok (.iconst 0, 1) := by decide +kernel
theorem dX8_state_3 : decode cX8_state 3 = .ok (.istore_n 2, 1) := by decide +kernel
theorem dX8_state_4 : decode cX8_state 4 = .ok (.iload_n 2, 1) := by decide +kernel
theorem dX8_state_5 : decode cX8_state 5 = .ok (.aload_n 0, 1) := by decide +kernel
theorem dX8_state_6 : decode cX8_state 6 = .ok (.getfield 175, 3) := by decide +kernel
theorem dX8_state_9 : decode cX8_state 9 = .ok (.if_icmp .ge 25, 3) := by decide +kernel
theorem dX8_state_12 : decode cX8_state 12 = .ok (.iload_n 1, 1) := by decide +kernel
theorem dX8_state_13 : decode cX8_state 13 = .ok (.aload_n 0, 1) := by decide +kernel
theorem dX8_state_14 : decode cX8_state 14 = .ok (.aload_n 0, 1) := by decide +kernel
theorem dX8_state_15 : decode cX8_state 15 = .ok (.getfield 34, 3) := by decide +kernel
theorem dX8_state_18 : decode cX8_state 18 = .ok (.iload_n 2, 1) := by decide +kernel
theorem dX8_state_19 : decode cX8_state 19 = .ok (.iaload, 1) := by decide +kernel
theorem dX8_state_20 : decode cX8_state 20 = .ok (.iconst 5, 1) := by decide +kernel
theorem dX8_state_21 : decode cX8_state 21 = .ok (.invokevirtual 74, 3) := by decide +kernel
theorem dX8_state_24 : decode cX8_state 24 = .ok (.iload_n 2, 1) := by decide +kernel
theorem dX8_state_25 : decode cX8_state 25 = .ok (.ishl, 1) := by decide +kernel
theorem dX8_state_26 : decode cX8_state 26 = .ok (.ior, 1) := by decide +kernel
theorem dX8_state_27 : decode cX8_state 27 = .ok (.istore_n 1, 1) := by decide +kernel
theorem dX8_state_28 : decode cX8_state 28 = .ok (.iinc 2 1, 3) := by decide +kernel
theorem dX8_state_31 : decode cX8_state 31 = .ok (.goto (-27), 3) := by decide +kernel
theorem dX8_state_34 : decode cX8_state 34 = .ok (.bipush 25, 2) := by decide +kernel
theorem dX8_state_36 : decode cX8_state 36 = .ok (.iload_n 1, 1) := by decide +kernel
theorem dX8_state_37 : decode cX8_state 37 = .ok (.imul, 1) := by decide +kernel
theorem dX8_state_38 : decode cX8_state 38 = .ok (.aload_n 0, 1) := by decide +kernel
theorem dX8_state_39 : decode cX8_state 39 = .ok (.getfield 49, 3) := by decide +kernel
theorem dX8_state_42 : decode cX8_state 42 = .ok (.iadd, 1) := by decide +kernel
theorem dX8_state_43 : decode cX8_state 43 = .ok (.iconst 1, 1) := by decide +kernel
theorem dX8_state_44 : decode cX8_state 44 = .ok (.iadd, 1) := by decide +kernel
theorem dX8_state_45 : decode cX8_state 45 = .ok (.ireturn, 1) := by decide +kernel
theorem dX8_come_0 : decode cX8_come 0 = .ok (.iconst 0, 1) := by decide +kernel
theorem dX8_come_1 : decode cX8_come 1 = .ok (.istore_n 2, 1) := by decide +kernel
theorem dX8_come_2 : decode cX8_come 2 = .ok (.iload_n 2, 1) := by decide +kernel
theorem dX8_come_3 : decode cX8_come 3 = .ok (.aload_n 0, 1) := by decide +kernel
theorem dX8_come_4 : decode cX8_come 4 = .ok (.getfield 175, 3) := by decide +kernel
theorem dX8_come_7 : decode cX8_come 7 = .ok (.if_icmp .ge 28, 3) := by decide +kernel
theorem dX8_come_10 : decode cX8_come 10 = .ok (.aload_n 0, 1) := by decide +kernel
theorem dX8_come_11 : decode cX8_come 11 = .ok (.aload_n 0, 1) := by decide +kernel
theorem dX8_come_12 : decode cX8_come 12 = .ok (.getfield 34, 3) := by decide +kernel
theorem dX8_come_15 : decode cX8_come 15 = .ok (.iload_n 2, 1) := by decide +kernel
theorem dX8_come_16 : decode cX8_come 16 = .ok (.iaload, 1) := by decide +kernel
theorem dX8_come_17 : decode cX8_come 17 = .ok (.iconst 5, 1) := by decide +kernel
theorem dX8_come_18 : decode cX8_come 18 = .ok (.iload_n 1, 1) := by decide +kernel
theorem dX8_come_19 : decode cX8_come 19 = .ok (.bipush 25, 2) := by decide +kernel
theorem dX8_come_21 : decode cX8_come 21 = .ok (.idiv, 1) := by decide +kernel
theorem dX8_come_22 : decode cX8_come 22 = .ok (.iload_n 2, 1) := by decide +kernel
theorem dX8_come_23 : decode cX8_come 23 = .ok (.ishr, 1) := by decide +kernel
theorem dX8_come_24 : decode cX8_come 24 = .ok (.iconst 1, 1) := by decide +kernel
theorem dX8_come_25 : decode cX8_come 25 = .ok (.iand, 1) := by decide +kernel
theorem dX8_come_26 : decode cX8_come 26 = .ok (.invokevirtual 60, 3) := by decide +kernel
theorem dX8_come_29 : decode cX8_come 29 = .ok (.iinc 2 1, 3) := by decide +kernel
theorem dX8_come_32 : decode cX8_come 32 = .ok (.goto (-30), 3) := by decide +kernel
theorem dX8_come_35 : decode cX8_come 35 = .ok (.aload_n 0, 1) := by decide +kernel
theorem dX8_come_36 : decode cX8_come 36 = .ok (.iload_n 1, 1) := by decide +kernel
theorem dX8_come_37 : decode cX8_come 37 = .ok (.bipush 25, 2) := by decide +kernel
theorem dX8_come_39 : decode cX8_come 39 = .ok (.irem, 1) := by decide +kernel
theorem dX8_come_40 : decode cX8_come 40 = .ok (.iconst 1, 1) := by decide +kernel
theorem dX8_come_41 : decode cX8_come 41 = .ok (.isub, 1) := by decide +kernel
theorem dX8_come_42 : decode cX8_come 42 = .ok (.putfield 49, 3) := by decide +kernel
theorem dX8_come_45 : decode cX8_come 45 = .ok (.return_, 1) := by decide +kernel
theorem dX8_spread_0 : decode cX8_spread 0 = .ok (.aload_n 0, 1) := by decide +kernel
theorem dX8_spread_1 : decode cX8_spread 1 = .ok (.invokevirtual 178, 3) := by decide +kernel
theorem dX8_spread_4 : decode cX8_spread 4 = .ok (.aload_n 0, 1) := by decide +kernel
theorem dX8_spread_5 : decode cX8_spread 5 = .ok (.invokevirtual 181, 3) := by decide +kernel
theorem dX8_spread_8 : decode cX8_spread 8 = .ok (.istore_n 1, 1) := by decide +kernel
theorem dX8_spread_9 : decode cX8_spread 9 = .ok (.iconst 0, 1) := by decide +kernel
theorem dX8_spread_10 : decode cX8_spread 10 = .ok (.istore_n 2, 1) := by decide +kernel
theorem dX8_spread_11 : decode cX8_spread 11 = .ok (.iload_n 2, 1) := by decide +kernel
theorem dX8_spread_12 : decode cX8_spread 12 = .ok (.sipush 1600, 3) := by decide +kernel
theorem dX8_spread_15 : decode cX8_spread 15 = .ok (.if_icmp .ge 16, 3) := by decide +kernel
theorem dX8_spread_18 : decode cX8_spread 18 = .ok (.aload_n 0, 1) := by decide +kernel
theorem dX8_spread_19 : decode cX8_spread 19 = .ok (.getfield 37, 3) := by decide +kernel
theorem dX8_spread_22 : decode cX8_spread 22 = .ok (.iload_n 2, 1) := by decide +kernel
theorem dX8_spread_23 : decode cX8_spread 23 = .ok (.iconst (-1), 1) := by decide +kernel
theorem dX8_spread_24 : decode cX8_spread 24 = .ok (.iastore, 1) := by decide +kernel
theorem dX8_spread_25 : decode cX8_spread 25 = .ok (.iinc 2 1, 3) := by decide +kernel
theorem dX8_spread_28 : decode cX8_spread 28 = .ok (.goto (-17), 3) := by decide +kernel
theorem dX8_spread_31 : decode cX8_spread 31 = .ok (.aload_n 0, 1) := by decide +kernel
theorem dX8_spread_32 : decode cX8_spread 32 = .ok (.getfield 37, 3) := by decide +kernel
theorem dX8_spread_35 : decode cX8_spread 35 = .ok (.iload_n 1, 1) := by decide +kernel
theorem dX8_spread_36 : decode cX8_spread 36 = .ok (.iconst 0, 1) := by decide +kernel
theorem dX8_spread_37 : decode cX8_spread 37 = .ok (.iastore, 1) := by decide +kernel
theorem dX8_spread_38 : decode cX8_spread 38 = .ok (.aload_n 0, 1) := by decide +kernel
theorem dX8_spread_39 : decode cX8_spread 39 = .ok (.getfield 40, 3) := by decide +kernel
theorem dX8_spread_42 : decode cX8_spread 42 = .ok (.iconst 0, 1) := by decide +kernel
theorem dX8_spread_43 : decode cX8_spread 43 = .ok (.iload_n 1, 1) := by decide +kernel
theorem dX8_spread_44 : decode cX8_spread 44 = .ok (.iastore, 1) := by decide +kernel
theorem dX8_spread_45 : decode cX8_spread 45 = .ok (.aload_n 0, 1) := by decide +kernel
theorem dX8_spread_46 : decode cX8_spread 46 = .ok (.iconst 1, 1) := by decide +kernel
theorem dX8_spread_47 : decode cX8_spread 47 = .ok (.putfield 185, 3) := by decide +kernel
theorem dX8_spread_50 : decode cX8_spread 50 = .ok (.iconst 0, 1) := by decide +kernel
theorem dX8_spread_51 : decode cX8_spread 51 = .ok (.istore_n 2, 1) := by decide +kernel
theorem dX8_spread_52 : decode cX8_spread 52 = .ok (.iload_n 2, 1) := by decide +kernel
theorem dX8_spread_53 : decode cX8_spread 53 = .ok (.aload_n 0, 1) := by decide +kernel
theorem dX8_spread_54 : decode cX8_spread 54 = .ok (.getfield 185, 3) := by decide +kernel
theorem dX8_spread_57 : decode cX8_spread 57 = .ok (.if_icmp .ge 96, 3) := by decide +kernel
theorem dX8_spread_60 : decode cX8_spread 60 = .ok (.iconst 0, 1) := by decide +kernel
theorem dX8_spread_61 : decode cX8_spread 61 = .ok (.istore_n 3, 1) := by decide +kernel
theorem dX8_spread_62 : decode cX8_spread 62 = .ok (.iload_n 3, 1) := by decide +kernel
theorem dX8_spread_63 : decode cX8_spread 63 = .ok (.iconst 3, 1) := by decide +kernel
theorem dX8_spread_64 : decode cX8_spread 64 = .ok (.if_icmp .ge 83, 3) := by decide +kernel
theorem dX8_spread_67 : decode cX8_spread 67 = .ok (.aload_n 0, 1) := by decide +kernel
theorem dX8_spread_68 : decode cX8_spread 68 = .ok (.aload_n 0, 1) := by decide +kernel
theorem dX8_spread_69 : decode cX8_spread 69 = .ok (.getfield 40, 3) := by decide +kernel
theorem dX8_spread_72 : decode cX8_spread 72 = .ok (.iload_n 2, 1) := by decide +kernel
theorem dX8_spread_73 : decode cX8_spread 73 = .ok (.iaload, 1) := by decide +kernel
theorem dX8_spread_74 : decode cX8_spread 74 = .ok (.invokevirtual 188, 3) := by decide +kernel
theorem dX8_spread_77 : decode cX8_spread 77 = .ok (.aload_n 0, 1) := by decide +kernel
theorem dX8_spread_78 : decode cX8_spread 78 = .ok (.iload_n 3, 1) := by decide +kernel
theorem dX8_spread_79 : decode cX8_spread 79 = .ok (.iconst 0, 1) := by decide +kernel
theorem dX8_spread_80 : decode cX8_spread 80 = .ok (.invokevirtual 171, 3) := by decide +kernel
theorem dX8_spread_83 : decode cX8_spread 83 = .ok (.aload_n 0, 1) := by decide +kernel
theorem dX8_spread_84 : decode cX8_spread 84 = .ok (.invokevirtual 181, 3) := by decide +kernel
theorem dX8_spread_87 : decode cX8_spread 87 = .ok (.istore 4, 2) := by decide +kernel
theorem dX8_spread_89 : decode cX8_spread 89 = .ok (.aload_n 0, 1) := by decide +kernel
theorem dX8_spread_90 : decode cX8_spread 90 = .ok (.getfield 37, 3) := by decide +kernel
theorem dX8_spread_93 : decode cX8_spread 93 = .ok (.iload 4, 2) := by decide +kernel
theorem dX8_spread_95 : decode cX8_spread 95 = .ok (.iaload, 1) := by decide +kernel
theorem dX8_spread_96 : decode cX8_spread 96 = .ok (.iconst (-1), 1) := by decide +kernel
theorem dX8_spread_97 : decode cX8_spread 97 = .ok (.if_icmp .ne 44, 3) := by decide +kernel
theorem dX8_spread_100 : decode cX8_spread 100 = .ok (.aload_n 0, 1) := by decide +kernel
theorem dX8_spread_101 : decode cX8_spread 101 = .ok (.getfield 37, 3) := by decide +kernel
theorem dX8_spread_104 : decode cX8_spread 104 = .ok (.iload 4, 2) := by decide +kernel
theorem dX8_spread_106 : decode cX8_spread 106 = .ok (.aload_n 0, 1) := by decide +kernel
theorem dX8_spread_107 : decode cX8_spread 107 = .ok (.getfield 37, 3) := by decide +kernel
theorem dX8_spread_110 : decode cX8_spread 110 = .ok (.aload_n 0, 1) := by decide +kernel
theorem dX8_spread_111 : decode cX8_spread 111 = .ok (.getfield 40, 3) := by decide +kernel
theorem dX8_spread_114 : decode cX8_spread 114 = .ok (.iload_n 2, 1) := by decide +kernel
theorem dX8_spread_115 : decode cX8_spread 115 = .ok (.iaload, 1) := by decide +kernel
theorem dX8_spread_116 : decode cX8_spread 116 = .ok (.iaload, 1) := by decide +kernel
theorem dX8_spread_117 : decode cX8_spread 117 = .ok (.iconst 1, 1) := by decide +kernel
theorem dX8_spread_118 : decode cX8_spread 118 = .ok (.iadd, 1) := by decide +kernel
theorem dX8_spread_119 : decode cX8_spread 119 = .ok (.iastore, 1) := by decide +kernel
theorem dX8_spread_120 : decode cX8_spread 120 = .ok (.aload_n 0, 1) := by decide +kernel
theorem dX8_spread_121 : decode cX8_spread 121 = .ok (.getfield 40, 3) := by decide +kernel
theorem dX8_spread_124 : decode cX8_spread 124 = .ok (.aload_n 0, 1) := by decide +kernel
theorem dX8_spread_125 : decode cX8_spread 125 = .ok (.getfield 185, 3) := by decide +kernel
theorem dX8_spread_128 : decode cX8_spread 128 = .ok (.iload 4, 2) := by decide +kernel
theorem dX8_spread_130 : decode cX8_spread 130 = .ok (.iastore, 1) := by decide +kernel
theorem dX8_spread_131 : decode cX8_spread 131 = .ok (.aload_n 0, 1) := by decide +kernel
theorem dX8_spread_132 : decode cX8_spread 132 = .ok (.dup, 1) := by decide +kernel
theorem dX8_spread_133 : decode cX8_spread 133 = .ok (.getfield 185, 3) := by decide +kernel
theorem dX8_spread_136 : decode cX8_spread 136 = .ok (.iconst 1, 1) := by decide +kernel
theorem dX8_spread_137 : decode cX8_spread 137 = .ok (.iadd, 1) := by decide +kernel
theorem dX8_spread_138 : decode cX8_spread 138 = .ok (.putfield 185, 3) := by decide +kernel
theorem dX8_spread_141 : decode cX8_spread 141 = .ok (.iinc 3 1, 3) := by decide +kernel
theorem dX8_spread_144 : decode cX8_spread 144 = .ok (.goto (-82), 3) := by decide +kernel
theorem dX8_spread_147 : decode cX8_spread 147 = .ok (.iinc 2 1, 3) := by decide +kernel
theorem dX8_spread_150 : decode cX8_spread 150 = .ok (.goto (-98), 3) := by decide +kernel
theorem dX8_spread_153 : decode cX8_spread 153 = .ok (.aload_n 0, 1) := by decide +kernel
theorem dX8_spread_154 : decode cX8_spread 154 = .ok (.iload_n 1, 1) := by decide +kernel
theorem dX8_spread_155 : decode cX8_spread 155 = .ok (.invokevirtual 188, 3) := by decide +kernel
theorem dX8_spread_158 : decode cX8_spread 158 = .ok (.return_, 1) := by decide +kernel
theorem dX8_leastTo_0 : decode cX8_leastTo 0 = .ok (.iconst (-1), 1) := by decide +kernel
theorem dX8_leastTo_1 : decode cX8_leastTo 1 = .ok (.istore_n 2, 1) := by decide +kernel
theorem dX8_leastTo_2 : decode cX8_leastTo 2 = .ok (.iconst 0, 1) := by decide +kernel
theorem dX8_leastTo_3 : decode cX8_leastTo 3 = .ok (.istore_n 3, 1) := by decide +kernel
theorem dX8_leastTo_4 : decode cX8_leastTo 4 = .ok (.iload_n 3, 1) := by decide +kernel
theorem dX8_leastTo_5 : decode cX8_leastTo 5 = .ok (.aload_n 0, 1) := by decide +kernel
theorem dX8_leastTo_6 : decode cX8_leastTo 6 = .ok (.getfield 185, 3) := by decide +kernel
theorem dX8_leastTo_9 : decode cX8_leastTo 9 = .ok (.if_icmp .ge 52, 3) := by decide +kernel
theorem dX8_leastTo_12 : decode cX8_leastTo 12 = .ok (.aload_n 0, 1) := by decide +kernel
theorem dX8_leastTo_13 : decode cX8_leastTo 13 = .ok (.getfield 40, 3) := by decide +kernel
theorem dX8_leastTo_16 : decode cX8_leastTo 16 = .ok (.iload_n 3, 1) := by decide +kernel
theorem dX8_leastTo_17 : decode cX8_leastTo 17 = .ok (.iaload, 1) := by decide +kernel
theorem dX8_leastTo_18 : decode cX8_leastTo 18 = .ok (.istore 4, 2) := by decide +kernel
theorem dX8_leastTo_20 : decode cX8_leastTo 20 = .ok (.iload 4, 2) := by decide +kernel
theorem dX8_leastTo_22 : decode cX8_leastTo 22 = .ok (.bipush 25, 2) := by decide +kernel
theorem dX8_leastTo_24 : decode cX8_leastTo 24 = .ok (.irem, 1) := by decide +kernel
theorem dX8_leastTo_25 : decode cX8_leastTo 25 = .ok (.iconst 1, 1) := by decide +kernel
theorem dX8_leastTo_26 : decode cX8_leastTo 26 = .ok (.isub, 1) := by decide +kernel
theorem dX8_leastTo_27 : decode cX8_leastTo 27 = .ok (.iload_n 1, 1) := by decide +kernel
theorem dX8_leastTo_28 : decode cX8_leastTo 28 = .ok (.if_icmp .ne 27, 3) := by decide +kernel
theorem dX8_leastTo_31 : decode cX8_leastTo 31 = .ok (.iload_n 2, 1) := by decide +kernel
theorem dX8_leastTo_32 : decode cX8_leastTo 32 = .ok (.iconst (-1), 1) := by decide +kernel
theorem dX8_leastTo_33 : decode cX8_leastTo 33 = .ok (.if_icmp .eq 14, 3) := by decide +kernel
theorem dX8_leastTo_36 : decode cX8_leastTo 36 = .ok (.aload_n 0, 1) := by decide +kernel
theorem dX8_leastTo_37 : decode cX8_leastTo 37 = .ok (.getfield 37, 3) := by decide +kernel
theorem dX8_leastTo_40 : decode cX8_leastTo 40 = .ok (.iload 4, 2) := by decide +kernel
theorem dX8_leastTo_42 : decode cX8_leastTo 42 = .ok (.iaload, 1) := by decide +kernel
theorem dX8_leastTo_43 : decode cX8_leastTo 43 = .ok (.iload_n 2, 1) := by decide +kernel
theorem dX8_leastTo_44 : decode cX8_leastTo 44 = .ok (.if_icmp .ge 11, 3) := by decide +kernel
theorem dX8_leastTo_47 : decode cX8_leastTo 47 = .ok (.aload_n 0, 1) := by decide +kernel
theorem dX8_leastTo_48 : decode cX8_leastTo 48 = .ok (.getfield 37, 3) := by decide +kernel
theorem dX8_leastTo_51 : decode cX8_leastTo 51 = .ok (.iload 4, 2) := by decide +kernel
theorem dX8_leastTo_53 : decode cX8_leastTo 53 = .ok (.iaload, 1) := by decide +kernel
theorem dX8_leastTo_54 : decode cX8_leastTo 54 = .ok (.istore_n 2, 1) := by decide +kernel
theorem dX8_leastTo_55 : decode cX8_leastTo 55 = .ok (.iinc 3 1, 3) := by decide +kernel
theorem dX8_leastTo_58 : decode cX8_leastTo 58 = .ok (.goto (-54), 3) := by decide +kernel
theorem dX8_leastTo_61 : decode cX8_leastTo 61 = .ok (.iload_n 2, 1) := by decide +kernel
theorem dX8_leastTo_62 : decode cX8_leastTo 62 = .ok (.ireturn, 1) := by decide +kernel
theorem dX8_walk_0 : decode cX8_walk 0 = .ok (.aload_n 0, 1) := by decide +kernel
theorem dX8_walk_1 : decode cX8_walk 1 = .ok (.iload_n 1, 1) := by decide +kernel
theorem dX8_walk_2 : decode cX8_walk 2 = .ok (.invokevirtual 68, 3) := by decide +kernel
theorem dX8_walk_5 : decode cX8_walk 5 = .ok (.ifCond .ne 6, 3) := by decide +kernel
theorem dX8_walk_8 : decode cX8_walk 8 = .ok (.bipush (-101), 2) := by decide +kernel
theorem dX8_walk_10 : decode cX8_walk 10 = .ok (.ireturn, 1) := by decide +kernel
theorem dX8_walk_11 : decode cX8_walk 11 = .ok (.aload_n 0, 1) := by decide +kernel
theorem dX8_walk_12 : decode cX8_walk 12 = .ok (.invokevirtual 191, 3) := by decide +kernel
theorem dX8_walk_15 : decode cX8_walk 15 = .ok (.aload_n 0, 1) := by decide +kernel
theorem dX8_walk_16 : decode cX8_walk 16 = .ok (.iload_n 1, 1) := by decide +kernel
theorem dX8_walk_17 : decode cX8_walk 17 = .ok (.invokevirtual 194, 3) := by decide +kernel
theorem dX8_walk_20 : decode cX8_walk 20 = .ok (.ireturn, 1) := by decide +kernel
theorem dX8_key_0 : decode cX8_key 0 = .ok (.aload_n 0, 1) := by decide +kernel
theorem dX8_key_1 : decode cX8_key 1 = .ok (.iload_n 1, 1) := by decide +kernel
theorem dX8_key_2 : decode cX8_key 2 = .ok (.invokevirtual 68, 3) := by decide +kernel
theorem dX8_key_5 : decode cX8_key 5 = .ok (.ifCond .ne 6, 3) := by decide +kernel
theorem dX8_key_8 : decode cX8_key 8 = .ok (.bipush (-101), 2) := by decide +kernel
theorem dX8_key_10 : decode cX8_key 10 = .ok (.ireturn, 1) := by decide +kernel
theorem dX8_key_11 : decode cX8_key 11 = .ok (.aload_n 0, 1) := by decide +kernel
theorem dX8_key_12 : decode cX8_key 12 = .ok (.invokevirtual 191, 3) := by decide +kernel
theorem dX8_key_15 : decode cX8_key 15 = .ok (.aload_n 0, 1) := by decide +kernel
theorem dX8_key_16 : decode cX8_key 16 = .ok (.iload_n 1, 1) := by decide +kernel
theorem dX8_key_17 : decode cX8_key 17 = .ok (.invokevirtual 194, 3) := by decide +kernel
theorem dX8_key_20 : decode cX8_key 20 = .ok (.istore_n 2, 1) := by decide +kernel
theorem dX8_key_21 : decode cX8_key 21 = .ok (.iload_n 2, 1) := by decide +kernel
theorem dX8_key_22 : decode cX8_key 22 = .ok (.iconst 1, 1) := by decide +kernel
theorem dX8_key_23 : decode cX8_key 23 = .ok (.if_icmp .ge 5, 3) := by decide +kernel
theorem dX8_key_26 : decode cX8_key 26 = .ok (.iconst (-1), 1) := by decide +kernel
theorem dX8_key_27 : decode cX8_key 27 = .ok (.ireturn, 1) := by decide +kernel
theorem dX8_key_28 : decode cX8_key 28 = .ok (.aload_n 0, 1) := by decide +kernel
theorem dX8_key_29 : decode cX8_key 29 = .ok (.invokevirtual 181, 3) := by decide +kernel
theorem dX8_key_32 : decode cX8_key 32 = .ok (.istore_n 3, 1) := by decide +kernel
theorem dX8_key_33 : decode cX8_key 33 = .ok (.iconst (-1), 1) := by decide +kernel
theorem dX8_key_34 : decode cX8_key 34 = .ok (.istore 4, 2) := by decide +kernel
theorem dX8_key_36 : decode cX8_key 36 = .ok (.iconst 0, 1) := by decide +kernel
theorem dX8_key_37 : decode cX8_key 37 = .ok (.istore 5, 2) := by decide +kernel
theorem dX8_key_39 : decode cX8_key 39 = .ok (.iload 5, 2) := by decide +kernel
theorem dX8_key_41 : decode cX8_key 41 = .ok (.iconst 3, 1) := by decide +kernel
theorem dX8_key_42 : decode cX8_key 42 = .ok (.if_icmp .ge 50, 3) := by decide +kernel
theorem dX8_key_45 : decode cX8_key 45 = .ok (.iload 4, 2) := by decide +kernel
theorem dX8_key_47 : decode cX8_key 47 = .ok (.iconst (-1), 1) := by decide +kernel
theorem dX8_key_48 : decode cX8_key 48 = .ok (.if_icmp .ne 44, 3) := by decide +kernel
theorem dX8_key_51 : decode cX8_key 51 = .ok (.aload_n 0, 1) := by decide +kernel
theorem dX8_key_52 : decode cX8_key 52 = .ok (.iload 5, 2) := by decide +kernel
theorem dX8_key_54 : decode cX8_key 54 = .ok (.iconst 0, 1) := by decide +kernel
theorem dX8_key_55 : decode cX8_key 55 = .ok (.invokevirtual 171, 3) := by decide +kernel
theorem dX8_key_58 : decode cX8_key 58 = .ok (.aload_n 0, 1) := by decide +kernel
theorem dX8_key_59 : decode cX8_key 59 = .ok (.invokevirtual 191, 3) := by decide +kernel
theorem dX8_key_62 : decode cX8_key 62 = .ok (.aload_n 0, 1) := by decide +kernel
theorem dX8_key_63 : decode cX8_key 63 = .ok (.iload_n 1, 1) := by decide +kernel
theorem dX8_key_64 : decode cX8_key 64 = .ok (.invokevirtual 194, 3) := by decide +kernel
theorem dX8_key_67 : decode cX8_key 67 = .ok (.iload_n 2, 1) := by decide +kernel
theorem dX8_key_68 : decode cX8_key 68 = .ok (.iconst 1, 1) := by decide +kernel
theorem dX8_key_69 : decode cX8_key 69 = .ok (.isub, 1) := by decide +kernel
theorem dX8_key_70 : decode cX8_key 70 = .ok (.if_icmp .ne 8, 3) := by decide +kernel
theorem dX8_key_73 : decode cX8_key 73 = .ok (.iload 5, 2) := by decide +kernel
theorem dX8_key_75 : decode cX8_key 75 = .ok (.goto 4, 3) := by decide +kernel
theorem dX8_key_78 : decode cX8_key 78 = .ok (.iconst (-1), 1) := by decide +kernel
theorem dX8_key_79 : decode cX8_key 79 = .ok (.istore 4, 2) := by decide +kernel
theorem dX8_key_81 : decode cX8_key 81 = .ok (.aload_n 0, 1) := by decide +kernel
theorem dX8_key_82 : decode cX8_key 82 = .ok (.iload_n 3, 1) := by decide +kernel
theorem dX8_key_83 : decode cX8_key 83 = .ok (.invokevirtual 188, 3) := by decide +kernel
theorem dX8_key_86 : decode cX8_key 86 = .ok (.iinc 5 1, 3) := by decide +kernel
theorem dX8_key_89 : decode cX8_key 89 = .ok (.goto (-50), 3) := by decide +kernel
theorem dX8_key_92 : decode cX8_key 92 = .ok (.iload 4, 2) := by decide +kernel
theorem dX8_key_94 : decode cX8_key 94 = .ok (.ireturn, 1) := by decide +kernel
theorem dX8_keeper_0 : decode cX8_keeper 0 = .ok (.aload_n 0, 1) := by decide +kernel
theorem dX8_keeper_1 : decode cX8_keeper 1 = .ok (.aload_n 0, 1) := by decide +kernel
theorem dX8_keeper_2 : decode cX8_keeper 2 = .ok (.getfield 49, 3) := by decide +kernel
theorem dX8_keeper_5 : decode cX8_keeper 5 = .ok (.invokevirtual 165, 3) := by decide +kernel
theorem dX8_keeper_8 : decode cX8_keeper 8 = .ok (.istore_n 1, 1) := by decide +kernel
theorem dX8_keeper_9 : decode cX8_keeper 9 = .ok (.iload_n 1, 1) := by decide +kernel
theorem dX8_keeper_10 : decode cX8_keeper 10 = .ok (.iconst (-1), 1) := by decide +kernel
theorem dX8_keeper_11 : decode cX8_keeper 11 = .ok (.if_icmp .ne 5, 3) := by decide +kernel
theorem dX8_keeper_14 : decode cX8_keeper 14 = .ok (.iconst (-1), 1) := by decide +kernel
theorem dX8_keeper_15 : decode cX8_keeper 15 = .ok (.ireturn, 1) := by decide +kernel
theorem dX8_keeper_16 : decode cX8_keeper 16 = .ok (.aload_n 0, 1) := by decide +kernel
theorem dX8_keeper_17 : decode cX8_keeper 17 = .ok (.invokevirtual 191, 3) := by decide +kernel
theorem dX8_keeper_20 : decode cX8_keeper 20 = .ok (.iconst 0, 1) := by decide +kernel
theorem dX8_keeper_21 : decode cX8_keeper 21 = .ok (.istore_n 2, 1) := by decide +kernel
theorem dX8_keeper_22 : decode cX8_keeper 22 = .ok (.iload_n 2, 1) := by decide +kernel
theorem dX8_keeper_23 : decode cX8_keeper 23 = .ok (.aload_n 0, 1) := by decide +kernel
theorem dX8_keeper_24 : decode cX8_keeper 24 = .ok (.getfield 185, 3) := by decide +kernel
theorem dX8_keeper_27 : decode cX8_keeper 27 = .ok (.if_icmp .ge 37, 3) := by decide +kernel
theorem dX8_keeper_30 : decode cX8_keeper 30 = .ok (.aload_n 0, 1) := by decide +kernel
theorem dX8_keeper_31 : decode cX8_keeper 31 = .ok (.getfield 40, 3) := by decide +kernel
theorem dX8_keeper_34 : decode cX8_keeper 34 = .ok (.iload_n 2, 1) := by decide +kernel
theorem dX8_keeper_35 : decode cX8_keeper 35 = .ok (.iaload, 1) := by decide +kernel
theorem dX8_keeper_36 : decode cX8_keeper 36 = .ok (.bipush 25, 2) := by decide +kernel
theorem dX8_keeper_38 : decode cX8_keeper 38 = .ok (.irem, 1) := by decide +kernel
theorem dX8_keeper_39 : decode cX8_keeper 39 = .ok (.iconst 1, 1) := by decide +kernel
theorem dX8_keeper_40 : decode cX8_keeper 40 = .ok (.isub, 1) := by decide +kernel
theorem dX8_keeper_41 : decode cX8_keeper 41 = .ok (.istore_n 3, 1) := by decide +kernel
theorem dX8_keeper_42 : decode cX8_keeper 42 = .ok (.iload_n 3, 1) := by decide +kernel
theorem dX8_keeper_43 : decode cX8_keeper 43 = .ok (.iconst (-1), 1) := by decide +kernel
theorem dX8_keeper_44 : decode cX8_keeper 44 = .ok (.if_icmp .eq 14, 3) := by decide +kernel
theorem dX8_keeper_47 : decode cX8_keeper 47 = .ok (.aload_n 0, 1) := by decide +kernel
theorem dX8_keeper_48 : decode cX8_keeper 48 = .ok (.iload_n 3, 1) := by decide +kernel
theorem dX8_keeper_49 : decode cX8_keeper 49 = .ok (.iload_n 1, 1) := by decide +kernel
theorem dX8_keeper_50 : decode cX8_keeper 50 = .ok (.invokevirtual 135, 3) := by decide +kernel
theorem dX8_keeper_53 : decode cX8_keeper 53 = .ok (.ifCond .ne 5, 3) := by decide +kernel
theorem dX8_keeper_56 : decode cX8_keeper 56 = .ok (.iconst (-1), 1) := by decide +kernel
theorem dX8_keeper_57 : decode cX8_keeper 57 = .ok (.ireturn, 1) := by decide +kernel
theorem dX8_keeper_58 : decode cX8_keeper 58 = .ok (.iinc 2 1, 3) := by decide +kernel
theorem dX8_keeper_61 : decode cX8_keeper 61 = .ok (.goto (-39), 3) := by decide +kernel
theorem dX8_keeper_64 : decode cX8_keeper 64 = .ok (.iload_n 1, 1) := by decide +kernel
theorem dX8_keeper_65 : decode cX8_keeper 65 = .ok (.ireturn, 1) := by decide +kernel
theorem dX8_hear_0 : decode cX8_hear 0 = .ok (.aload_n 0, 1) := by decide +kernel
theorem dX8_hear_1 : decode cX8_hear 1 = .ok (.getfield 92, 3) := by decide +kernel
theorem dX8_hear_4 : decode cX8_hear 4 = .ok (.ifCond .ne 5, 3) := by decide +kernel
theorem dX8_hear_7 : decode cX8_hear 7 = .ok (.iconst (-1), 1) := by decide +kernel
theorem dX8_hear_8 : decode cX8_hear 8 = .ok (.ireturn, 1) := by decide +kernel
theorem dX8_hear_9 : decode cX8_hear 9 = .ok (.aload_n 0, 1) := by decide +kernel
theorem dX8_hear_10 : decode cX8_hear 10 = .ok (.getfield 13, 3) := by decide +kernel
theorem dX8_hear_13 : decode cX8_hear 13 = .ok (.iconst 0, 1) := by decide +kernel
theorem dX8_hear_14 : decode cX8_hear 14 = .ok (.iaload, 1) := by decide +kernel
theorem dX8_hear_15 : decode cX8_hear 15 = .ok (.istore_n 1, 1) := by decide +kernel
theorem dX8_hear_16 : decode cX8_hear 16 = .ok (.aload_n 0, 1) := by decide +kernel
theorem dX8_hear_17 : decode cX8_hear 17 = .ok (.dup, 1) := by decide +kernel
theorem dX8_hear_18 : decode cX8_hear 18 = .ok (.getfield 92, 3) := by decide +kernel
theorem dX8_hear_21 : decode cX8_hear 21 = .ok (.iconst 1, 1) := by decide +kernel
theorem dX8_hear_22 : decode cX8_hear 22 = .ok (.isub, 1) := by decide +kernel
theorem dX8_hear_23 : decode cX8_hear 23 = .ok (.putfield 92, 3) := by decide +kernel
theorem dX8_hear_26 : decode cX8_hear 26 = .ok (.iconst 0, 1) := by decide +kernel
theorem dX8_hear_27 : decode cX8_hear 27 = .ok (.istore_n 2, 1) := by decide +kernel
theorem dX8_hear_28 : decode cX8_hear 28 = .ok (.iload_n 2, 1) := by decide +kernel
theorem dX8_hear_29 : decode cX8_hear 29 = .ok (.aload_n 0, 1) := by decide +kernel
theorem dX8_hear_30 : decode cX8_hear 30 = .ok (.getfield 92, 3) := by decide +kernel
theorem dX8_hear_33 : decode cX8_hear 33 = .ok (.if_icmp .ge 23, 3) := by decide +kernel
theorem dX8_hear_36 : decode cX8_hear 36 = .ok (.aload_n 0, 1) := by decide +kernel
theorem dX8_hear_37 : decode cX8_hear 37 = .ok (.getfield 13, 3) := by decide +kernel
theorem dX8_hear_40 : decode cX8_hear 40 = .ok (.iload_n 2, 1) := by decide +kernel
theorem dX8_hear_41 : decode cX8_hear 41 = .ok (.aload_n 0, 1) := by decide +kernel
theorem dX8_hear_42 : decode cX8_hear 42 = .ok (.getfield 13, 3) := by decide +kernel
theorem dX8_hear_45 : decode cX8_hear 45 = .ok (.iload_n 2, 1) := by decide +kernel
theorem dX8_hear_46 : decode cX8_hear 46 = .ok (.iconst 1, 1) := by decide +kernel
theorem dX8_hear_47 : decode cX8_hear 47 = .ok (.iadd, 1) := by decide +kernel
theorem dX8_hear_48 : decode cX8_hear 48 = .ok (.iaload, 1) := by decide +kernel
theorem dX8_hear_49 : decode cX8_hear 49 = .ok (.iastore, 1) := by decide +kernel
theorem dX8_hear_50 : decode cX8_hear 50 = .ok (.iinc 2 1, 3) := by decide +kernel
theorem dX8_hear_53 : decode cX8_hear 53 = .ok (.goto (-25), 3) := by decide +kernel
theorem dX8_hear_56 : decode cX8_hear 56 = .ok (.iload_n 1, 1) := by decide +kernel
theorem dX8_hear_57 : decode cX8_hear 57 = .ok (.ireturn, 1) := by decide +kernel
theorem dX8_isTwin_0 : decode cX8_isTwin 0 = .ok (.aload_n 0, 1) := by decide +kernel
theorem dX8_isTwin_1 : decode cX8_isTwin 1 = .ok (.iload_n 1, 1) := by decide +kernel
theorem dX8_isTwin_2 : decode cX8_isTwin 2 = .ok (.bipush 10, 2) := by decide +kernel
theorem dX8_isTwin_4 : decode cX8_isTwin 4 = .ok (.invokevirtual 74, 3) := by decide +kernel
theorem dX8_isTwin_7 : decode cX8_isTwin 7 = .ok (.istore_n 2, 1) := by decide +kernel
theorem dX8_isTwin_8 : decode cX8_isTwin 8 = .ok (.iload_n 2, 1) := by decide +kernel
theorem dX8_isTwin_9 : decode cX8_isTwin 9 = .ok (.iconst 2, 1) := by decide +kernel
theorem dX8_isTwin_10 : decode cX8_isTwin 10 = .ok (.if_icmp .eq 8, 3) := by decide +kernel
theorem dX8_isTwin_13 : decode cX8_isTwin 13 = .ok (.iload_n 2, 1) := by decide +kernel
theorem dX8_isTwin_14 : decode cX8_isTwin 14 = .ok (.iconst 3, 1) := by decide +kernel
theorem dX8_isTwin_15 : decode cX8_isTwin 15 = .ok (.if_icmp .ne 12, 3) := by decide +kernel
theorem dX8_isTwin_18 : decode cX8_isTwin 18 = .ok (.aload_n 0, 1) := by decide +kernel
theorem dX8_isTwin_19 : decode cX8_isTwin 19 = .ok (.getfield 25, 3) := by decide +kernel
theorem dX8_isTwin_22 : decode cX8_isTwin 22 = .ok (.iload_n 1, 1) := by decide +kernel
theorem dX8_isTwin_23 : decode cX8_isTwin 23 = .ok (.iaload, 1) := by decide +kernel
theorem dX8_isTwin_24 : decode cX8_isTwin 24 = .ok (.ifCond .ne 5, 3) := by decide +kernel
theorem dX8_isTwin_27 : decode cX8_isTwin 27 = .ok (.iconst 0, 1) := by decide +kernel
theorem dX8_isTwin_28 : decode cX8_isTwin 28 = .ok (.ireturn, 1) := by decide +kernel
theorem dX8_isTwin_29 : decode cX8_isTwin 29 = .ok (.iconst 0, 1) := by decide +kernel
theorem dX8_isTwin_30 : decode cX8_isTwin 30 = .ok (.istore_n 3, 1) := by decide +kernel
theorem dX8_isTwin_31 : decode cX8_isTwin 31 = .ok (.iload_n 3, 1) := by decide +kernel
theorem dX8_isTwin_32 : decode cX8_isTwin 32 = .ok (.iload_n 1, 1) := by decide +kernel
theorem dX8_isTwin_33 : decode cX8_isTwin 33 = .ok (.if_icmp .ge 105, 3) := by decide +kernel
theorem dX8_isTwin_36 : decode cX8_isTwin 36 = .ok (.aload_n 0, 1) := by decide +kernel
theorem dX8_isTwin_37 : decode cX8_isTwin 37 = .ok (.iload_n 3, 1) := by decide +kernel
theorem dX8_isTwin_38 : decode cX8_isTwin 38 = .ok (.invokevirtual 159, 3) := by decide +kernel
theorem dX8_isTwin_41 : decode cX8_isTwin 41 = .ok (.ifCond .eq 22, 3) := by decide +kernel
theorem dX8_isTwin_44 : decode cX8_isTwin 44 = .ok (.aload_n 0, 1) := by decide +kernel
theorem dX8_isTwin_45 : decode cX8_isTwin 45 = .ok (.getfield 25, 3) := by decide +kernel
theorem dX8_isTwin_48 : decode cX8_isTwin 48 = .ok (.iload_n 3, 1) := by decide +kernel
theorem dX8_isTwin_49 : decode cX8_isTwin 49 = .ok (.iaload, 1) := by decide +kernel
theorem dX8_isTwin_50 : decode cX8_isTwin 50 = .ok (.aload_n 0, 1) := by decide +kernel
theorem dX8_isTwin_51 : decode cX8_isTwin 51 = .ok (.getfield 25, 3) := by decide +kernel
theorem dX8_isTwin_54 : decode cX8_isTwin 54 = .ok (.iload_n 1, 1) := by decide +kernel
theorem dX8_isTwin_55 : decode cX8_isTwin 55 = .ok (.iaload, 1) := by decide +kernel
theorem dX8_isTwin_56 : decode cX8_isTwin 56 = .ok (.if_icmp .ne 7, 3) := by decide +kernel
theorem dX8_isTwin_59 : decode cX8_isTwin 59 = .ok (.iconst 1, 1) := by decide +kernel
theorem dX8_isTwin_60 : decode cX8_isTwin 60 = .ok (.goto 4, 3) := by decide +kernel
theorem dX8_isTwin_63 : decode cX8_isTwin 63 = .ok (.iconst 0, 1) := by decide +kernel
theorem dX8_isTwin_64 : decode cX8_isTwin 64 = .ok (.istore 4, 2) := by decide +kernel
theorem dX8_isTwin_66 : decode cX8_isTwin 66 = .ok (.iconst 0, 1) := by decide +kernel
theorem dX8_isTwin_67 : decode cX8_isTwin 67 = .ok (.istore 5, 2) := by decide +kernel
theorem dX8_isTwin_69 : decode cX8_isTwin 69 = .ok (.iload 5, 2) := by decide +kernel
theorem dX8_isTwin_71 : decode cX8_isTwin 71 = .ok (.aload_n 0, 1) := by decide +kernel
theorem dX8_isTwin_72 : decode cX8_isTwin 72 = .ok (.getfield 25, 3) := by decide +kernel
theorem dX8_isTwin_75 : decode cX8_isTwin 75 = .ok (.iload_n 1, 1) := by decide +kernel
theorem dX8_isTwin_76 : decode cX8_isTwin 76 = .ok (.iaload, 1) := by decide +kernel
theorem dX8_isTwin_77 : decode cX8_isTwin 77 = .ok (.if_icmp .ge 48, 3) := by decide +kernel
theorem dX8_isTwin_80 : decode cX8_isTwin 80 = .ok (.iload 4, 2) := by decide +kernel
theorem dX8_isTwin_82 : decode cX8_isTwin 82 = .ok (.ifCond .eq 43, 3) := by decide +kernel
theorem dX8_isTwin_85 : decode cX8_isTwin 85 = .ok (.aload_n 0, 1) := by decide +kernel
theorem dX8_isTwin_86 : decode cX8_isTwin 86 = .ok (.getfield 22, 3) := by decide +kernel
theorem dX8_isTwin_89 : decode cX8_isTwin 89 = .ok (.bipush 8, 2) := by decide +kernel
theorem dX8_isTwin_91 : decode cX8_isTwin 91 = .ok (.iload_n 3, 1) := by decide +kernel
theorem dX8_isTwin_92 : decode cX8_isTwin 92 = .ok (.imul, 1) := by decide +kernel
theorem dX8_isTwin_93 : decode cX8_isTwin 93 = .ok (.iload 5, 2) := by decide +kernel
theorem dX8_isTwin_95 : decode cX8_isTwin 95 = .ok (.iadd, 1) := by decide +kernel
theorem dX8_isTwin_96 : decode cX8_isTwin 96 = .ok (.iaload, 1) := by decide +kernel
theorem dX8_isTwin_97 : decode cX8_isTwin 97 = .ok (.aload_n 0, 1) := by decide +kernel
theorem dX8_isTwin_98 : decode cX8_isTwin 98 = .ok (.getfield 22, 3) := by decide +kernel
theorem dX8_isTwin_101 : decode cX8_isTwin 101 = .ok (.bipush 8, 2) := by decide +kernel
theorem dX8_isTwin_103 : decode cX8_isTwin 103 = .ok (.iload_n 1, 1) := by decide +kernel
theorem dX8_isTwin_104 : decode cX8_isTwin 104 = .ok (.imul, 1) := by decide +kernel
theorem dX8_isTwin_105 : decode cX8_isTwin 105 = .ok (.iload 5, 2) := by decide +kernel
theorem dX8_isTwin_107 : decode cX8_isTwin 107 = .ok (.iadd, 1) := by decide +kernel
theorem dX8_isTwin_108 : decode cX8_isTwin 108 = .ok (.iaload, 1) := by decide +kernel
theorem dX8_isTwin_109 : decode cX8_isTwin 109 = .ok (.if_icmp .ne 7, 3) := by decide +kernel
theorem dX8_isTwin_112 : decode cX8_isTwin 112 = .ok (.iconst 1, 1) := by decide +kernel
theorem dX8_isTwin_113 : decode cX8_isTwin 113 = .ok (.goto 4, 3) := by decide +kernel
theorem dX8_isTwin_116 : decode cX8_isTwin 116 = .ok (.iconst 0, 1) := by decide +kernel
theorem dX8_isTwin_117 : decode cX8_isTwin 117 = .ok (.istore 4, 2) := by decide +kernel
theorem dX8_isTwin_119 : decode cX8_isTwin 119 = .ok (.iinc 5 1, 3) := by decide +kernel
theorem dX8_isTwin_122 : decode cX8_isTwin 122 = .ok (.goto (-53), 3) := by decide +kernel
theorem dX8_isTwin_125 : decode cX8_isTwin 125 = .ok (.iload 4, 2) := by decide +kernel
theorem dX8_isTwin_127 : decode cX8_isTwin 127 = .ok (.ifCond .eq 5, 3) := by decide +kernel
theorem dX8_isTwin_130 : decode cX8_isTwin 130 = .ok (.iconst 1, 1) := by decide +kernel
theorem dX8_isTwin_131 : decode cX8_isTwin 131 = .ok (.ireturn, 1) := by decide +kernel
theorem dX8_isTwin_132 : decode cX8_isTwin 132 = .ok (.iinc 3 1, 3) := by decide +kernel
theorem dX8_isTwin_135 : decode cX8_isTwin 135 = .ok (.goto (-104), 3) := by decide +kernel
theorem dX8_isTwin_138 : decode cX8_isTwin 138 = .ok (.iconst 0, 1) := by decide +kernel
theorem dX8_isTwin_139 : decode cX8_isTwin 139 = .ok (.ireturn, 1) := by decide +kernel
theorem dX8_isClosed_0 : decode cX8_isClosed 0 = .ok (.iconst 0, 1) := by decide +kernel
theorem dX8_isClosed_1 : decode cX8_isClosed 1 = .ok (.istore_n 2, 1) := by decide +kernel
theorem dX8_isClosed_2 : decode cX8_isClosed 2 = .ok (.iconst 0, 1) := by decide +kernel
theorem dX8_isClosed_3 : decode cX8_isClosed 3 = .ok (.istore_n 3, 1) := by decide +kernel
theorem dX8_isClosed_4 : decode cX8_isClosed 4 = .ok (.iload_n 3, 1) := by decide +kernel
theorem dX8_isClosed_5 : decode cX8_isClosed 5 = .ok (.aload_n 0, 1) := by decide +kernel
theorem dX8_isClosed_6 : decode cX8_isClosed 6 = .ok (.getfield 57, 3) := by decide +kernel
theorem dX8_isClosed_9 : decode cX8_isClosed 9 = .ok (.if_icmp .ge 76, 3) := by decide +kernel
theorem dX8_isClosed_12 : decode cX8_isClosed 12 = .ok (.aload_n 0, 1) := by decide +kernel
theorem dX8_isClosed_13 : decode cX8_isClosed 13 = .ok (.iload_n 3, 1) := by decide +kernel
theorem dX8_isClosed_14 : decode cX8_isClosed 14 = .ok (.invokevirtual 159, 3) := by decide +kernel
theorem dX8_isClosed_17 : decode cX8_isClosed 17 = .ok (.ifCond .eq 62, 3) := by decide +kernel
theorem dX8_isClosed_20 : decode cX8_isClosed 20 = .ok (.aload_n 0, 1) := by decide +kernel
theorem dX8_isClosed_21 : decode cX8_isClosed 21 = .ok (.iload_n 3, 1) := by decide +kernel
theorem dX8_isClosed_22 : decode cX8_isClosed 22 = .ok (.iload_n 1, 1) := by decide +kernel
theorem dX8_isClosed_23 : decode cX8_isClosed 23 = .ok (.invokevirtual 135, 3) := by decide +kernel
theorem dX8_isClosed_26 : decode cX8_isClosed 26 = .ok (.ifCond .eq 53, 3) := by decide +kernel
theorem dX8_isClosed_29 : decode cX8_isClosed 29 = .ok (.iconst 1, 1) := by decide +kernel
theorem dX8_isClosed_30 : decode cX8_isClosed 30 = .ok (.istore_n 2, 1) := by decide +kernel
theorem dX8_isClosed_31 : decode cX8_isClosed 31 = .ok (.aload_n 0, 1) := by decide +kernel
theorem dX8_isClosed_32 : decode cX8_isClosed 32 = .ok (.iload_n 3, 1) := by decide +kernel
theorem dX8_isClosed_33 : decode cX8_isClosed 33 = .ok (.bipush 10, 2) := by decide +kernel
theorem dX8_isClosed_35 : decode cX8_isClosed 35 = .ok (.invokevirtual 74, 3) := by decide +kernel
theorem dX8_isClosed_38 : decode cX8_isClosed 38 = .ok (.iconst 2, 1) := by decide +kernel
theorem dX8_isClosed_39 : decode cX8_isClosed 39 = .ok (.if_icmp .ne 13, 3) := by decide +kernel
theorem dX8_isClosed_42 : decode cX8_isClosed 42 = .ok (.aload_n 0, 1) := by decide +kernel
theorem dX8_isClosed_43 : decode cX8_isClosed 43 = .ok (.iload_n 3, 1) := by decide +kernel
theorem dX8_isClosed_44 : decode cX8_isClosed 44 = .ok (.bipush 7, 2) := by decide +kernel
theorem dX8_isClosed_46 : decode cX8_isClosed 46 = .ok (.invokevirtual 74, 3) := by decide +kernel
theorem dX8_isClosed_49 : decode cX8_isClosed 49 = .ok (.goto 4, 3) := by decide +kernel
theorem dX8_isClosed_52 : decode cX8_isClosed 52 = .ok (.iconst (-1), 1) := by decide +kernel
theorem dX8_isClosed_53 : decode cX8_isClosed 53 = .ok (.istore 4, 2) := by decide +kernel
theorem dX8_isClosed_55 : decode cX8_isClosed 55 = .ok (.iload 4, 2) := by decide +kernel
theorem dX8_isClosed_57 : decode cX8_isClosed 57 = .ok (.iconst (-1), 1) := by decide +kernel
theorem dX8_isClosed_58 : decode cX8_isClosed 58 = .ok (.if_icmp .eq 21, 3) := by decide +kernel
theorem dX8_isClosed_61 : decode cX8_isClosed 61 = .ok (.iload 4, 2) := by decide +kernel
theorem dX8_isClosed_63 : decode cX8_isClosed 63 = .ok (.iload_n 1, 1) := by decide +kernel
theorem dX8_isClosed_64 : decode cX8_isClosed 64 = .ok (.if_icmp .eq 13, 3) := by decide +kernel
theorem dX8_isClosed_67 : decode cX8_isClosed 67 = .ok (.aload_n 0, 1) := by decide +kernel
theorem dX8_isClosed_68 : decode cX8_isClosed 68 = .ok (.iload_n 1, 1) := by decide +kernel
theorem dX8_isClosed_69 : decode cX8_isClosed 69 = .ok (.iload 4, 2) := by decide +kernel
theorem dX8_isClosed_71 : decode cX8_isClosed 71 = .ok (.invokevirtual 135, 3) := by decide +kernel
theorem dX8_isClosed_74 : decode cX8_isClosed 74 = .ok (.ifCond .eq 5, 3) := by decide +kernel
theorem dX8_isClosed_77 : decode cX8_isClosed 77 = .ok (.iconst 0, 1) := by decide +kernel
theorem dX8_isClosed_78 : decode cX8_isClosed 78 = .ok (.ireturn, 1) := by decide +kernel
theorem dX8_isClosed_79 : decode cX8_isClosed 79 = .ok (.iinc 3 1, 3) := by decide +kernel
theorem dX8_isClosed_82 : decode cX8_isClosed 82 = .ok (.goto (-78), 3) := by decide +kernel
theorem dX8_isClosed_85 : decode cX8_isClosed 85 = .ok (.iload_n 2, 1) := by decide +kernel
theorem dX8_isClosed_86 : decode cX8_isClosed 86 = .ok (.ireturn, 1) := by decide +kernel
theorem dX8_isAhead_0 : decode cX8_isAhead 0 = .ok (.iconst 0, 1) := by decide +kernel
theorem dX8_isAhead_1 : decode cX8_isAhead 1 = .ok (.istore_n 2, 1) := by decide +kernel
theorem dX8_isAhead_2 : decode cX8_isAhead 2 = .ok (.iload_n 2, 1) := by decide +kernel
theorem dX8_isAhead_3 : decode cX8_isAhead 3 = .ok (.aload_n 0, 1) := by decide +kernel
theorem dX8_isAhead_4 : decode cX8_isAhead 4 = .ok (.getfield 141, 3) := by decide +kernel
theorem dX8_isAhead_7 : decode cX8_isAhead 7 = .ok (.if_icmp .ge 19, 3) := by decide +kernel
theorem dX8_isAhead_10 : decode cX8_isAhead 10 = .ok (.aload_n 0, 1) := by decide +kernel
theorem dX8_isAhead_11 : decode cX8_isAhead 11 = .ok (.getfield 28, 3) := by decide +kernel
theorem dX8_isAhead_14 : decode cX8_isAhead 14 = .ok (.iload_n 2, 1) := by decide +kernel
theorem dX8_isAhead_15 : decode cX8_isAhead 15 = .ok (.iaload, 1) := by decide +kernel
theorem dX8_isAhead_16 : decode cX8_isAhead 16 = .ok (.iload_n 1, 1) := by decide +kernel
theorem dX8_isAhead_17 : decode cX8_isAhead 17 = .ok (.if_icmp .eq 9, 3) := by decide +kernel
theorem dX8_isAhead_20 : decode cX8_isAhead 20 = .ok (.iinc 2 1, 3) := by decide +kernel
theorem dX8_isAhead_23 : decode cX8_isAhead 23 = .ok (.goto (-21), 3) := by decide +kernel
theorem dX8_isAhead_26 : decode cX8_isAhead 26 = .ok (.iconst 0, 1) := by decide +kernel
theorem dX8_isAhead_27 : decode cX8_isAhead 27 = .ok (.istore_n 3, 1) := by decide +kernel
theorem dX8_isAhead_28 : decode cX8_isAhead 28 = .ok (.iload_n 2, 1) := by decide +kernel
theorem dX8_isAhead_29 : decode cX8_isAhead 29 = .ok (.iconst 1, 1) := by decide +kernel
theorem dX8_isAhead_30 : decode cX8_isAhead 30 = .ok (.iadd, 1) := by decide +kernel
theorem dX8_isAhead_31 : decode cX8_isAhead 31 = .ok (.istore 4, 2) := by decide +kernel
theorem dX8_isAhead_33 : decode cX8_isAhead 33 = .ok (.iload 4, 2) := by decide +kernel
theorem dX8_isAhead_35 : decode cX8_isAhead 35 = .ok (.aload_n 0, 1) := by decide +kernel
theorem dX8_isAhead_36 : decode cX8_isAhead 36 = .ok (.getfield 141, 3) := by decide +kernel
theorem dX8_isAhead_39 : decode cX8_isAhead 39 = .ok (.if_icmp .ge 34, 3) := by decide +kernel
theorem dX8_isAhead_42 : decode cX8_isAhead 42 = .ok (.iload_n 3, 1) := by decide +kernel
theorem dX8_isAhead_43 : decode cX8_isAhead 43 = .ok (.ifCond .ne 18, 3) := by decide +kernel
theorem dX8_isAhead_46 : decode cX8_isAhead 46 = .ok (.aload_n 0, 1) := by decide +kernel
theorem dX8_isAhead_47 : decode cX8_isAhead 47 = .ok (.iload_n 1, 1) := by decide +kernel
theorem dX8_isAhead_48 : decode cX8_isAhead 48 = .ok (.aload_n 0, 1) := by decide +kernel
theorem dX8_isAhead_49 : decode cX8_isAhead 49 = .ok (.getfield 28, 3) := by decide +kernel
theorem dX8_isAhead_52 : decode cX8_isAhead 52 = .ok (.iload 4, 2) := by decide +kernel
theorem dX8_isAhead_54 : decode cX8_isAhead 54 = .ok (.iaload, 1) := by decide +kernel
theorem dX8_isAhead_55 : decode cX8_isAhead 55 = .ok (.invokevirtual 153, 3) := by decide +kernel
theorem dX8_isAhead_58 : decode cX8_isAhead 58 = .ok (.ifCond .eq 7, 3) := by decide +kernel
theorem dX8_isAhead_61 : decode cX8_isAhead 61 = .ok (.iconst 1, 1) := by decide +kernel
theorem dX8_isAhead_62 : decode cX8_isAhead 62 = .ok (.goto 4, 3) := by decide +kernel
theorem dX8_isAhead_65 : decode cX8_isAhead 65 = .ok (.iconst 0, 1) := by decide +kernel
theorem dX8_isAhead_66 : decode cX8_isAhead 66 = .ok (.istore_n 3, 1) := by decide +kernel
theorem dX8_isAhead_67 : decode cX8_isAhead 67 = .ok (.iinc 4 1, 3) := by decide +kernel
theorem dX8_isAhead_70 : decode cX8_isAhead 70 = .ok (.goto (-37), 3) := by decide +kernel
theorem dX8_isAhead_73 : decode cX8_isAhead 73 = .ok (.iload_n 3, 1) := by decide +kernel
theorem dX8_isAhead_74 : decode cX8_isAhead 74 = .ok (.ireturn, 1) := by decide +kernel
theorem dX8_isWrong_0 : decode cX8_isWrong 0 = .ok (.aload_n 0, 1) := by decide +kernel
theorem dX8_isWrong_1 : decode cX8_isWrong 1 = .ok (.iload_n 1, 1) := by decide +kernel
theorem dX8_isWrong_2 : decode cX8_isWrong 2 = .ok (.bipush 10, 2) := by decide +kernel
theorem dX8_isWrong_4 : decode cX8_isWrong 4 = .ok (.invokevirtual 74, 3) := by decide +kernel
theorem dX8_isWrong_7 : decode cX8_isWrong 7 = .ok (.istore_n 3, 1) := by decide +kernel
theorem dX8_isWrong_8 : decode cX8_isWrong 8 = .ok (.iload_n 3, 1) := by decide +kernel
theorem dX8_isWrong_9 : decode cX8_isWrong 9 = .ok (.iconst 2, 1) := by decide +kernel
theorem dX8_isWrong_10 : decode cX8_isWrong 10 = .ok (.if_icmp .eq 8, 3) := by decide +kernel
theorem dX8_isWrong_13 : decode cX8_isWrong 13 = .ok (.iload_n 3, 1) := by decide +kernel
theorem dX8_isWrong_14 : decode cX8_isWrong 14 = .ok (.iconst 3, 1) := by decide +kernel
theorem dX8_isWrong_15 : decode cX8_isWrong 15 = .ok (.if_icmp .ne 7, 3) := by decide +kernel
theorem dX8_isWrong_18 : decode cX8_isWrong 18 = .ok (.iconst 1, 1) := by decide +kernel
theorem dX8_isWrong_19 : decode cX8_isWrong 19 = .ok (.goto 4, 3) := by decide +kernel
theorem dX8_isWrong_22 : decode cX8_isWrong 22 = .ok (.iconst 0, 1) := by decide +kernel
theorem dX8_isWrong_23 : decode cX8_isWrong 23 = .ok (.istore 4, 2) := by decide +kernel
theorem dX8_isWrong_25 : decode cX8_isWrong 25 = .ok (.iload_n 2, 1) := by decide +kernel
theorem dX8_isWrong_26 : decode cX8_isWrong 26 = .ok (.tableswitch 128 0 4 #[34, 59, 65, 103, 122], 34) := by decide +kernel
theorem dX8_isWrong_60 : decode cX8_isWrong 60 = .ok (.iload 4, 2) := by decide +kernel
theorem dX8_isWrong_62 : decode cX8_isWrong 62 = .ok (.ifCond .ne 8, 3) := by decide +kernel
theorem dX8_isWrong_65 : decode cX8_isWrong 65 = .ok (.iload_n 3, 1) := by decide +kernel
theorem dX8_isWrong_66 : decode cX8_isWrong 66 = .ok (.iconst 4, 1) := by decide +kernel
theorem dX8_isWrong_67 : decode cX8_isWrong 67 = .ok (.if_icmp .ne 16, 3) := by decide +kernel
theorem dX8_isWrong_70 : decode cX8_isWrong 70 = .ok (.aload_n 0, 1) := by decide +kernel
theorem dX8_isWrong_71 : decode cX8_isWrong 71 = .ok (.getfield 25, 3) := by decide +kernel
theorem dX8_isWrong_74 : decode cX8_isWrong 74 = .ok (.iload_n 1, 1) := by decide +kernel
theorem dX8_isWrong_75 : decode cX8_isWrong 75 = .ok (.iaload, 1) := by decide +kernel
theorem dX8_isWrong_76 : decode cX8_isWrong 76 = .ok (.ifCond .ne 7, 3) := by decide +kernel
theorem dX8_isWrong_79 : decode cX8_isWrong 79 = .ok (.iconst 1, 1) := by decide +kernel
theorem dX8_isWrong_80 : decode cX8_isWrong 80 = .ok (.goto 4, 3) := by decide +kernel
theorem dX8_isWrong_83 : decode cX8_isWrong 83 = .ok (.iconst 0, 1) := by decide +kernel
theorem dX8_isWrong_84 : decode cX8_isWrong 84 = .ok (.ireturn, 1) := by decide +kernel
theorem dX8_isWrong_85 : decode cX8_isWrong 85 = .ok (.aload_n 0, 1) := by decide +kernel
theorem dX8_isWrong_86 : decode cX8_isWrong 86 = .ok (.iload_n 1, 1) := by decide +kernel
theorem dX8_isWrong_87 : decode cX8_isWrong 87 = .ok (.invokevirtual 197, 3) := by decide +kernel
theorem dX8_isWrong_90 : decode cX8_isWrong 90 = .ok (.ireturn, 1) := by decide +kernel
theorem dX8_isWrong_91 : decode cX8_isWrong 91 = .ok (.iload_n 3, 1) := by decide +kernel
theorem dX8_isWrong_92 : decode cX8_isWrong 92 = .ok (.iconst 1, 1) := by decide +kernel
theorem dX8_isWrong_93 : decode cX8_isWrong 93 = .ok (.if_icmp .ne 14, 3) := by decide +kernel
theorem dX8_isWrong_96 : decode cX8_isWrong 96 = .ok (.aload_n 0, 1) := by decide +kernel
theorem dX8_isWrong_97 : decode cX8_isWrong 97 = .ok (.iload_n 1, 1) := by decide +kernel
theorem dX8_isWrong_98 : decode cX8_isWrong 98 = .ok (.invokevirtual 200, 3) := by decide +kernel
theorem dX8_isWrong_101 : decode cX8_isWrong 101 = .ok (.sipush 4500, 3) := by decide +kernel
theorem dX8_isWrong_104 : decode cX8_isWrong 104 = .ok (.if_icmp .lt 19, 3) := by decide +kernel
theorem dX8_isWrong_107 : decode cX8_isWrong 107 = .ok (.iload 4, 2) := by decide +kernel
theorem dX8_isWrong_109 : decode cX8_isWrong 109 = .ok (.ifCond .eq 18, 3) := by decide +kernel
theorem dX8_isWrong_112 : decode cX8_isWrong 112 = .ok (.aload_n 0, 1) := by decide +kernel
theorem dX8_isWrong_113 : decode cX8_isWrong 113 = .ok (.iload_n 1, 1) := by decide +kernel
theorem dX8_isWrong_114 : decode cX8_isWrong 114 = .ok (.invokevirtual 200, 3) := by decide +kernel
theorem dX8_isWrong_117 : decode cX8_isWrong 117 = .ok (.sipush 3000, 3) := by decide +kernel
theorem dX8_isWrong_120 : decode cX8_isWrong 120 = .ok (.if_icmp .ge 7, 3) := by decide +kernel
theorem dX8_isWrong_123 : decode cX8_isWrong 123 = .ok (.iconst 1, 1) := by decide +kernel
theorem dX8_isWrong_124 : decode cX8_isWrong 124 = .ok (.goto 4, 3) := by decide +kernel
theorem dX8_isWrong_127 : decode cX8_isWrong 127 = .ok (.iconst 0, 1) := by decide +kernel
theorem dX8_isWrong_128 : decode cX8_isWrong 128 = .ok (.ireturn, 1) := by decide +kernel
theorem dX8_isWrong_129 : decode cX8_isWrong 129 = .ok (.iload_n 3, 1) := by decide +kernel
theorem dX8_isWrong_130 : decode cX8_isWrong 130 = .ok (.iconst 5, 1) := by decide +kernel
theorem dX8_isWrong_131 : decode cX8_isWrong 131 = .ok (.if_icmp .ne 15, 3) := by decide +kernel
theorem dX8_isWrong_134 : decode cX8_isWrong 134 = .ok (.aload_n 0, 1) := by decide +kernel
theorem dX8_isWrong_135 : decode cX8_isWrong 135 = .ok (.iload_n 1, 1) := by decide +kernel
theorem dX8_isWrong_136 : decode cX8_isWrong 136 = .ok (.invokevirtual 203, 3) := by decide +kernel
theorem dX8_isWrong_139 : decode cX8_isWrong 139 = .ok (.ifCond .eq 7, 3) := by decide +kernel
theorem dX8_isWrong_142 : decode cX8_isWrong 142 = .ok (.iconst 1, 1) := by decide +kernel
theorem dX8_isWrong_143 : decode cX8_isWrong 143 = .ok (.goto 4, 3) := by decide +kernel
theorem dX8_isWrong_146 : decode cX8_isWrong 146 = .ok (.iconst 0, 1) := by decide +kernel
theorem dX8_isWrong_147 : decode cX8_isWrong 147 = .ok (.ireturn, 1) := by decide +kernel
theorem dX8_isWrong_148 : decode cX8_isWrong 148 = .ok (.aload_n 0, 1) := by decide +kernel
theorem dX8_isWrong_149 : decode cX8_isWrong 149 = .ok (.iload_n 1, 1) := by decide +kernel
theorem dX8_isWrong_150 : decode cX8_isWrong 150 = .ok (.invokevirtual 206, 3) := by decide +kernel
theorem dX8_isWrong_153 : decode cX8_isWrong 153 = .ok (.ireturn, 1) := by decide +kernel
theorem dX8_isWrong_154 : decode cX8_isWrong 154 = .ok (.aload_n 0, 1) := by decide +kernel
theorem dX8_isWrong_155 : decode cX8_isWrong 155 = .ok (.iload_n 1, 1) := by decide +kernel
theorem dX8_isWrong_156 : decode cX8_isWrong 156 = .ok (.bipush 8, 2) := by decide +kernel
theorem dX8_isWrong_158 : decode cX8_isWrong 158 = .ok (.invokevirtual 74, 3) := by decide +kernel
theorem dX8_isWrong_161 : decode cX8_isWrong 161 = .ok (.i2l, 1) := by decide +kernel
theorem dX8_isWrong_162 : decode cX8_isWrong 162 = .ok (.lconst 1, 1) := by decide +kernel
theorem dX8_isWrong_163 : decode cX8_isWrong 163 = .ok (.ldc2_w 209, 3) := by decide +kernel
theorem dX8_isWrong_166 : decode cX8_isWrong 166 = .ok (.invokestatic 64, 3) := by decide +kernel
theorem dX8_isWrong_169 : decode cX8_isWrong 169 = .ok (.ifCond .eq 17, 3) := by decide +kernel
theorem dX8_isWrong_172 : decode cX8_isWrong 172 = .ok (.aload_n 0, 1) := by decide +kernel
theorem dX8_isWrong_173 : decode cX8_isWrong 173 = .ok (.iload_n 1, 1) := by decide +kernel
theorem dX8_isWrong_174 : decode cX8_isWrong 174 = .ok (.bipush 9, 2) := by decide +kernel
theorem dX8_isWrong_176 : decode cX8_isWrong 176 = .ok (.invokevirtual 74, 3) := by decide +kernel
theorem dX8_isWrong_179 : decode cX8_isWrong 179 = .ok (.ifCond .ne 7, 3) := by decide +kernel
theorem dX8_isWrong_182 : decode cX8_isWrong 182 = .ok (.iconst 1, 1) := by decide +kernel
theorem dX8_isWrong_183 : decode cX8_isWrong 183 = .ok (.goto 4, 3) := by decide +kernel
theorem dX8_isWrong_186 : decode cX8_isWrong 186 = .ok (.iconst 0, 1) := by decide +kernel
theorem dX8_isWrong_187 : decode cX8_isWrong 187 = .ok (.ireturn, 1) := by decide +kernel
theorem dX8_findWrongs_0 : decode cX8_findWrongs 0 = .ok (.iconst 0, 1) := by decide +kernel
theorem dX8_findWrongs_1 : decode cX8_findWrongs 1 = .ok (.istore_n 1, 1) := by decide +kernel
theorem dX8_findWrongs_2 : decode cX8_findWrongs 2 = .ok (.iload_n 1, 1) := by decide +kernel
theorem dX8_findWrongs_3 : decode cX8_findWrongs 3 = .ok (.aload_n 0, 1) := by decide +kernel
theorem dX8_findWrongs_4 : decode cX8_findWrongs 4 = .ok (.getfield 57, 3) := by decide +kernel
theorem dX8_findWrongs_7 : decode cX8_findWrongs 7 = .ok (.if_icmp .ge 14, 3) := by decide +kernel
theorem dX8_findWrongs_10 : decode cX8_findWrongs 10 = .ok (.aload_n 0, 1) := by decide +kernel
theorem dX8_findWrongs_11 : decode cX8_findWrongs 11 = .ok (.iload_n 1, 1) := by decide +kernel
theorem dX8_findWrongs_12 : decode cX8_findWrongs 12 = .ok (.invokevirtual 138, 3) := by decide +kernel
theorem dX8_findWrongs_15 : decode cX8_findWrongs 15 = .ok (.iinc 1 1, 3) := by decide +kernel
theorem dX8_findWrongs_18 : decode cX8_findWrongs 18 = .ok (.goto (-16), 3) := by decide +kernel
theorem dX8_findWrongs_21 : decode cX8_findWrongs 21 = .ok (.aload_n 0, 1) := by decide +kernel
theorem dX8_findWrongs_22 : decode cX8_findWrongs 22 = .ok (.invokevirtual 144, 3) := by decide +kernel
theorem dX8_findWrongs_25 : decode cX8_findWrongs 25 = .ok (.aload_n 0, 1) := by decide +kernel
theorem dX8_findWrongs_26 : decode cX8_findWrongs 26 = .ok (.iconst 0, 1) := by decide +kernel
theorem dX8_findWrongs_27 : decode cX8_findWrongs 27 = .ok (.putfield 211, 3) := by decide +kernel
theorem dX8_findWrongs_30 : decode cX8_findWrongs 30 = .ok (.iconst 0, 1) := by decide +kernel
theorem dX8_findWrongs_31 : decode cX8_findWrongs 31 = .ok (.istore_n 1, 1) := by decide +kernel
theorem dX8_findWrongs_32 : decode cX8_findWrongs 32 = .ok (.iload_n 1, 1) := by decide +kernel
theorem dX8_findWrongs_33 : decode cX8_findWrongs 33 = .ok (.aload_n 0, 1) := by decide +kernel
theorem dX8_findWrongs_34 : decode cX8_findWrongs 34 = .ok (.getfield 57, 3) := by decide +kernel
theorem dX8_findWrongs_37 : decode cX8_findWrongs 37 = .ok (.if_icmp .ge 70, 3) := by decide +kernel
theorem dX8_findWrongs_40 : decode cX8_findWrongs 40 = .ok (.iconst 0, 1) := by decide +kernel
theorem dX8_findWrongs_41 : decode cX8_findWrongs 41 = .ok (.istore_n 2, 1) := by decide +kernel
theorem dX8_findWrongs_42 : decode cX8_findWrongs 42 = .ok (.iload_n 2, 1) := by decide +kernel
theorem dX8_findWrongs_43 : decode cX8_findWrongs 43 = .ok (.bipush 6, 2) := by decide +kernel
theorem dX8_findWrongs_45 : decode cX8_findWrongs 45 = .ok (.if_icmp .ge 56, 3) := by decide +kernel
theorem dX8_findWrongs_48 : decode cX8_findWrongs 48 = .ok (.aload_n 0, 1) := by decide +kernel
theorem dX8_findWrongs_49 : decode cX8_findWrongs 49 = .ok (.iload_n 1, 1) := by decide +kernel
theorem dX8_findWrongs_50 : decode cX8_findWrongs 50 = .ok (.invokevirtual 89, 3) := by decide +kernel
theorem dX8_findWrongs_53 : decode cX8_findWrongs 53 = .ok (.ifCond .eq 48, 3) := by decide +kernel
theorem dX8_findWrongs_56 : decode cX8_findWrongs 56 = .ok (.aload_n 0, 1) := by decide +kernel
theorem dX8_findWrongs_57 : decode cX8_findWrongs 57 = .ok (.iload_n 1, 1) := by decide +kernel
theorem dX8_findWrongs_58 : decode cX8_findWrongs 58 = .ok (.iload_n 2, 1) := by decide +kernel
theorem dX8_findWrongs_59 : decode cX8_findWrongs 59 = .ok (.invokevirtual 214, 3) := by decide +kernel
theorem dX8_findWrongs_62 : decode cX8_findWrongs 62 = .ok (.ifCond .eq 33, 3) := by decide +kernel
theorem dX8_findWrongs_65 : decode cX8_findWrongs 65 = .ok (.aload_n 0, 1) := by decide +kernel
theorem dX8_findWrongs_66 : decode cX8_findWrongs 66 = .ok (.getfield 43, 3) := by decide +kernel
theorem dX8_findWrongs_69 : decode cX8_findWrongs 69 = .ok (.aload_n 0, 1) := by decide +kernel
theorem dX8_findWrongs_70 : decode cX8_findWrongs 70 = .ok (.getfield 211, 3) := by decide +kernel
theorem dX8_findWrongs_73 : decode cX8_findWrongs 73 = .ok (.iload_n 1, 1) := by decide +kernel
theorem dX8_findWrongs_74 : decode cX8_findWrongs 74 = .ok (.iastore, 1) := by decide +kernel
theorem dX8_findWrongs_75 : decode cX8_findWrongs 75 = .ok (.aload_n 0, 1) := by decide +kernel
theorem dX8_findWrongs_76 : decode cX8_findWrongs 76 = .ok (.getfield 46, 3) := by decide +kernel
theorem dX8_findWrongs_79 : decode cX8_findWrongs 79 = .ok (.aload_n 0, 1) := by decide +kernel
theorem dX8_findWrongs_80 : decode cX8_findWrongs 80 = .ok (.getfield 211, 3) := by decide +kernel
theorem dX8_findWrongs_83 : decode cX8_findWrongs 83 = .ok (.iload_n 2, 1) := by decide +kernel
theorem dX8_findWrongs_84 : decode cX8_findWrongs 84 = .ok (.iastore, 1) := by decide +kernel
theorem dX8_findWrongs_85 : decode cX8_findWrongs 85 = .ok (.aload_n 0, 1) := by decide +kernel
theorem dX8_findWrongs_86 : decode cX8_findWrongs 86 = .ok (.dup, 1) := by decide +kernel
theorem dX8_findWrongs_87 : decode cX8_findWrongs 87 = .ok (.getfield 211, 3) := by decide +kernel
theorem dX8_findWrongs_90 : decode cX8_findWrongs 90 = .ok (.iconst 1, 1) := by decide +kernel
theorem dX8_findWrongs_91 : decode cX8_findWrongs 91 = .ok (.iadd, 1) := by decide +kernel
theorem dX8_findWrongs_92 : decode cX8_findWrongs 92 = .ok (.putfield 211, 3) := by decide +kernel
theorem dX8_findWrongs_95 : decode cX8_findWrongs 95 = .ok (.iinc 2 1, 3) := by decide +kernel
theorem dX8_findWrongs_98 : decode cX8_findWrongs 98 = .ok (.goto (-56), 3) := by decide +kernel
theorem dX8_findWrongs_101 : decode cX8_findWrongs 101 = .ok (.iinc 1 1, 3) := by decide +kernel
theorem dX8_findWrongs_104 : decode cX8_findWrongs 104 = .ok (.goto (-72), 3) := by decide +kernel
theorem dX8_findWrongs_107 : decode cX8_findWrongs 107 = .ok (.return_, 1) := by decide +kernel
theorem dX8_wrongs_0 : decode cX8_wrongs 0 = .ok (.aload_n 0, 1) := by decide +kernel
theorem dX8_wrongs_1 : decode cX8_wrongs 1 = .ok (.invokevirtual 217, 3) := by decide +kernel
theorem dX8_wrongs_4 : decode cX8_wrongs 4 = .ok (.aload_n 0, 1) := by decide +kernel
theorem dX8_wrongs_5 : decode cX8_wrongs 5 = .ok (.getfield 211, 3) := by decide +kernel
theorem dX8_wrongs_8 : decode cX8_wrongs 8 = .ok (.ireturn, 1) := by decide +kernel
theorem dX8_wrong_0 : decode cX8_wrong 0 = .ok (.iload_n 2, 1) := by decide +kernel
theorem dX8_wrong_1 : decode cX8_wrong 1 = .ok (.i2l, 1) := by decide +kernel
theorem dX8_wrong_2 : decode cX8_wrong 2 = .ok (.lconst 0, 1) := by decide +kernel
theorem dX8_wrong_3 : decode cX8_wrong 3 = .ok (.lconst 1, 1) := by decide +kernel
theorem dX8_wrong_4 : decode cX8_wrong 4 = .ok (.invokestatic 64, 3) := by decide +kernel
theorem dX8_wrong_7 : decode cX8_wrong 7 = .ok (.ifCond .ne 6, 3) := by decide +kernel
theorem dX8_wrong_10 : decode cX8_wrong 10 = .ok (.bipush (-102), 2) := by decide +kernel
theorem dX8_wrong_12 : decode cX8_wrong 12 = .ok (.ireturn, 1) := by decide +kernel
theorem dX8_wrong_13 : decode cX8_wrong 13 = .ok (.aload_n 0, 1) := by decide +kernel
theorem dX8_wrong_14 : decode cX8_wrong 14 = .ok (.invokevirtual 217, 3) := by decide +kernel
theorem dX8_wrong_17 : decode cX8_wrong 17 = .ok (.iload_n 1, 1) := by decide +kernel
theorem dX8_wrong_18 : decode cX8_wrong 18 = .ok (.i2l, 1) := by decide +kernel
theorem dX8_wrong_19 : decode cX8_wrong 19 = .ok (.lconst 0, 1) := by decide +kernel
theorem dX8_wrong_20 : decode cX8_wrong 20 = .ok (.aload_n 0, 1) := by decide +kernel
theorem dX8_wrong_21 : decode cX8_wrong 21 = .ok (.getfield 211, 3) := by decide +kernel
theorem dX8_wrong_24 : decode cX8_wrong 24 = .ok (.iconst 1, 1) := by decide +kernel
theorem dX8_wrong_25 : decode cX8_wrong 25 = .ok (.isub, 1) := by decide +kernel
theorem dX8_wrong_26 : decode cX8_wrong 26 = .ok (.i2l, 1) := by decide +kernel
theorem dX8_wrong_27 : decode cX8_wrong 27 = .ok (.invokestatic 64, 3) := by decide +kernel
theorem dX8_wrong_30 : decode cX8_wrong 30 = .ok (.ifCond .ne 7, 3) := by decide +kernel
theorem dX8_wrong_33 : decode cX8_wrong 33 = .ok (.iconst (-1), 1) := by decide +kernel
theorem dX8_wrong_34 : decode cX8_wrong 34 = .ok (.goto 22, 3) := by decide +kernel
theorem dX8_wrong_37 : decode cX8_wrong 37 = .ok (.iload_n 2, 1) := by decide +kernel
theorem dX8_wrong_38 : decode cX8_wrong 38 = .ok (.ifCond .ne 12, 3) := by decide +kernel
theorem dX8_wrong_41 : decode cX8_wrong 41 = .ok (.aload_n 0, 1) := by decide +kernel
theorem dX8_wrong_42 : decode cX8_wrong 42 = .ok (.getfield 43, 3) := by decide +kernel
theorem dX8_wrong_45 : decode cX8_wrong 45 = .ok (.iload_n 1, 1) := by decide +kernel
theorem dX8_wrong_46 : decode cX8_wrong 46 = .ok (.iaload, 1) := by decide +kernel
theorem dX8_wrong_47 : decode cX8_wrong 47 = .ok (.goto 9, 3) := by decide +kernel
theorem dX8_wrong_50 : decode cX8_wrong 50 = .ok (.aload_n 0, 1) := by decide +kernel
theorem dX8_wrong_51 : decode cX8_wrong 51 = .ok (.getfield 46, 3) := by decide +kernel
theorem dX8_wrong_54 : decode cX8_wrong 54 = .ok (.iload_n 1, 1) := by decide +kernel
theorem dX8_wrong_55 : decode cX8_wrong 55 = .ok (.iaload, 1) := by decide +kernel
theorem dX8_wrong_56 : decode cX8_wrong 56 = .ok (.ireturn, 1) := by decide +kernel
theorem dX8_mend_0 : decode cX8_mend 0 = .ok (.aload_n 0, 1) := by decide +kernel
theorem dX8_mend_1 : decode cX8_mend 1 = .ok (.invokevirtual 217, 3) := by decide +kernel
theorem dX8_mend_4 : decode cX8_mend 4 = .ok (.iload_n 1, 1) := by decide +kernel
theorem dX8_mend_5 : decode cX8_mend 5 = .ok (.i2l, 1) := by decide +kernel
theorem dX8_mend_6 : decode cX8_mend 6 = .ok (.lconst 0, 1) := by decide +kernel
theorem dX8_mend_7 : decode cX8_mend 7 = .ok (.aload_n 0, 1) := by decide +kernel
theorem dX8_mend_8 : decode cX8_mend 8 = .ok (.getfield 211, 3) := by decide +kernel
theorem dX8_mend_11 : decode cX8_mend 11 = .ok (.iconst 1, 1) := by decide +kernel
theorem dX8_mend_12 : decode cX8_mend 12 = .ok (.isub, 1) := by decide +kernel
theorem dX8_mend_13 : decode cX8_mend 13 = .ok (.i2l, 1) := by decide +kernel
theorem dX8_mend_14 : decode cX8_mend 14 = .ok (.invokestatic 64, 3) := by decide +kernel
theorem dX8_mend_17 : decode cX8_mend 17 = .ok (.ifCond .ne 6, 3) := by decide +kernel
theorem dX8_mend_20 : decode cX8_mend 20 = .ok (.bipush (-101), 2) := by decide +kernel
theorem dX8_mend_22 : decode cX8_mend 22 = .ok (.ireturn, 1) := by decide +kernel
theorem dX8_mend_23 : decode cX8_mend 23 = .ok (.aload_n 0, 1) := by decide +kernel
theorem dX8_mend_24 : decode cX8_mend 24 = .ok (.getfield 43, 3) := by decide +kernel
theorem dX8_mend_27 : decode cX8_mend 27 = .ok (.iload_n 1, 1) := by decide +kernel
theorem dX8_mend_28 : decode cX8_mend 28 = .ok (.iaload, 1) := by decide +kernel
theorem dX8_mend_29 : decode cX8_mend 29 = .ok (.istore_n 2, 1) := by decide +kernel
theorem dX8_mend_30 : decode cX8_mend 30 = .ok (.aload_n 0, 1) := by decide +kernel
theorem dX8_mend_31 : decode cX8_mend 31 = .ok (.getfield 46, 3) := by decide +kernel
theorem dX8_mend_34 : decode cX8_mend 34 = .ok (.iload_n 1, 1) := by decide +kernel
theorem dX8_mend_35 : decode cX8_mend 35 = .ok (.iaload, 1) := by decide +kernel
theorem dX8_mend_36 : decode cX8_mend 36 = .ok (.tableswitch 120 0 5 #[40, 40, 67, 120, 120, 109], 40) := by decide +kernel
theorem dX8_mend_76 : decode cX8_mend 76 = .ok (.aload_n 0, 1) := by decide +kernel
theorem dX8_mend_77 : decode cX8_mend 77 = .ok (.iload_n 2, 1) := by decide +kernel
theorem dX8_mend_78 : decode cX8_mend 78 = .ok (.iconst 3, 1) := by decide +kernel
theorem dX8_mend_79 : decode cX8_mend 79 = .ok (.iconst (-1), 1) := by decide +kernel
theorem dX8_mend_80 : decode cX8_mend 80 = .ok (.invokevirtual 60, 3) := by decide +kernel
theorem dX8_mend_83 : decode cX8_mend 83 = .ok (.aload_n 0, 1) := by decide +kernel
theorem dX8_mend_84 : decode cX8_mend 84 = .ok (.iload_n 2, 1) := by decide +kernel
theorem dX8_mend_85 : decode cX8_mend 85 = .ok (.iconst 4, 1) := by decide +kernel
theorem dX8_mend_86 : decode cX8_mend 86 = .ok (.iconst (-1), 1) := by decide +kernel
theorem dX8_mend_87 : decode cX8_mend 87 = .ok (.invokevirtual 60, 3) := by decide +kernel
theorem dX8_mend_90 : decode cX8_mend 90 = .ok (.aload_n 0, 1) := by decide +kernel
theorem dX8_mend_91 : decode cX8_mend 91 = .ok (.iload_n 2, 1) := by decide +kernel
theorem dX8_mend_92 : decode cX8_mend 92 = .ok (.iconst 1, 1) := by decide +kernel
theorem dX8_mend_93 : decode cX8_mend 93 = .ok (.ldc 220, 2) := by decide +kernel
theorem dX8_mend_95 : decode cX8_mend 95 = .ok (.iload_n 2, 1) := by decide +kernel
theorem dX8_mend_96 : decode cX8_mend 96 = .ok (.iadd, 1) := by decide +kernel
theorem dX8_mend_97 : decode cX8_mend 97 = .ok (.invokevirtual 60, 3) := by decide +kernel
theorem dX8_mend_100 : decode cX8_mend 100 = .ok (.goto 59, 3) := by decide +kernel
theorem dX8_mend_103 : decode cX8_mend 103 = .ok (.aload_n 0, 1) := by decide +kernel
theorem dX8_mend_104 : decode cX8_mend 104 = .ok (.iload_n 2, 1) := by decide +kernel
theorem dX8_mend_105 : decode cX8_mend 105 = .ok (.bipush 16, 2) := by decide +kernel
theorem dX8_mend_107 : decode cX8_mend 107 = .ok (.ldc 63, 2) := by decide +kernel
theorem dX8_mend_109 : decode cX8_mend 109 = .ok (.aload_n 0, 1) := by decide +kernel
theorem dX8_mend_110 : decode cX8_mend 110 = .ok (.iload_n 2, 1) := by decide +kernel
theorem dX8_mend_111 : decode cX8_mend 111 = .ok (.bipush 17, 2) := by decide +kernel
theorem dX8_mend_113 : decode cX8_mend 113 = .ok (.invokevirtual 74, 3) := by decide +kernel
theorem dX8_mend_116 : decode cX8_mend 116 = .ok (.invokestatic 125, 3) := by decide +kernel
theorem dX8_mend_119 : decode cX8_mend 119 = .ok (.iconst 0, 1) := by decide +kernel
theorem dX8_mend_120 : decode cX8_mend 120 = .ok (.aload_n 0, 1) := by decide +kernel
theorem dX8_mend_121 : decode cX8_mend 121 = .ok (.iload_n 2, 1) := by decide +kernel
theorem dX8_mend_122 : decode cX8_mend 122 = .ok (.bipush 17, 2) := by decide +kernel
theorem dX8_mend_124 : decode cX8_mend 124 = .ok (.invokevirtual 74, 3) := by decide +kernel
theorem dX8_mend_127 : decode cX8_mend 127 = .ok (.invokestatic 125, 3) := by decide +kernel
theorem dX8_mend_130 : decode cX8_mend 130 = .ok (.if_icmp .le 8, 3) := by decide +kernel
theorem dX8_mend_133 : decode cX8_mend 133 = .ok (.ldc 63, 2) := by decide +kernel
theorem dX8_mend_135 : decode cX8_mend 135 = .ok (.goto 4, 3) := by decide +kernel
theorem dX8_mend_138 : decode cX8_mend 138 = .ok (.iconst 0, 1) := by decide +kernel
theorem dX8_mend_139 : decode cX8_mend 139 = .ok (.invokevirtual 60, 3) := by decide +kernel
theorem dX8_mend_142 : decode cX8_mend 142 = .ok (.goto 17, 3) := by decide +kernel
theorem dX8_mend_145 : decode cX8_mend 145 = .ok (.aload_n 0, 1) := by decide +kernel
theorem dX8_mend_146 : decode cX8_mend 146 = .ok (.iload_n 2, 1) := by decide +kernel
theorem dX8_mend_147 : decode cX8_mend 147 = .ok (.bipush 9, 2) := by decide +kernel
theorem dX8_mend_149 : decode cX8_mend 149 = .ok (.iconst 1, 1) := by decide +kernel
theorem dX8_mend_150 : decode cX8_mend 150 = .ok (.invokevirtual 60, 3) := by decide +kernel
theorem dX8_mend_153 : decode cX8_mend 153 = .ok (.goto 6, 3) := by decide +kernel
theorem dX8_mend_156 : decode cX8_mend 156 = .ok (.bipush (-103), 2) := by decide +kernel
theorem dX8_mend_158 : decode cX8_mend 158 = .ok (.ireturn, 1) := by decide +kernel
theorem dX8_mend_159 : decode cX8_mend 159 = .ok (.aload_n 0, 1) := by decide +kernel
theorem dX8_mend_160 : decode cX8_mend 160 = .ok (.invokevirtual 221, 3) := by decide +kernel
theorem dX8_mend_163 : decode cX8_mend 163 = .ok (.ireturn, 1) := by decide +kernel
theorem dX8_count_0 : decode cX8_count 0 = .ok (.iconst 0, 1) := by decide +kernel
theorem dX8_count_1 : decode cX8_count 1 = .ok (.istore_n 2, 1) := by decide +kernel
theorem dX8_count_2 : decode cX8_count 2 = .ok (.iload_n 1, 1) := by decide +kernel
theorem dX8_count_3 : decode cX8_count 3 = .ok (.tableswitch 105 0 5 #[37, 42, 76, 86, 95, 100], 37) := by decide +kernel
theorem dX8_count_40 : decode cX8_count 40 = .ok (.aload_n 0, 1) := by decide +kernel
theorem dX8_count_41 : decode cX8_count 41 = .ok (.getfield 57, 3) := by decide +kernel
theorem dX8_count_44 : decode cX8_count 44 = .ok (.ireturn, 1) := by decide +kernel
theorem dX8_count_45 : decode cX8_count 45 = .ok (.iconst 0, 1) := by decide +kernel
theorem dX8_count_46 : decode cX8_count 46 = .ok (.istore_n 3, 1) := by decide +kernel
theorem dX8_count_47 : decode cX8_count 47 = .ok (.iload_n 3, 1) := by decide +kernel
theorem dX8_count_48 : decode cX8_count 48 = .ok (.aload_n 0, 1) := by decide +kernel
theorem dX8_count_49 : decode cX8_count 49 = .ok (.getfield 57, 3) := by decide +kernel
theorem dX8_count_52 : decode cX8_count 52 = .ok (.if_icmp .ge 25, 3) := by decide +kernel
theorem dX8_count_55 : decode cX8_count 55 = .ok (.iload_n 2, 1) := by decide +kernel
theorem dX8_count_56 : decode cX8_count 56 = .ok (.aload_n 0, 1) := by decide +kernel
theorem dX8_count_57 : decode cX8_count 57 = .ok (.iload_n 3, 1) := by decide +kernel
theorem dX8_count_58 : decode cX8_count 58 = .ok (.invokevirtual 89, 3) := by decide +kernel
theorem dX8_count_61 : decode cX8_count 61 = .ok (.ifCond .eq 7, 3) := by decide +kernel
theorem dX8_count_64 : decode cX8_count 64 = .ok (.iconst 1, 1) := by decide +kernel
theorem dX8_count_65 : decode cX8_count 65 = .ok (.goto 4, 3) := by decide +kernel
theorem dX8_count_68 : decode cX8_count 68 = .ok (.iconst 0, 1) := by decide +kernel
theorem dX8_count_69 : decode cX8_count 69 = .ok (.iadd, 1) := by decide +kernel
theorem dX8_count_70 : decode cX8_count 70 = .ok (.istore_n 2, 1) := by decide +kernel
theorem dX8_count_71 : decode cX8_count 71 = .ok (.iinc 3 1, 3) := by decide +kernel
theorem dX8_count_74 : decode cX8_count 74 = .ok (.goto (-27), 3) := by decide +kernel
theorem dX8_count_77 : decode cX8_count 77 = .ok (.iload_n 2, 1) := by decide +kernel
theorem dX8_count_78 : decode cX8_count 78 = .ok (.ireturn, 1) := by decide +kernel
theorem dX8_count_79 : decode cX8_count 79 = .ok (.aload_n 0, 1) := by decide +kernel
theorem dX8_count_80 : decode cX8_count 80 = .ok (.iconst (-1), 1) := by decide +kernel
theorem dX8_count_81 : decode cX8_count 81 = .ok (.invokevirtual 162, 3) := by decide +kernel
theorem dX8_count_84 : decode cX8_count 84 = .ok (.aload_n 0, 1) := by decide +kernel
theorem dX8_count_85 : decode cX8_count 85 = .ok (.getfield 156, 3) := by decide +kernel
theorem dX8_count_88 : decode cX8_count 88 = .ok (.ireturn, 1) := by decide +kernel
theorem dX8_count_89 : decode cX8_count 89 = .ok (.aload_n 0, 1) := by decide +kernel
theorem dX8_count_90 : decode cX8_count 90 = .ok (.invokevirtual 144, 3) := by decide +kernel
theorem dX8_count_93 : decode cX8_count 93 = .ok (.aload_n 0, 1) := by decide +kernel
theorem dX8_count_94 : decode cX8_count 94 = .ok (.getfield 141, 3) := by decide +kernel
theorem dX8_count_97 : decode cX8_count 97 = .ok (.ireturn, 1) := by decide +kernel
theorem dX8_count_98 : decode cX8_count 98 = .ok (.aload_n 0, 1) := by decide +kernel
theorem dX8_count_99 : decode cX8_count 99 = .ok (.getfield 92, 3) := by decide +kernel
theorem dX8_count_102 : decode cX8_count 102 = .ok (.ireturn, 1) := by decide +kernel
theorem dX8_count_103 : decode cX8_count 103 = .ok (.aload_n 0, 1) := by decide +kernel
theorem dX8_count_104 : decode cX8_count 104 = .ok (.invokevirtual 224, 3) := by decide +kernel
theorem dX8_count_107 : decode cX8_count 107 = .ok (.ireturn, 1) := by decide +kernel
theorem dX8_count_108 : decode cX8_count 108 = .ok (.bipush (-102), 2) := by decide +kernel
theorem dX8_count_110 : decode cX8_count 110 = .ok (.ireturn, 1) := by decide +kernel
theorem dX8_digest_0 : decode cX8_digest 0 = .ok (.ldc2_w 227, 3) := by decide +kernel
theorem dX8_digest_3 : decode cX8_digest 3 = .ok (.lstore_n 1, 1) := by decide +kernel
theorem dX8_digest_4 : decode cX8_digest 4 = .ok (.iconst 0, 1) := by decide +kernel
theorem dX8_digest_5 : decode cX8_digest 5 = .ok (.istore_n 3, 1) := by decide +kernel
theorem dX8_digest_6 : decode cX8_digest 6 = .ok (.iload_n 3, 1) := by decide +kernel
theorem dX8_digest_7 : decode cX8_digest 7 = .ok (.aload_n 0, 1) := by decide +kernel
theorem dX8_digest_8 : decode cX8_digest 8 = .ok (.getfield 57, 3) := by decide +kernel
theorem dX8_digest_11 : decode cX8_digest 11 = .ok (.if_icmp .ge 40, 3) := by decide +kernel
theorem dX8_digest_14 : decode cX8_digest 14 = .ok (.iconst 0, 1) := by decide +kernel
theorem dX8_digest_15 : decode cX8_digest 15 = .ok (.istore 4, 2) := by decide +kernel
theorem dX8_digest_17 : decode cX8_digest 17 = .ok (.iload 4, 2) := by decide +kernel
theorem dX8_digest_19 : decode cX8_digest 19 = .ok (.bipush 18, 2) := by decide +kernel
theorem dX8_digest_21 : decode cX8_digest 21 = .ok (.if_icmp .ge 24, 3) := by decide +kernel
theorem dX8_digest_24 : decode cX8_digest 24 = .ok (.ldc2_w 229, 3) := by decide +kernel
theorem dX8_digest_27 : decode cX8_digest 27 = .ok (.lload_n 1, 1) := by decide +kernel
theorem dX8_digest_28 : decode cX8_digest 28 = .ok (.lmul, 1) := by decide +kernel
theorem dX8_digest_29 : decode cX8_digest 29 = .ok (.aload_n 0, 1) := by decide +kernel
theorem dX8_digest_30 : decode cX8_digest 30 = .ok (.iload_n 3, 1) := by decide +kernel
theorem dX8_digest_31 : decode cX8_digest 31 = .ok (.iload 4, 2) := by decide +kernel
theorem dX8_digest_33 : decode cX8_digest 33 = .ok (.invokevirtual 74, 3) := by decide +kernel
theorem dX8_digest_36 : decode cX8_digest 36 = .ok (.i2l, 1) := by decide +kernel
theorem dX8_digest_37 : decode cX8_digest 37 = .ok (.ladd, 1) := by decide +kernel
theorem dX8_digest_38 : decode cX8_digest 38 = .ok (.lstore_n 1, 1) := by decide +kernel
theorem dX8_digest_39 : decode cX8_digest 39 = .ok (.iinc 4 1, 3) := by decide +kernel
theorem dX8_digest_42 : decode cX8_digest 42 = .ok (.goto (-25), 3) := by decide +kernel
theorem dX8_digest_45 : decode cX8_digest 45 = .ok (.iinc 3 1, 3) := by decide +kernel
theorem dX8_digest_48 : decode cX8_digest 48 = .ok (.goto (-42), 3) := by decide +kernel
theorem dX8_digest_51 : decode cX8_digest 51 = .ok (.ldc2_w 229, 3) := by decide +kernel
theorem dX8_digest_54 : decode cX8_digest 54 = .ok (.lload_n 1, 1) := by decide +kernel
theorem dX8_digest_55 : decode cX8_digest 55 = .ok (.lmul, 1) := by decide +kernel
theorem dX8_digest_56 : decode cX8_digest 56 = .ok (.aload_n 0, 1) := by decide +kernel
theorem dX8_digest_57 : decode cX8_digest 57 = .ok (.getfield 49, 3) := by decide +kernel
theorem dX8_digest_60 : decode cX8_digest 60 = .ok (.i2l, 1) := by decide +kernel
theorem dX8_digest_61 : decode cX8_digest 61 = .ok (.ladd, 1) := by decide +kernel
theorem dX8_digest_62 : decode cX8_digest 62 = .ok (.lstore_n 1, 1) := by decide +kernel
theorem dX8_digest_63 : decode cX8_digest 63 = .ok (.iconst 0, 1) := by decide +kernel
theorem dX8_digest_64 : decode cX8_digest 64 = .ok (.istore_n 3, 1) := by decide +kernel
theorem dX8_digest_65 : decode cX8_digest 65 = .ok (.iload_n 3, 1) := by decide +kernel
theorem dX8_digest_66 : decode cX8_digest 66 = .ok (.aload_n 0, 1) := by decide +kernel
theorem dX8_digest_67 : decode cX8_digest 67 = .ok (.getfield 92, 3) := by decide +kernel
theorem dX8_digest_70 : decode cX8_digest 70 = .ok (.if_icmp .ge 23, 3) := by decide +kernel
theorem dX8_digest_73 : decode cX8_digest 73 = .ok (.ldc2_w 229, 3) := by decide +kernel
theorem dX8_digest_76 : decode cX8_digest 76 = .ok (.lload_n 1, 1) := by decide +kernel
theorem dX8_digest_77 : decode cX8_digest 77 = .ok (.lmul, 1) := by decide +kernel
theorem dX8_digest_78 : decode cX8_digest 78 = .ok (.aload_n 0, 1) := by decide +kernel
theorem dX8_digest_79 : decode cX8_digest 79 = .ok (.getfield 13, 3) := by decide +kernel
theorem dX8_digest_82 : decode cX8_digest 82 = .ok (.iload_n 3, 1) := by decide +kernel
theorem dX8_digest_83 : decode cX8_digest 83 = .ok (.iaload, 1) := by decide +kernel
theorem dX8_digest_84 : decode cX8_digest 84 = .ok (.i2l, 1) := by decide +kernel
theorem dX8_digest_85 : decode cX8_digest 85 = .ok (.ladd, 1) := by decide +kernel
theorem dX8_digest_86 : decode cX8_digest 86 = .ok (.lstore_n 1, 1) := by decide +kernel
theorem dX8_digest_87 : decode cX8_digest 87 = .ok (.iinc 3 1, 3) := by decide +kernel
theorem dX8_digest_90 : decode cX8_digest 90 = .ok (.goto (-25), 3) := by decide +kernel
theorem dX8_digest_93 : decode cX8_digest 93 = .ok (.ldc2_w 229, 3) := by decide +kernel
theorem dX8_digest_96 : decode cX8_digest 96 = .ok (.lload_n 1, 1) := by decide +kernel
theorem dX8_digest_97 : decode cX8_digest 97 = .ok (.lmul, 1) := by decide +kernel
theorem dX8_digest_98 : decode cX8_digest 98 = .ok (.aload_n 0, 1) := by decide +kernel
theorem dX8_digest_99 : decode cX8_digest 99 = .ok (.invokevirtual 221, 3) := by decide +kernel
theorem dX8_digest_102 : decode cX8_digest 102 = .ok (.i2l, 1) := by decide +kernel
theorem dX8_digest_103 : decode cX8_digest 103 = .ok (.ladd, 1) := by decide +kernel
theorem dX8_digest_104 : decode cX8_digest 104 = .ok (.lreturn, 1) := by decide +kernel
end
section
theorem dL_law_0 : decode cL_law 0 = .ok (.new 7, 3) := by decide +kernel
theorem dL_law_3 : decode cL_law 3 = .ok (.dup, 1) := by decide +kernel
theorem dL_law_4 : decode cL_law 4 = .ok (.invokespecial 9, 3) := by decide +kernel
theorem dL_law_7 : decode cL_law 7 = .ok (.astore_n 1, 1) := by decide +kernel
theorem dL_law_8 : decode cL_law 8 = .ok (.new 10, 3) := by decide +kernel
theorem dL_law_11 : decode cL_law 11 = .ok (.dup, 1) := by decide +kernel
theorem dL_law_12 : decode cL_law 12 = .ok (.invokespecial 12, 3) := by decide +kernel
theorem dL_law_15 : decode cL_law 15 = .ok (.astore_n 2, 1) := by decide +kernel
theorem dL_law_16 : decode cL_law 16 = .ok (.iconst 0, 1) := by decide +kernel
theorem dL_law_17 : decode cL_law 17 = .ok (.istore_n 3, 1) := by decide +kernel
theorem dL_law_18 : decode cL_law 18 = .ok (.iload_n 3, 1) := by decide +kernel
theorem dL_law_19 : decode cL_law 19 = .ok (.aload_n 0, 1) := by decide +kernel
theorem dL_law_20 : decode cL_law 20 = .ok (.arraylength, 1) := by decide +kernel
theorem dL_law_21 : decode cL_law 21 = .ok (.bipush 6, 2) := by decide +kernel
theorem dL_law_23 : decode cL_law 23 = .ok (.isub, 1) := by decide +kernel
theorem dL_law_24 : decode cL_law 24 = .ok (.if_icmp .gt 719, 3) := by decide +kernel
theorem dL_law_27 : decode cL_law 27 = .ok (.aload_n 0, 1) := by decide +kernel
theorem dL_law_28 : decode cL_law 28 = .ok (.iload_n 3, 1) := by decide +kernel
theorem dL_law_29 : decode cL_law 29 = .ok (.iaload, 1) := by decide +kernel
theorem dL_law_30 : decode cL_law 30 = .ok (.bipush 31, 2) := by decide +kernel
theorem dL_law_32 : decode cL_law 32 = .ok (.iand, 1) := by decide +kernel
theorem dL_law_33 : decode cL_law 33 = .ok (.tableswitch 704 0 23 #[111, 144, 187, 220, 283, 326, 349, 372, 405, 428, 441, 464, 487, 500, 513, 526, 549, 572, 585, 598, 611, 644, 667, 690], 111) := by decide +kernel
theorem dL_law_144 : decode cL_law 144 = .ok (.aload_n 1, 1) := by decide +kernel
theorem dL_law_145 : decode cL_law 145 = .ok (.aload_n 0, 1) := by decide +kernel
theorem dL_law_146 : decode cL_law 146 = .ok (.iload_n 3, 1) := by decide +kernel
theorem dL_law_147 : decode cL_law 147 = .ok (.iconst 1, 1) := by decide +kernel
theorem dL_law_148 : decode cL_law 148 = .ok (.iadd, 1) := by decide +kernel
theorem dL_law_149 : decode cL_law 149 = .ok (.iaload, 1) := by decide +kernel
theorem dL_law_150 : decode cL_law 150 = .ok (.aload_n 0, 1) := by decide +kernel
theorem dL_law_151 : decode cL_law 151 = .ok (.iload_n 3, 1) := by decide +kernel
theorem dL_law_152 : decode cL_law 152 = .ok (.iconst 2, 1) := by decide +kernel
theorem dL_law_153 : decode cL_law 153 = .ok (.iadd, 1) := by decide +kernel
theorem dL_law_154 : decode cL_law 154 = .ok (.iaload, 1) := by decide +kernel
theorem dL_law_155 : decode cL_law 155 = .ok (.invokevirtual 13, 3) := by decide +kernel
theorem dL_law_158 : decode cL_law 158 = .ok (.aload_n 2, 1) := by decide +kernel
theorem dL_law_159 : decode cL_law 159 = .ok (.aload_n 0, 1) := by decide +kernel
theorem dL_law_160 : decode cL_law 160 = .ok (.iload_n 3, 1) := by decide +kernel
theorem dL_law_161 : decode cL_law 161 = .ok (.iconst 1, 1) := by decide +kernel
theorem dL_law_162 : decode cL_law 162 = .ok (.iadd, 1) := by decide +kernel
theorem dL_law_163 : decode cL_law 163 = .ok (.iaload, 1) := by decide +kernel
theorem dL_law_164 : decode cL_law 164 = .ok (.aload_n 0, 1) := by decide +kernel
theorem dL_law_165 : decode cL_law 165 = .ok (.iload_n 3, 1) := by decide +kernel
theorem dL_law_166 : decode cL_law 166 = .ok (.iconst 2, 1) := by decide +kernel
theorem dL_law_167 : decode cL_law 167 = .ok (.iadd, 1) := by decide +kernel
theorem dL_law_168 : decode cL_law 168 = .ok (.iaload, 1) := by decide +kernel
theorem dL_law_169 : decode cL_law 169 = .ok (.invokevirtual 17, 3) := by decide +kernel
theorem dL_law_172 : decode cL_law 172 = .ok (.if_icmp .eq 565, 3) := by decide +kernel
theorem dL_law_175 : decode cL_law 175 = .ok (.iconst 0, 1) := by decide +kernel
theorem dL_law_176 : decode cL_law 176 = .ok (.ireturn, 1) := by decide +kernel
theorem dL_law_177 : decode cL_law 177 = .ok (.aload_n 1, 1) := by decide +kernel
theorem dL_law_178 : decode cL_law 178 = .ok (.aload_n 0, 1) := by decide +kernel
theorem dL_law_179 : decode cL_law 179 = .ok (.iload_n 3, 1) := by decide +kernel
theorem dL_law_180 : decode cL_law 180 = .ok (.iconst 1, 1) := by decide +kernel
theorem dL_law_181 : decode cL_law 181 = .ok (.iadd, 1) := by decide +kernel
theorem dL_law_182 : decode cL_law 182 = .ok (.iaload, 1) := by decide +kernel
theorem dL_law_183 : decode cL_law 183 = .ok (.aload_n 0, 1) := by decide +kernel
theorem dL_law_184 : decode cL_law 184 = .ok (.iload_n 3, 1) := by decide +kernel
theorem dL_law_185 : decode cL_law 185 = .ok (.iconst 2, 1) := by decide +kernel
theorem dL_law_186 : decode cL_law 186 = .ok (.iadd, 1) := by decide +kernel
theorem dL_law_187 : decode cL_law 187 = .ok (.iaload, 1) := by decide +kernel
theorem dL_law_188 : decode cL_law 188 = .ok (.aload_n 0, 1) := by decide +kernel
theorem dL_law_189 : decode cL_law 189 = .ok (.iload_n 3, 1) := by decide +kernel
theorem dL_law_190 : decode cL_law 190 = .ok (.iconst 3, 1) := by decide +kernel
theorem dL_law_191 : decode cL_law 191 = .ok (.iadd, 1) := by decide +kernel
theorem dL_law_192 : decode cL_law 192 = .ok (.iaload, 1) := by decide +kernel
theorem dL_law_193 : decode cL_law 193 = .ok (.invokevirtual 18, 3) := by decide +kernel
theorem dL_law_196 : decode cL_law 196 = .ok (.aload_n 2, 1) := by decide +kernel
theorem dL_law_197 : decode cL_law 197 = .ok (.aload_n 0, 1) := by decide +kernel
theorem dL_law_198 : decode cL_law 198 = .ok (.iload_n 3, 1) := by decide +kernel
theorem dL_law_199 : decode cL_law 199 = .ok (.iconst 1, 1) := by decide +kernel
theorem dL_law_200 : decode cL_law 200 = .ok (.iadd, 1) := by decide +kernel
theorem dL_law_201 : decode cL_law 201 = .ok (.iaload, 1) := by decide +kernel
theorem dL_law_202 : decode cL_law 202 = .ok (.aload_n 0, 1) := by decide +kernel
theorem dL_law_203 : decode cL_law 203 = .ok (.iload_n 3, 1) := by decide +kernel
theorem dL_law_204 : decode cL_law 204 = .ok (.iconst 2, 1) := by decide +kernel
theorem dL_law_205 : decode cL_law 205 = .ok (.iadd, 1) := by decide +kernel
theorem dL_law_206 : decode cL_law 206 = .ok (.iaload, 1) := by decide +kernel
theorem dL_law_207 : decode cL_law 207 = .ok (.aload_n 0, 1) := by decide +kernel
theorem dL_law_208 : decode cL_law 208 = .ok (.iload_n 3, 1) := by decide +kernel
theorem dL_law_209 : decode cL_law 209 = .ok (.iconst 3, 1) := by decide +kernel
theorem dL_law_210 : decode cL_law 210 = .ok (.iadd, 1) := by decide +kernel
theorem dL_law_211 : decode cL_law 211 = .ok (.iaload, 1) := by decide +kernel
theorem dL_law_212 : decode cL_law 212 = .ok (.invokevirtual 22, 3) := by decide +kernel
theorem dL_law_215 : decode cL_law 215 = .ok (.if_icmp .eq 522, 3) := by decide +kernel
theorem dL_law_218 : decode cL_law 218 = .ok (.iconst 0, 1) := by decide +kernel
theorem dL_law_219 : decode cL_law 219 = .ok (.ireturn, 1) := by decide +kernel
theorem dL_law_220 : decode cL_law 220 = .ok (.aload_n 1, 1) := by decide +kernel
theorem dL_law_221 : decode cL_law 221 = .ok (.aload_n 0, 1) := by decide +kernel
theorem dL_law_222 : decode cL_law 222 = .ok (.iload_n 3, 1) := by decide +kernel
theorem dL_law_223 : decode cL_law 223 = .ok (.iconst 1, 1) := by decide +kernel
theorem dL_law_224 : decode cL_law 224 = .ok (.iadd, 1) := by decide +kernel
theorem dL_law_225 : decode cL_law 225 = .ok (.iaload, 1) := by decide +kernel
theorem dL_law_226 : decode cL_law 226 = .ok (.aload_n 0, 1) := by decide +kernel
theorem dL_law_227 : decode cL_law 227 = .ok (.iload_n 3, 1) := by decide +kernel
theorem dL_law_228 : decode cL_law 228 = .ok (.iconst 2, 1) := by decide +kernel
theorem dL_law_229 : decode cL_law 229 = .ok (.iadd, 1) := by decide +kernel
theorem dL_law_230 : decode cL_law 230 = .ok (.iaload, 1) := by decide +kernel
theorem dL_law_231 : decode cL_law 231 = .ok (.invokevirtual 23, 3) := by decide +kernel
theorem dL_law_234 : decode cL_law 234 = .ok (.aload_n 2, 1) := by decide +kernel
theorem dL_law_235 : decode cL_law 235 = .ok (.aload_n 0, 1) := by decide +kernel
theorem dL_law_236 : decode cL_law 236 = .ok (.iload_n 3, 1) := by decide +kernel
theorem dL_law_237 : decode cL_law 237 = .ok (.iconst 1, 1) := by decide +kernel
theorem dL_law_238 : decode cL_law 238 = .ok (.iadd, 1) := by decide +kernel
theorem dL_law_239 : decode cL_law 239 = .ok (.iaload, 1) := by decide +kernel
theorem dL_law_240 : decode cL_law 240 = .ok (.aload_n 0, 1) := by decide +kernel
theorem dL_law_241 : decode cL_law 241 = .ok (.iload_n 3, 1) := by decide +kernel
theorem dL_law_242 : decode cL_law 242 = .ok (.iconst 2, 1) := by decide +kernel
theorem dL_law_243 : decode cL_law 243 = .ok (.iadd, 1) := by decide +kernel
theorem dL_law_244 : decode cL_law 244 = .ok (.iaload, 1) := by decide +kernel
theorem dL_law_245 : decode cL_law 245 = .ok (.invokevirtual 26, 3) := by decide +kernel
theorem dL_law_248 : decode cL_law 248 = .ok (.if_icmp .eq 489, 3) := by decide +kernel
theorem dL_law_251 : decode cL_law 251 = .ok (.iconst 0, 1) := by decide +kernel
theorem dL_law_252 : decode cL_law 252 = .ok (.ireturn, 1) := by decide +kernel
theorem dL_law_253 : decode cL_law 253 = .ok (.aload_n 1, 1) := by decide +kernel
theorem dL_law_254 : decode cL_law 254 = .ok (.aload_n 0, 1) := by decide +kernel
theorem dL_law_255 : decode cL_law 255 = .ok (.iload_n 3, 1) := by decide +kernel
theorem dL_law_256 : decode cL_law 256 = .ok (.iconst 1, 1) := by decide +kernel
theorem dL_law_257 : decode cL_law 257 = .ok (.iadd, 1) := by decide +kernel
theorem dL_law_258 : decode cL_law 258 = .ok (.iaload, 1) := by decide +kernel
theorem dL_law_259 : decode cL_law 259 = .ok (.aload_n 0, 1) := by decide +kernel
theorem dL_law_260 : decode cL_law 260 = .ok (.iload_n 3, 1) := by decide +kernel
theorem dL_law_261 : decode cL_law 261 = .ok (.iconst 2, 1) := by decide +kernel
theorem dL_law_262 : decode cL_law 262 = .ok (.iadd, 1) := by decide +kernel
theorem dL_law_263 : decode cL_law 263 = .ok (.iaload, 1) := by decide +kernel
theorem dL_law_264 : decode cL_law 264 = .ok (.aload_n 0, 1) := by decide +kernel
theorem dL_law_265 : decode cL_law 265 = .ok (.iload_n 3, 1) := by decide +kernel
theorem dL_law_266 : decode cL_law 266 = .ok (.iconst 3, 1) := by decide +kernel
theorem dL_law_267 : decode cL_law 267 = .ok (.iadd, 1) := by decide +kernel
theorem dL_law_268 : decode cL_law 268 = .ok (.iaload, 1) := by decide +kernel
theorem dL_law_269 : decode cL_law 269 = .ok (.aload_n 0, 1) := by decide +kernel
theorem dL_law_270 : decode cL_law 270 = .ok (.iload_n 3, 1) := by decide +kernel
theorem dL_law_271 : decode cL_law 271 = .ok (.iconst 4, 1) := by decide +kernel
theorem dL_law_272 : decode cL_law 272 = .ok (.iadd, 1) := by decide +kernel
theorem dL_law_273 : decode cL_law 273 = .ok (.iaload, 1) := by decide +kernel
theorem dL_law_274 : decode cL_law 274 = .ok (.aload_n 0, 1) := by decide +kernel
theorem dL_law_275 : decode cL_law 275 = .ok (.iload_n 3, 1) := by decide +kernel
theorem dL_law_276 : decode cL_law 276 = .ok (.iconst 5, 1) := by decide +kernel
theorem dL_law_277 : decode cL_law 277 = .ok (.iadd, 1) := by decide +kernel
theorem dL_law_278 : decode cL_law 278 = .ok (.iaload, 1) := by decide +kernel
theorem dL_law_279 : decode cL_law 279 = .ok (.invokevirtual 27, 3) := by decide +kernel
theorem dL_law_282 : decode cL_law 282 = .ok (.aload_n 2, 1) := by decide +kernel
theorem dL_law_283 : decode cL_law 283 = .ok (.aload_n 0, 1) := by decide +kernel
theorem dL_law_284 : decode cL_law 284 = .ok (.iload_n 3, 1) := by decide +kernel
theorem dL_law_285 : decode cL_law 285 = .ok (.iconst 1, 1) := by decide +kernel
theorem dL_law_286 : decode cL_law 286 = .ok (.iadd, 1) := by decide +kernel
theorem dL_law_287 : decode cL_law 287 = .ok (.iaload, 1) := by decide +kernel
theorem dL_law_288 : decode cL_law 288 = .ok (.aload_n 0, 1) := by decide +kernel
theorem dL_law_289 : decode cL_law 289 = .ok (.iload_n 3, 1) := by decide +kernel
theorem dL_law_290 : decode cL_law 290 = .ok (.iconst 2, 1) := by decide +kernel
theorem dL_law_291 : decode cL_law 291 = .ok (.iadd, 1) := by decide +kernel
theorem dL_law_292 : decode cL_law 292 = .ok (.iaload, 1) := by decide +kernel
theorem dL_law_293 : decode cL_law 293 = .ok (.aload_n 0, 1) := by decide +kernel
theorem dL_law_294 : decode cL_law 294 = .ok (.iload_n 3, 1) := by decide +kernel
theorem dL_law_295 : decode cL_law 295 = .ok (.iconst 3, 1) := by decide +kernel
theorem dL_law_296 : decode cL_law 296 = .ok (.iadd, 1) := by decide +kernel
theorem dL_law_297 : decode cL_law 297 = .ok (.iaload, 1) := by decide +kernel
theorem dL_law_298 : decode cL_law 298 = .ok (.aload_n 0, 1) := by decide +kernel
theorem dL_law_299 : decode cL_law 299 = .ok (.iload_n 3, 1) := by decide +kernel
theorem dL_law_300 : decode cL_law 300 = .ok (.iconst 4, 1) := by decide +kernel
theorem dL_law_301 : decode cL_law 301 = .ok (.iadd, 1) := by decide +kernel
theorem dL_law_302 : decode cL_law 302 = .ok (.iaload, 1) := by decide +kernel
theorem dL_law_303 : decode cL_law 303 = .ok (.aload_n 0, 1) := by decide +kernel
theorem dL_law_304 : decode cL_law 304 = .ok (.iload_n 3, 1) := by decide +kernel
theorem dL_law_305 : decode cL_law 305 = .ok (.iconst 5, 1) := by decide +kernel
theorem dL_law_306 : decode cL_law 306 = .ok (.iadd, 1) := by decide +kernel
theorem dL_law_307 : decode cL_law 307 = .ok (.iaload, 1) := by decide +kernel
theorem dL_law_308 : decode cL_law 308 = .ok (.invokevirtual 31, 3) := by decide +kernel
theorem dL_law_311 : decode cL_law 311 = .ok (.if_icmp .eq 426, 3) := by decide +kernel
theorem dL_law_314 : decode cL_law 314 = .ok (.iconst 0, 1) := by decide +kernel
theorem dL_law_315 : decode cL_law 315 = .ok (.ireturn, 1) := by decide +kernel
theorem dL_law_316 : decode cL_law 316 = .ok (.aload_n 1, 1) := by decide +kernel
theorem dL_law_317 : decode cL_law 317 = .ok (.aload_n 0, 1) := by decide +kernel
theorem dL_law_318 : decode cL_law 318 = .ok (.iload_n 3, 1) := by decide +kernel
theorem dL_law_319 : decode cL_law 319 = .ok (.iconst 1, 1) := by decide +kernel
theorem dL_law_320 : decode cL_law 320 = .ok (.iadd, 1) := by decide +kernel
theorem dL_law_321 : decode cL_law 321 = .ok (.iaload, 1) := by decide +kernel
theorem dL_law_322 : decode cL_law 322 = .ok (.aload_n 0, 1) := by decide +kernel
theorem dL_law_323 : decode cL_law 323 = .ok (.iload_n 3, 1) := by decide +kernel
theorem dL_law_324 : decode cL_law 324 = .ok (.iconst 2, 1) := by decide +kernel
theorem dL_law_325 : decode cL_law 325 = .ok (.iadd, 1) := by decide +kernel
theorem dL_law_326 : decode cL_law 326 = .ok (.iaload, 1) := by decide +kernel
theorem dL_law_327 : decode cL_law 327 = .ok (.aload_n 0, 1) := by decide +kernel
theorem dL_law_328 : decode cL_law 328 = .ok (.iload_n 3, 1) := by decide +kernel
theorem dL_law_329 : decode cL_law 329 = .ok (.iconst 3, 1) := by decide +kernel
theorem dL_law_330 : decode cL_law 330 = .ok (.iadd, 1) := by decide +kernel
theorem dL_law_331 : decode cL_law 331 = .ok (.iaload, 1) := by decide +kernel
theorem dL_law_332 : decode cL_law 332 = .ok (.invokevirtual 32, 3) := by decide +kernel
theorem dL_law_335 : decode cL_law 335 = .ok (.aload_n 2, 1) := by decide +kernel
theorem dL_law_336 : decode cL_law 336 = .ok (.aload_n 0, 1) := by decide +kernel
theorem dL_law_337 : decode cL_law 337 = .ok (.iload_n 3, 1) := by decide +kernel
theorem dL_law_338 : decode cL_law 338 = .ok (.iconst 1, 1) := by decide +kernel
theorem dL_law_339 : decode cL_law 339 = .ok (.iadd, 1) := by decide +kernel
theorem dL_law_340 : decode cL_law 340 = .ok (.iaload, 1) := by decide +kernel
theorem dL_law_341 : decode cL_law 341 = .ok (.aload_n 0, 1) := by decide +kernel
theorem dL_law_342 : decode cL_law 342 = .ok (.iload_n 3, 1) := by decide +kernel
theorem dL_law_343 : decode cL_law 343 = .ok (.iconst 2, 1) := by decide +kernel
theorem dL_law_344 : decode cL_law 344 = .ok (.iadd, 1) := by decide +kernel
theorem dL_law_345 : decode cL_law 345 = .ok (.iaload, 1) := by decide +kernel
theorem dL_law_346 : decode cL_law 346 = .ok (.aload_n 0, 1) := by decide +kernel
theorem dL_law_347 : decode cL_law 347 = .ok (.iload_n 3, 1) := by decide +kernel
theorem dL_law_348 : decode cL_law 348 = .ok (.iconst 3, 1) := by decide +kernel
theorem dL_law_349 : decode cL_law 349 = .ok (.iadd, 1) := by decide +kernel
theorem dL_law_350 : decode cL_law 350 = .ok (.iaload, 1) := by decide +kernel
theorem dL_law_351 : decode cL_law 351 = .ok (.invokevirtual 35, 3) := by decide +kernel
theorem dL_law_354 : decode cL_law 354 = .ok (.if_icmp .eq 383, 3) := by decide +kernel
theorem dL_law_357 : decode cL_law 357 = .ok (.iconst 0, 1) := by decide +kernel
theorem dL_law_358 : decode cL_law 358 = .ok (.ireturn, 1) := by decide +kernel
theorem dL_law_359 : decode cL_law 359 = .ok (.aload_n 1, 1) := by decide +kernel
theorem dL_law_360 : decode cL_law 360 = .ok (.aload_n 0, 1) := by decide +kernel
theorem dL_law_361 : decode cL_law 361 = .ok (.iload_n 3, 1) := by decide +kernel
theorem dL_law_362 : decode cL_law 362 = .ok (.iconst 1, 1) := by decide +kernel
theorem dL_law_363 : decode cL_law 363 = .ok (.iadd, 1) := by decide +kernel
theorem dL_law_364 : decode cL_law 364 = .ok (.iaload, 1) := by decide +kernel
theorem dL_law_365 : decode cL_law 365 = .ok (.invokevirtual 36, 3) := by decide +kernel
theorem dL_law_368 : decode cL_law 368 = .ok (.aload_n 2, 1) := by decide +kernel
theorem dL_law_369 : decode cL_law 369 = .ok (.aload_n 0, 1) := by decide +kernel
theorem dL_law_370 : decode cL_law 370 = .ok (.iload_n 3, 1) := by decide +kernel
theorem dL_law_371 : decode cL_law 371 = .ok (.iconst 1, 1) := by decide +kernel
theorem dL_law_372 : decode cL_law 372 = .ok (.iadd, 1) := by decide +kernel
theorem dL_law_373 : decode cL_law 373 = .ok (.iaload, 1) := by decide +kernel
theorem dL_law_374 : decode cL_law 374 = .ok (.invokevirtual 40, 3) := by decide +kernel
theorem dL_law_377 : decode cL_law 377 = .ok (.if_icmp .eq 360, 3) := by decide +kernel
theorem dL_law_380 : decode cL_law 380 = .ok (.iconst 0, 1) := by decide +kernel
theorem dL_law_381 : decode cL_law 381 = .ok (.ireturn, 1) := by decide +kernel
theorem dL_law_382 : decode cL_law 382 = .ok (.aload_n 1, 1) := by decide +kernel
theorem dL_law_383 : decode cL_law 383 = .ok (.aload_n 0, 1) := by decide +kernel
theorem dL_law_384 : decode cL_law 384 = .ok (.iload_n 3, 1) := by decide +kernel
theorem dL_law_385 : decode cL_law 385 = .ok (.iconst 1, 1) := by decide +kernel
theorem dL_law_386 : decode cL_law 386 = .ok (.iadd, 1) := by decide +kernel
theorem dL_law_387 : decode cL_law 387 = .ok (.iaload, 1) := by decide +kernel
theorem dL_law_388 : decode cL_law 388 = .ok (.invokevirtual 41, 3) := by decide +kernel
theorem dL_law_391 : decode cL_law 391 = .ok (.aload_n 2, 1) := by decide +kernel
theorem dL_law_392 : decode cL_law 392 = .ok (.aload_n 0, 1) := by decide +kernel
theorem dL_law_393 : decode cL_law 393 = .ok (.iload_n 3, 1) := by decide +kernel
theorem dL_law_394 : decode cL_law 394 = .ok (.iconst 1, 1) := by decide +kernel
theorem dL_law_395 : decode cL_law 395 = .ok (.iadd, 1) := by decide +kernel
theorem dL_law_396 : decode cL_law 396 = .ok (.iaload, 1) := by decide +kernel
theorem dL_law_397 : decode cL_law 397 = .ok (.invokevirtual 44, 3) := by decide +kernel
theorem dL_law_400 : decode cL_law 400 = .ok (.if_icmp .eq 337, 3) := by decide +kernel
theorem dL_law_403 : decode cL_law 403 = .ok (.iconst 0, 1) := by decide +kernel
theorem dL_law_404 : decode cL_law 404 = .ok (.ireturn, 1) := by decide +kernel
theorem dL_law_405 : decode cL_law 405 = .ok (.aload_n 1, 1) := by decide +kernel
theorem dL_law_406 : decode cL_law 406 = .ok (.aload_n 0, 1) := by decide +kernel
theorem dL_law_407 : decode cL_law 407 = .ok (.iload_n 3, 1) := by decide +kernel
theorem dL_law_408 : decode cL_law 408 = .ok (.iconst 1, 1) := by decide +kernel
theorem dL_law_409 : decode cL_law 409 = .ok (.iadd, 1) := by decide +kernel
theorem dL_law_410 : decode cL_law 410 = .ok (.iaload, 1) := by decide +kernel
theorem dL_law_411 : decode cL_law 411 = .ok (.aload_n 0, 1) := by decide +kernel
theorem dL_law_412 : decode cL_law 412 = .ok (.iload_n 3, 1) := by decide +kernel
theorem dL_law_413 : decode cL_law 413 = .ok (.iconst 2, 1) := by decide +kernel
theorem dL_law_414 : decode cL_law 414 = .ok (.iadd, 1) := by decide +kernel
theorem dL_law_415 : decode cL_law 415 = .ok (.iaload, 1) := by decide +kernel
theorem dL_law_416 : decode cL_law 416 = .ok (.invokevirtual 45, 3) := by decide +kernel
theorem dL_law_419 : decode cL_law 419 = .ok (.aload_n 2, 1) := by decide +kernel
theorem dL_law_420 : decode cL_law 420 = .ok (.aload_n 0, 1) := by decide +kernel
theorem dL_law_421 : decode cL_law 421 = .ok (.iload_n 3, 1) := by decide +kernel
theorem dL_law_422 : decode cL_law 422 = .ok (.iconst 1, 1) := by decide +kernel
theorem dL_law_423 : decode cL_law 423 = .ok (.iadd, 1) := by decide +kernel
theorem dL_law_424 : decode cL_law 424 = .ok (.iaload, 1) := by decide +kernel
theorem dL_law_425 : decode cL_law 425 = .ok (.aload_n 0, 1) := by decide +kernel
theorem dL_law_426 : decode cL_law 426 = .ok (.iload_n 3, 1) := by decide +kernel
theorem dL_law_427 : decode cL_law 427 = .ok (.iconst 2, 1) := by decide +kernel
theorem dL_law_428 : decode cL_law 428 = .ok (.iadd, 1) := by decide +kernel
theorem dL_law_429 : decode cL_law 429 = .ok (.iaload, 1) := by decide +kernel
theorem dL_law_430 : decode cL_law 430 = .ok (.invokevirtual 48, 3) := by decide +kernel
theorem dL_law_433 : decode cL_law 433 = .ok (.if_icmp .eq 304, 3) := by decide +kernel
theorem dL_law_436 : decode cL_law 436 = .ok (.iconst 0, 1) := by decide +kernel
theorem dL_law_437 : decode cL_law 437 = .ok (.ireturn, 1) := by decide +kernel
theorem dL_law_438 : decode cL_law 438 = .ok (.aload_n 1, 1) := by decide +kernel
theorem dL_law_439 : decode cL_law 439 = .ok (.aload_n 0, 1) := by decide +kernel
theorem dL_law_440 : decode cL_law 440 = .ok (.iload_n 3, 1) := by decide +kernel
theorem dL_law_441 : decode cL_law 441 = .ok (.iconst 1, 1) := by decide +kernel
theorem dL_law_442 : decode cL_law 442 = .ok (.iadd, 1) := by decide +kernel
theorem dL_law_443 : decode cL_law 443 = .ok (.iaload, 1) := by decide +kernel
theorem dL_law_444 : decode cL_law 444 = .ok (.invokevirtual 49, 3) := by decide +kernel
theorem dL_law_447 : decode cL_law 447 = .ok (.aload_n 2, 1) := by decide +kernel
theorem dL_law_448 : decode cL_law 448 = .ok (.aload_n 0, 1) := by decide +kernel
theorem dL_law_449 : decode cL_law 449 = .ok (.iload_n 3, 1) := by decide +kernel
theorem dL_law_450 : decode cL_law 450 = .ok (.iconst 1, 1) := by decide +kernel
theorem dL_law_451 : decode cL_law 451 = .ok (.iadd, 1) := by decide +kernel
theorem dL_law_452 : decode cL_law 452 = .ok (.iaload, 1) := by decide +kernel
theorem dL_law_453 : decode cL_law 453 = .ok (.invokevirtual 52, 3) := by decide +kernel
theorem dL_law_456 : decode cL_law 456 = .ok (.if_icmp .eq 281, 3) := by decide +kernel
theorem dL_law_459 : decode cL_law 459 = .ok (.iconst 0, 1) := by decide +kernel
theorem dL_law_460 : decode cL_law 460 = .ok (.ireturn, 1) := by decide +kernel
theorem dL_law_461 : decode cL_law 461 = .ok (.aload_n 1, 1) := by decide +kernel
theorem dL_law_462 : decode cL_law 462 = .ok (.invokevirtual 53, 3) := by decide +kernel
theorem dL_law_465 : decode cL_law 465 = .ok (.aload_n 2, 1) := by decide +kernel
theorem dL_law_466 : decode cL_law 466 = .ok (.invokevirtual 57, 3) := by decide +kernel
theorem dL_law_469 : decode cL_law 469 = .ok (.if_icmp .eq 268, 3) := by decide +kernel
theorem dL_law_472 : decode cL_law 472 = .ok (.iconst 0, 1) := by decide +kernel
theorem dL_law_473 : decode cL_law 473 = .ok (.ireturn, 1) := by decide +kernel
theorem dL_law_474 : decode cL_law 474 = .ok (.aload_n 1, 1) := by decide +kernel
theorem dL_law_475 : decode cL_law 475 = .ok (.aload_n 0, 1) := by decide +kernel
theorem dL_law_476 : decode cL_law 476 = .ok (.iload_n 3, 1) := by decide +kernel
theorem dL_law_477 : decode cL_law 477 = .ok (.iconst 1, 1) := by decide +kernel
theorem dL_law_478 : decode cL_law 478 = .ok (.iadd, 1) := by decide +kernel
theorem dL_law_479 : decode cL_law 479 = .ok (.iaload, 1) := by decide +kernel
theorem dL_law_480 : decode cL_law 480 = .ok (.invokevirtual 58, 3) := by decide +kernel
theorem dL_law_483 : decode cL_law 483 = .ok (.aload_n 2, 1) := by decide +kernel
theorem dL_law_484 : decode cL_law 484 = .ok (.aload_n 0, 1) := by decide +kernel
theorem dL_law_485 : decode cL_law 485 = .ok (.iload_n 3, 1) := by decide +kernel
theorem dL_law_486 : decode cL_law 486 = .ok (.iconst 1, 1) := by decide +kernel
theorem dL_law_487 : decode cL_law 487 = .ok (.iadd, 1) := by decide +kernel
theorem dL_law_488 : decode cL_law 488 = .ok (.iaload, 1) := by decide +kernel
theorem dL_law_489 : decode cL_law 489 = .ok (.invokevirtual 61, 3) := by decide +kernel
theorem dL_law_492 : decode cL_law 492 = .ok (.if_icmp .eq 245, 3) := by decide +kernel
theorem dL_law_495 : decode cL_law 495 = .ok (.iconst 0, 1) := by decide +kernel
theorem dL_law_496 : decode cL_law 496 = .ok (.ireturn, 1) := by decide +kernel
theorem dL_law_497 : decode cL_law 497 = .ok (.aload_n 1, 1) := by decide +kernel
theorem dL_law_498 : decode cL_law 498 = .ok (.aload_n 0, 1) := by decide +kernel
theorem dL_law_499 : decode cL_law 499 = .ok (.iload_n 3, 1) := by decide +kernel
theorem dL_law_500 : decode cL_law 500 = .ok (.iconst 1, 1) := by decide +kernel
theorem dL_law_501 : decode cL_law 501 = .ok (.iadd, 1) := by decide +kernel
theorem dL_law_502 : decode cL_law 502 = .ok (.iaload, 1) := by decide +kernel
theorem dL_law_503 : decode cL_law 503 = .ok (.invokevirtual 62, 3) := by decide +kernel
theorem dL_law_506 : decode cL_law 506 = .ok (.aload_n 2, 1) := by decide +kernel
theorem dL_law_507 : decode cL_law 507 = .ok (.aload_n 0, 1) := by decide +kernel
theorem dL_law_508 : decode cL_law 508 = .ok (.iload_n 3, 1) := by decide +kernel
theorem dL_law_509 : decode cL_law 509 = .ok (.iconst 1, 1) := by decide +kernel
theorem dL_law_510 : decode cL_law 510 = .ok (.iadd, 1) := by decide +kernel
theorem dL_law_511 : decode cL_law 511 = .ok (.iaload, 1) := by decide +kernel
theorem dL_law_512 : decode cL_law 512 = .ok (.invokevirtual 65, 3) := by decide +kernel
theorem dL_law_515 : decode cL_law 515 = .ok (.if_icmp .eq 222, 3) := by decide +kernel
theorem dL_law_518 : decode cL_law 518 = .ok (.iconst 0, 1) := by decide +kernel
theorem dL_law_519 : decode cL_law 519 = .ok (.ireturn, 1) := by decide +kernel
theorem dL_law_520 : decode cL_law 520 = .ok (.aload_n 1, 1) := by decide +kernel
theorem dL_law_521 : decode cL_law 521 = .ok (.invokevirtual 66, 3) := by decide +kernel
theorem dL_law_524 : decode cL_law 524 = .ok (.aload_n 2, 1) := by decide +kernel
theorem dL_law_525 : decode cL_law 525 = .ok (.invokevirtual 69, 3) := by decide +kernel
theorem dL_law_528 : decode cL_law 528 = .ok (.if_icmp .eq 209, 3) := by decide +kernel
theorem dL_law_531 : decode cL_law 531 = .ok (.iconst 0, 1) := by decide +kernel
theorem dL_law_532 : decode cL_law 532 = .ok (.ireturn, 1) := by decide +kernel
theorem dL_law_533 : decode cL_law 533 = .ok (.aload_n 1, 1) := by decide +kernel
theorem dL_law_534 : decode cL_law 534 = .ok (.invokevirtual 70, 3) := by decide +kernel
theorem dL_law_537 : decode cL_law 537 = .ok (.aload_n 2, 1) := by decide +kernel
theorem dL_law_538 : decode cL_law 538 = .ok (.invokevirtual 73, 3) := by decide +kernel
theorem dL_law_541 : decode cL_law 541 = .ok (.if_icmp .eq 196, 3) := by decide +kernel
theorem dL_law_544 : decode cL_law 544 = .ok (.iconst 0, 1) := by decide +kernel
theorem dL_law_545 : decode cL_law 545 = .ok (.ireturn, 1) := by decide +kernel
theorem dL_law_546 : decode cL_law 546 = .ok (.aload_n 1, 1) := by decide +kernel
theorem dL_law_547 : decode cL_law 547 = .ok (.invokevirtual 74, 3) := by decide +kernel
theorem dL_law_550 : decode cL_law 550 = .ok (.aload_n 2, 1) := by decide +kernel
theorem dL_law_551 : decode cL_law 551 = .ok (.invokevirtual 77, 3) := by decide +kernel
theorem dL_law_554 : decode cL_law 554 = .ok (.if_icmp .eq 183, 3) := by decide +kernel
theorem dL_law_557 : decode cL_law 557 = .ok (.iconst 0, 1) := by decide +kernel
theorem dL_law_558 : decode cL_law 558 = .ok (.ireturn, 1) := by decide +kernel
theorem dL_law_559 : decode cL_law 559 = .ok (.aload_n 1, 1) := by decide +kernel
theorem dL_law_560 : decode cL_law 560 = .ok (.aload_n 0, 1) := by decide +kernel
theorem dL_law_561 : decode cL_law 561 = .ok (.iload_n 3, 1) := by decide +kernel
theorem dL_law_562 : decode cL_law 562 = .ok (.iconst 1, 1) := by decide +kernel
theorem dL_law_563 : decode cL_law 563 = .ok (.iadd, 1) := by decide +kernel
theorem dL_law_564 : decode cL_law 564 = .ok (.iaload, 1) := by decide +kernel
theorem dL_law_565 : decode cL_law 565 = .ok (.invokevirtual 78, 3) := by decide +kernel
theorem dL_law_568 : decode cL_law 568 = .ok (.aload_n 2, 1) := by decide +kernel
theorem dL_law_569 : decode cL_law 569 = .ok (.aload_n 0, 1) := by decide +kernel
theorem dL_law_570 : decode cL_law 570 = .ok (.iload_n 3, 1) := by decide +kernel
theorem dL_law_571 : decode cL_law 571 = .ok (.iconst 1, 1) := by decide +kernel
theorem dL_law_572 : decode cL_law 572 = .ok (.iadd, 1) := by decide +kernel
theorem dL_law_573 : decode cL_law 573 = .ok (.iaload, 1) := by decide +kernel
theorem dL_law_574 : decode cL_law 574 = .ok (.invokevirtual 81, 3) := by decide +kernel
theorem dL_law_577 : decode cL_law 577 = .ok (.if_icmp .eq 160, 3) := by decide +kernel
theorem dL_law_580 : decode cL_law 580 = .ok (.iconst 0, 1) := by decide +kernel
theorem dL_law_581 : decode cL_law 581 = .ok (.ireturn, 1) := by decide +kernel
theorem dL_law_582 : decode cL_law 582 = .ok (.aload_n 1, 1) := by decide +kernel
theorem dL_law_583 : decode cL_law 583 = .ok (.aload_n 0, 1) := by decide +kernel
theorem dL_law_584 : decode cL_law 584 = .ok (.iload_n 3, 1) := by decide +kernel
theorem dL_law_585 : decode cL_law 585 = .ok (.iconst 1, 1) := by decide +kernel
theorem dL_law_586 : decode cL_law 586 = .ok (.iadd, 1) := by decide +kernel
theorem dL_law_587 : decode cL_law 587 = .ok (.iaload, 1) := by decide +kernel
theorem dL_law_588 : decode cL_law 588 = .ok (.invokevirtual 82, 3) := by decide +kernel
theorem dL_law_591 : decode cL_law 591 = .ok (.aload_n 2, 1) := by decide +kernel
theorem dL_law_592 : decode cL_law 592 = .ok (.aload_n 0, 1) := by decide +kernel
theorem dL_law_593 : decode cL_law 593 = .ok (.iload_n 3, 1) := by decide +kernel
theorem dL_law_594 : decode cL_law 594 = .ok (.iconst 1, 1) := by decide +kernel
theorem dL_law_595 : decode cL_law 595 = .ok (.iadd, 1) := by decide +kernel
theorem dL_law_596 : decode cL_law 596 = .ok (.iaload, 1) := by decide +kernel
theorem dL_law_597 : decode cL_law 597 = .ok (.invokevirtual 85, 3) := by decide +kernel
theorem dL_law_600 : decode cL_law 600 = .ok (.if_icmp .eq 137, 3) := by decide +kernel
theorem dL_law_603 : decode cL_law 603 = .ok (.iconst 0, 1) := by decide +kernel
theorem dL_law_604 : decode cL_law 604 = .ok (.ireturn, 1) := by decide +kernel
theorem dL_law_605 : decode cL_law 605 = .ok (.aload_n 1, 1) := by decide +kernel
theorem dL_law_606 : decode cL_law 606 = .ok (.invokevirtual 86, 3) := by decide +kernel
theorem dL_law_609 : decode cL_law 609 = .ok (.aload_n 2, 1) := by decide +kernel
theorem dL_law_610 : decode cL_law 610 = .ok (.invokevirtual 89, 3) := by decide +kernel
theorem dL_law_613 : decode cL_law 613 = .ok (.if_icmp .eq 124, 3) := by decide +kernel
theorem dL_law_616 : decode cL_law 616 = .ok (.iconst 0, 1) := by decide +kernel
theorem dL_law_617 : decode cL_law 617 = .ok (.ireturn, 1) := by decide +kernel
theorem dL_law_618 : decode cL_law 618 = .ok (.aload_n 1, 1) := by decide +kernel
theorem dL_law_619 : decode cL_law 619 = .ok (.invokevirtual 90, 3) := by decide +kernel
theorem dL_law_622 : decode cL_law 622 = .ok (.aload_n 2, 1) := by decide +kernel
theorem dL_law_623 : decode cL_law 623 = .ok (.invokevirtual 93, 3) := by decide +kernel
theorem dL_law_626 : decode cL_law 626 = .ok (.if_icmp .eq 111, 3) := by decide +kernel
theorem dL_law_629 : decode cL_law 629 = .ok (.iconst 0, 1) := by decide +kernel
theorem dL_law_630 : decode cL_law 630 = .ok (.ireturn, 1) := by decide +kernel
theorem dL_law_631 : decode cL_law 631 = .ok (.aload_n 1, 1) := by decide +kernel
theorem dL_law_632 : decode cL_law 632 = .ok (.invokevirtual 94, 3) := by decide +kernel
theorem dL_law_635 : decode cL_law 635 = .ok (.aload_n 2, 1) := by decide +kernel
theorem dL_law_636 : decode cL_law 636 = .ok (.invokevirtual 97, 3) := by decide +kernel
theorem dL_law_639 : decode cL_law 639 = .ok (.if_icmp .eq 98, 3) := by decide +kernel
theorem dL_law_642 : decode cL_law 642 = .ok (.iconst 0, 1) := by decide +kernel
theorem dL_law_643 : decode cL_law 643 = .ok (.ireturn, 1) := by decide +kernel
theorem dL_law_644 : decode cL_law 644 = .ok (.aload_n 1, 1) := by decide +kernel
theorem dL_law_645 : decode cL_law 645 = .ok (.aload_n 0, 1) := by decide +kernel
theorem dL_law_646 : decode cL_law 646 = .ok (.iload_n 3, 1) := by decide +kernel
theorem dL_law_647 : decode cL_law 647 = .ok (.iconst 1, 1) := by decide +kernel
theorem dL_law_648 : decode cL_law 648 = .ok (.iadd, 1) := by decide +kernel
theorem dL_law_649 : decode cL_law 649 = .ok (.iaload, 1) := by decide +kernel
theorem dL_law_650 : decode cL_law 650 = .ok (.aload_n 0, 1) := by decide +kernel
theorem dL_law_651 : decode cL_law 651 = .ok (.iload_n 3, 1) := by decide +kernel
theorem dL_law_652 : decode cL_law 652 = .ok (.iconst 2, 1) := by decide +kernel
theorem dL_law_653 : decode cL_law 653 = .ok (.iadd, 1) := by decide +kernel
theorem dL_law_654 : decode cL_law 654 = .ok (.iaload, 1) := by decide +kernel
theorem dL_law_655 : decode cL_law 655 = .ok (.invokevirtual 98, 3) := by decide +kernel
theorem dL_law_658 : decode cL_law 658 = .ok (.aload_n 2, 1) := by decide +kernel
theorem dL_law_659 : decode cL_law 659 = .ok (.aload_n 0, 1) := by decide +kernel
theorem dL_law_660 : decode cL_law 660 = .ok (.iload_n 3, 1) := by decide +kernel
theorem dL_law_661 : decode cL_law 661 = .ok (.iconst 1, 1) := by decide +kernel
theorem dL_law_662 : decode cL_law 662 = .ok (.iadd, 1) := by decide +kernel
theorem dL_law_663 : decode cL_law 663 = .ok (.iaload, 1) := by decide +kernel
theorem dL_law_664 : decode cL_law 664 = .ok (.aload_n 0, 1) := by decide +kernel
theorem dL_law_665 : decode cL_law 665 = .ok (.iload_n 3, 1) := by decide +kernel
theorem dL_law_666 : decode cL_law 666 = .ok (.iconst 2, 1) := by decide +kernel
theorem dL_law_667 : decode cL_law 667 = .ok (.iadd, 1) := by decide +kernel
theorem dL_law_668 : decode cL_law 668 = .ok (.iaload, 1) := by decide +kernel
theorem dL_law_669 : decode cL_law 669 = .ok (.invokevirtual 101, 3) := by decide +kernel
theorem dL_law_672 : decode cL_law 672 = .ok (.if_icmp .eq 65, 3) := by decide +kernel
theorem dL_law_675 : decode cL_law 675 = .ok (.iconst 0, 1) := by decide +kernel
theorem dL_law_676 : decode cL_law 676 = .ok (.ireturn, 1) := by decide +kernel
theorem dL_law_677 : decode cL_law 677 = .ok (.aload_n 1, 1) := by decide +kernel
theorem dL_law_678 : decode cL_law 678 = .ok (.aload_n 0, 1) := by decide +kernel
theorem dL_law_679 : decode cL_law 679 = .ok (.iload_n 3, 1) := by decide +kernel
theorem dL_law_680 : decode cL_law 680 = .ok (.iconst 1, 1) := by decide +kernel
theorem dL_law_681 : decode cL_law 681 = .ok (.iadd, 1) := by decide +kernel
theorem dL_law_682 : decode cL_law 682 = .ok (.iaload, 1) := by decide +kernel
theorem dL_law_683 : decode cL_law 683 = .ok (.invokevirtual 102, 3) := by decide +kernel
theorem dL_law_686 : decode cL_law 686 = .ok (.aload_n 2, 1) := by decide +kernel
theorem dL_law_687 : decode cL_law 687 = .ok (.aload_n 0, 1) := by decide +kernel
theorem dL_law_688 : decode cL_law 688 = .ok (.iload_n 3, 1) := by decide +kernel
theorem dL_law_689 : decode cL_law 689 = .ok (.iconst 1, 1) := by decide +kernel
theorem dL_law_690 : decode cL_law 690 = .ok (.iadd, 1) := by decide +kernel
theorem dL_law_691 : decode cL_law 691 = .ok (.iaload, 1) := by decide +kernel
theorem dL_law_692 : decode cL_law 692 = .ok (.invokevirtual 105, 3) := by decide +kernel
theorem dL_law_695 : decode cL_law 695 = .ok (.if_icmp .eq 42, 3) := by decide +kernel
theorem dL_law_698 : decode cL_law 698 = .ok (.iconst 0, 1) := by decide +kernel
theorem dL_law_699 : decode cL_law 699 = .ok (.ireturn, 1) := by decide +kernel
theorem dL_law_700 : decode cL_law 700 = .ok (.aload_n 1, 1) := by decide +kernel
theorem dL_law_701 : decode cL_law 701 = .ok (.aload_n 0, 1) := by decide +kernel
theorem dL_law_702 : decode cL_law 702 = .ok (.iload_n 3, 1) := by decide +kernel
theorem dL_law_703 : decode cL_law 703 = .ok (.iconst 1, 1) := by decide +kernel
theorem dL_law_704 : decode cL_law 704 = .ok (.iadd, 1) := by decide +kernel
theorem dL_law_705 : decode cL_law 705 = .ok (.iaload, 1) := by decide +kernel
theorem dL_law_706 : decode cL_law 706 = .ok (.invokevirtual 106, 3) := by decide +kernel
theorem dL_law_709 : decode cL_law 709 = .ok (.aload_n 2, 1) := by decide +kernel
theorem dL_law_710 : decode cL_law 710 = .ok (.aload_n 0, 1) := by decide +kernel
theorem dL_law_711 : decode cL_law 711 = .ok (.iload_n 3, 1) := by decide +kernel
theorem dL_law_712 : decode cL_law 712 = .ok (.iconst 1, 1) := by decide +kernel
theorem dL_law_713 : decode cL_law 713 = .ok (.iadd, 1) := by decide +kernel
theorem dL_law_714 : decode cL_law 714 = .ok (.iaload, 1) := by decide +kernel
theorem dL_law_715 : decode cL_law 715 = .ok (.invokevirtual 109, 3) := by decide +kernel
theorem dL_law_718 : decode cL_law 718 = .ok (.if_icmp .eq 19, 3) := by decide +kernel
theorem dL_law_721 : decode cL_law 721 = .ok (.iconst 0, 1) := by decide +kernel
theorem dL_law_722 : decode cL_law 722 = .ok (.ireturn, 1) := by decide +kernel
theorem dL_law_723 : decode cL_law 723 = .ok (.aload_n 1, 1) := by decide +kernel
theorem dL_law_724 : decode cL_law 724 = .ok (.invokevirtual 110, 3) := by decide +kernel
theorem dL_law_727 : decode cL_law 727 = .ok (.aload_n 2, 1) := by decide +kernel
theorem dL_law_728 : decode cL_law 728 = .ok (.invokevirtual 114, 3) := by decide +kernel
theorem dL_law_731 : decode cL_law 731 = .ok (.lcmp, 1) := by decide +kernel
theorem dL_law_732 : decode cL_law 732 = .ok (.ifCond .eq 5, 3) := by decide +kernel
theorem dL_law_735 : decode cL_law 735 = .ok (.iconst 0, 1) := by decide +kernel
theorem dL_law_736 : decode cL_law 736 = .ok (.ireturn, 1) := by decide +kernel
theorem dL_law_737 : decode cL_law 737 = .ok (.iinc 3 6, 3) := by decide +kernel
theorem dL_law_740 : decode cL_law 740 = .ok (.goto (-722), 3) := by decide +kernel
theorem dL_law_743 : decode cL_law 743 = .ok (.iconst 1, 1) := by decide +kernel
theorem dL_law_744 : decode cL_law 744 = .ok (.ireturn, 1) := by decide +kernel
end
section
/-! derived rules: numbers as nI n, truth as bI b, calls by their arity; the two worlds -/
def bI (b : Bool) : Int32 := if b then 1 else 0
theorem bI_t : bI true = 1 := rfl
theorem bI_f : bI false = 0 := rfl
theorem bI_01 (b : Bool) : bI b = 0 ∨ bI b = 1 := by cases b <;> simp [bI]
theorem bI_0 {b : Bool} : bI b = 0 ↔ b = false := by cases b <;> decide
def RetI (v : Int32) (M : Mm) : Pst := fun r M' => r = some (.int v) ∧ M' = M
def RetL (v : Int64) (M : Mm) : Pst := fun r M' => r = some (.long v) ∧ M' = M
def RetV (M : Mm) : Pst := fun r M' => r = none ∧ M' = M
def Ct (Sh : Shp) (m : MI) (vs : List Value) (M : Mm) (Q : Pst) : Prop := Ev Sh m 0 (ab_ent m.2.2.1 vs) [] M Q
def PSh : Shp := [.inr (2, [some 1, some 2, some 3, some 4, some 5, none]), .inl 432, .inl 24, .inl 24, .inl 7, .inl 24]
def XS0 : Shp := [.inr (1, [some 0, some 7, some 8]), .inl 192, .inl 24, .inr (3, [some 0, some 10, none, none, none]), .inl 24, .inr (5, [some 0, some 12, none]), .inl 24,
  .inr (6, [some 0, some 11, some 14, none, none, some 15, some 16, some 17, none, some 18, none]), .inl 6, .inl 1600, .inl 1600, .inl 1600, .inl 1600,
  .inr (0, [some 0, some 6, some 9, some 20, some 21, none]), .inl 144, .inl 144, .inr (4, [some 23, none]), .inl 24, .inr (7, [some 0, some 6, some 9, some 11, some 13, some 19, some 22, none])]
def XSh : Shp := PSh ++ XS0
def MSh : Shp := [.inr (8, [none, some 1, none, none, some 2, some 3, some 4, some 5, some 6, some 7, none, some 8, none, some 9, none, some 10, some 11, none, some 12, some 13, none]),
  .inl 432, .inl 24, .inl 24, .inl 24, .inl 192, .inl 24, .inl 24, .inl 24, .inl 6, .inl 1600, .inl 1600, .inl 144, .inl 144]
theorem Ev.mono {Sh : Shp} {m : MI} {pc : Nat} {ls st : List Value} {M : Mm} {Q Q2 : Pst} (h : Ev Sh m pc ls st M Q) (hq : ∀ r M', Q r M' → Q2 r M') : Ev Sh m pc ls st M Q2 := by
  have key : Rls (fun Sh m pc ls st M Q => ∀ Q2 : Pst, (∀ r M', Q r M' → Q2 r M') → Ev Sh m pc ls st M Q2) := by
    refine ⟨fun Sh m pc n ls st M Q x y hd hn k Q9 hq => ev_iadd n hd hn (k Q9 hq),
      fun Sh m pc n ls st M Q x y hd hn k Q9 hq => ev_isub n hd hn (k Q9 hq),
      fun Sh m pc n ls st M Q x y hd hn k Q9 hq => ev_imul n hd hn (k Q9 hq),
      fun Sh m pc n ls st M Q x y hd hn k Q9 hq => ev_iand n hd hn (k Q9 hq),
      fun Sh m pc n ls st M Q x y hd hn k Q9 hq => ev_ior n hd hn (k Q9 hq),
      fun Sh m pc n ls st M Q x y hd hn k Q9 hq => ev_ixor n hd hn (k Q9 hq),
      fun Sh m pc n ls st M Q x y hd hn k Q9 hq => ev_ishl n hd hn (k Q9 hq),
      fun Sh m pc n ls st M Q x y hd hn k Q9 hq => ev_ishr n hd hn (k Q9 hq),
      fun Sh m pc n ls st M Q x y hd hn k Q9 hq => ev_iushr n hd hn (k Q9 hq),
      fun Sh m pc n ls st M Q x y hd hz hn k Q9 hq => ev_idiv n hd hz hn (k Q9 hq),
      fun Sh m pc n ls st M Q x y hd hz hn k Q9 hq => ev_irem n hd hz hn (k Q9 hq),
      fun Sh m pc n ls st M Q x y hd hn k Q9 hq => ev_ladd n hd hn (k Q9 hq),
      fun Sh m pc n ls st M Q x y hd hn k Q9 hq => ev_lmul n hd hn (k Q9 hq),
      fun Sh m pc n ls st M Q x y hd hz hn k Q9 hq => ev_ldiv n hd hz hn (k Q9 hq),
      fun Sh m pc n ls st M Q x y hd hn k Q9 hq => ev_lcmp n hd hn (k Q9 hq),
      fun Sh m pc n ls st M Q x hd hn k Q9 hq => ev_i2l n hd hn (k Q9 hq),
      fun Sh m pc n ls st M Q x hd hn k Q9 hq => ev_l2i n hd hn (k Q9 hq),
      fun Sh m pc n ls st M Q v hd hc hn k Q9 hq => ev_dup n hd hc hn (k Q9 hq),
      fun Sh m pc n ls st M Q v hd hc hn k Q9 hq => ev_pop n hd hc hn (k Q9 hq),
      fun Sh m pc n ls st M Q v u hd hc hc2 hn k Q9 hq => ev_dup2 n hd hc hc2 hn (k Q9 hq),
      fun Sh m pc n ls st M Q z v hd hv hn k Q9 hq => ev_iconst n v hd hv hn (k Q9 hq),
      fun Sh m pc n ls st M Q z v hd hv hn k Q9 hq => ev_bipush n v hd hv hn (k Q9 hq),
      fun Sh m pc n ls st M Q z v hd hv hn k Q9 hq => ev_sipush n v hd hv hn (k Q9 hq),
      fun Sh m pc n ls st M Q z v hd hv hn k Q9 hq => ev_lconst n v hd hv hn (k Q9 hq),
      fun Sh m pc n ls st M Q i v hd hv hn k Q9 hq => ev_ldc n v hd hv hn (k Q9 hq),
      fun Sh m pc n ls st M Q i v hd hv hn k Q9 hq => ev_ldcw n v hd hv hn (k Q9 hq),
      fun Sh m pc n ls st M Q i v hd hv hn k Q9 hq => ev_ldc2 n v hd hv hn (k Q9 hq),
      fun Sh m pc n ls st M Q z x hd hv hn k Q9 hq => ev_iload_n n hd hv hn (k Q9 hq),
      fun Sh m pc n ls st M Q z x hd hv hn k Q9 hq => ev_iload n hd hv hn (k Q9 hq),
      fun Sh m pc n ls st M Q z x hd hv hn k Q9 hq => ev_lload_n n hd hv hn (k Q9 hq),
      fun Sh m pc n ls st M Q z x hd hv hn k Q9 hq => ev_lload n hd hv hn (k Q9 hq),
      fun Sh m pc n ls st M Q z x hd hv hn k Q9 hq => ev_aload_n n hd hv hn (k Q9 hq),
      fun Sh m pc n ls st M Q ls2 z x hd hi ho hl hn k Q9 hq => ev_istore_n n ls2 hd hi ho hl hn (k Q9 hq),
      fun Sh m pc n ls st M Q ls2 z x hd hi ho hl hn k Q9 hq => ev_istore n ls2 hd hi ho hl hn (k Q9 hq),
      fun Sh m pc n ls st M Q ls2 z x hd hi ho hl hn k Q9 hq => ev_lstore_n n ls2 hd hi ho hl hn (k Q9 hq),
      fun Sh m pc n ls st M Q ls2 z x hd hi ho hl hn k Q9 hq => ev_lstore n ls2 hd hi ho hl hn (k Q9 hq),
      fun Sh m pc n ls st M Q ls2 z d x v hd hx hv hi ho hl hn k Q9 hq => ev_iinc n ls2 v hd hx hv hi ho hl hn (k Q9 hq),
      fun Sh m pc n ls st M Q t x off hd ht hn k1 k2 Q9 hq => ev_if_eq n t hd ht hn (fun z => k1 z Q9 hq) (fun z => k2 z Q9 hq),
      fun Sh m pc n ls st M Q t x off hd ht hn k1 k2 Q9 hq => ev_if_ne n t hd ht hn (fun z => k1 z Q9 hq) (fun z => k2 z Q9 hq),
      fun Sh m pc n ls st M Q t x off hd ht hn k1 k2 Q9 hq => ev_if_lt n t hd ht hn (fun z => k1 z Q9 hq) (fun z => k2 z Q9 hq),
      fun Sh m pc n ls st M Q t x off hd ht hn k1 k2 Q9 hq => ev_if_ge n t hd ht hn (fun z => k1 z Q9 hq) (fun z => k2 z Q9 hq),
      fun Sh m pc n ls st M Q t x off hd ht hn k1 k2 Q9 hq => ev_if_gt n t hd ht hn (fun z => k1 z Q9 hq) (fun z => k2 z Q9 hq),
      fun Sh m pc n ls st M Q t x off hd ht hn k1 k2 Q9 hq => ev_if_le n t hd ht hn (fun z => k1 z Q9 hq) (fun z => k2 z Q9 hq),
      fun Sh m pc n ls st M Q t x y off hd ht hn k1 k2 Q9 hq => ev_icmp_eq n t hd ht hn (fun z => k1 z Q9 hq) (fun z => k2 z Q9 hq),
      fun Sh m pc n ls st M Q t x y off hd ht hn k1 k2 Q9 hq => ev_icmp_ne n t hd ht hn (fun z => k1 z Q9 hq) (fun z => k2 z Q9 hq),
      fun Sh m pc n ls st M Q t x y off hd ht hn k1 k2 Q9 hq => ev_icmp_lt n t hd ht hn (fun z => k1 z Q9 hq) (fun z => k2 z Q9 hq),
      fun Sh m pc n ls st M Q t x y off hd ht hn k1 k2 Q9 hq => ev_icmp_ge n t hd ht hn (fun z => k1 z Q9 hq) (fun z => k2 z Q9 hq),
      fun Sh m pc n ls st M Q t x y off hd ht hn k1 k2 Q9 hq => ev_icmp_gt n t hd ht hn (fun z => k1 z Q9 hq) (fun z => k2 z Q9 hq),
      fun Sh m pc n ls st M Q t x y off hd ht hn k1 k2 Q9 hq => ev_icmp_le n t hd ht hn (fun z => k1 z Q9 hq) (fun z => k2 z Q9 hq),
      fun Sh m pc t ls st M Q off hd ht k Q9 hq => ev_goto t hd ht (k Q9 hq),
      fun Sh m pc t ls st M Q df lo hi offs len x hd hx ht k Q9 hq => ev_tabOut t hd hx ht (k Q9 hq),
      fun Sh m pc t ls st M Q df lo hi offs len x off hd h1 h2 ho ht k Q9 hq => ev_tabIn t hd h1 h2 ho ht (k Q9 hq),
      fun Sh m pc n ls st M Q i k j q hd hk hf hj2 hn kk Q9 hq => ev_getI n hd hk hf hj2 hn (kk Q9 hq),
      fun Sh m pc n ls st M Q i k j r q hd hk hf hj2 hn kk Q9 hq => ev_getR n hd hk hf hj2 hn (kk Q9 hq),
      fun Sh m pc n ls st M Q i k j q x hd hk hf hg hj2 hn kk Q9 hq => ev_putI n hd hk hf hg hj2 hn (kk Q9 hq),
      fun Sh m pc n ls st M Q k N i hd hk hi hn kk Q9 hq => ev_iald n hd hk hi hn (kk Q9 hq),
      fun Sh m pc n ls st M Q k N i x hd hk hi hn kk Q9 hq => ev_iast n hd hk hi hn (kk Q9 hq),
      fun Sh m pc ls M Q v hd hr hQ  Q9 hq => ev_iret  hd hr (hq _ _ hQ) ,
      fun Sh m pc ls M Q v hd hr hz hQ  Q9 hq => ev_zret  hd hr hz (hq _ _ hQ) ,
      fun Sh m pc ls M Q v hd hr hQ  Q9 hq => ev_lret  hd hr (hq _ _ hQ) ,
      fun Sh m pc ls M Q hd hr hQ  Q9 hq => ev_vret  hd hr (hq _ _ hQ) ,
      fun Sh m m2 pc n ls st as rest M Q Q2 i np k hd hml hmo hrm him hob hst hnp hle hw hn k1 k2 Q9 hq => ev_callV n hd hml hmo hrm him hob hst hnp hle hw hn (k1 _ (fun _ _ z => z)) (fun r M2 z => k2 r M2 z Q9 hq),
      fun Sh m m2 pc n ls st as rest M Q Q2 i np hd hml hmo hrm hsm hst hnp hle hw hn k1 k2 Q9 hq => ev_callS n hd hml hmo hrm hsm hst hnp hle hw hn (k1 _ (fun _ _ z => z)) (fun r M2 z => k2 r M2 z Q9 hq),
      fun Sh m pc n ls st M Q i x y hd h1 h2 h3 h4 hfr hlo hn k Q9 hq => ev_imax n hd h1 h2 h3 h4 hfr hlo hn (k Q9 hq),
      fun Sh m pc n ls st M Q i x y hd h1 h2 h3 h4 hfr hlo hn k Q9 hq => ev_imin n hd h1 h2 h3 h4 hfr hlo hn (k Q9 hq)⟩
  exact h _ key Q2 hq
theorem ev_eqI {Sh : Shp} {m : MI} {pc : Nat} {ls st : List Value} {M : Mm} {Q : Pst} {x y : Int32} (h : x = y) (k : Ev Sh m pc ls (.int y :: st) M Q) : Ev Sh m pc ls (.int x :: st) M Q := h ▸ k
theorem ev_eqL {Sh : Shp} {m : MI} {pc : Nat} {ls st : List Value} {M : Mm} {Q : Pst} {x y : Int64} (h : x = y) (k : Ev Sh m pc ls (.long y :: st) M Q) : Ev Sh m pc ls (.long x :: st) M Q := h ▸ k
theorem ev_eqM {Sh : Shp} {m : MI} {pc : Nat} {ls st : List Value} {M : Mm} {Q : Pst} {M2 : Mm} (h : M = M2) (k : Ev Sh m pc ls st M2 Q) : Ev Sh m pc ls st M Q := h ▸ k
theorem ev_getIv {Sh : Shp} {m : MI} {pc : Nat} {ls st : List Value} {M : Mm} {Q : Pst} {i k j : Nat} {q : Nat × List (Option Nat)} (n : Nat) (v : Int32) (hd : decode m.2.1 pc = .ok (.getfield i, 3)) (hk : Sh[k]? = some (.inr q)) (hf : ab_FL m.1.cls i q.1 j) (hj2 : q.2[j]? = some none) (hn : pc + 3 = n) (hv : M k j = v) (kk : Ev Sh m n ls (.int v :: st) M Q) : Ev Sh m pc ls (.ref k :: st) M Q := ev_getI n hd hk hf hj2 hn (hv ▸ kk)
theorem ev_iaN {Sh : Shp} {m : MI} {pc : Nat} {ls st : List Value} {M : Mm} {Q : Pst} {k N j : Nat} (n : Nat) (v : Int32) (hd : decode m.2.1 pc = .ok (.iaload, 1)) (hk : Sh[k]? = some (.inl N)) (hj : j < N) (hN : N < 2 ^ 31) (hn : pc + 1 = n) (hv : M k j = v) (kk : Ev Sh m n ls (.int v :: st) M Q) : Ev Sh m pc ls (.int (nI j) :: .ref k :: st) M Q :=
  ev_iald n hd hk (vp_in_nI hj hN) hn (by rw [nI_clamp (Nat.lt_trans hj hN), hv]; exact kk)
theorem ev_iaS {Sh : Shp} {m : MI} {pc : Nat} {ls st : List Value} {M : Mm} {Q : Pst} {k N j : Nat} {x : Int32} (n : Nat) (hd : decode m.2.1 pc = .ok (.iastore, 1)) (hk : Sh[k]? = some (.inl N)) (hj : j < N) (hN : N < 2 ^ 31) (hn : pc + 1 = n) (kk : Ev Sh m n ls st (mst M k j x) Q) : Ev Sh m pc ls (.int x :: .int (nI j) :: .ref k :: st) M Q :=
  ev_iast n hd hk (vp_in_nI hj hN) hn (by rw [nI_clamp (Nat.lt_trans hj hN)]; exact kk)
theorem ev_iaddN {Sh : Shp} {m : MI} {pc : Nat} {ls st : List Value} {M : Mm} {Q : Pst} {a b : Nat} (n : Nat) (hd : decode m.2.1 pc = .ok (.iadd, 1)) (hn : pc + 1 = n) (k : Ev Sh m n ls (.int (nI (a + b)) :: st) M Q) : Ev Sh m pc ls (.int (nI b) :: .int (nI a) :: st) M Q := ev_iadd n hd hn (by rw [nI_add]; exact k)
theorem ev_isubN {Sh : Shp} {m : MI} {pc : Nat} {ls st : List Value} {M : Mm} {Q : Pst} {a b : Nat} (n : Nat) (hd : decode m.2.1 pc = .ok (.isub, 1)) (hle : b ≤ a) (hn : pc + 1 = n) (k : Ev Sh m n ls (.int (nI (a - b)) :: st) M Q) : Ev Sh m pc ls (.int (nI b) :: .int (nI a) :: st) M Q := ev_isub n hd hn (by rw [pk_sub hle]; exact k)
theorem ev_imulN {Sh : Shp} {m : MI} {pc : Nat} {ls st : List Value} {M : Mm} {Q : Pst} {a b : Nat} (n : Nat) (hd : decode m.2.1 pc = .ok (.imul, 1)) (hn : pc + 1 = n) (k : Ev Sh m n ls (.int (nI (a * b)) :: st) M Q) : Ev Sh m pc ls (.int (nI b) :: .int (nI a) :: st) M Q := ev_imul n hd hn (by rw [pk_mul]; exact k)
theorem ev_iincN {Sh : Shp} {m : MI} {pc : Nat} {ls st : List Value} {M : Mm} {Q : Pst} {z a : Nat} (n : Nat) (ls2 : List Value) (hd : decode m.2.1 pc = .ok (.iinc z 1, 3)) (hx : ls[z]? = some (.int (nI a))) (hi : z < m.2.2.1) (ho : ab_ok ls z = true) (hl : ls.set z (.int (nI (a + 1))) = ls2) (hn : pc + 3 = n) (k : Ev Sh m n ls2 st M Q) : Ev Sh m pc ls st M Q := ev_iinc n ls2 (nI (a + 1)) hd hx (by rw [← nI_1]; rfl) hi ho hl hn k
theorem ev_iincD {Sh : Shp} {m : MI} {pc : Nat} {ls st : List Value} {M : Mm} {Q : Pst} {z a : Nat} (n : Nat) (ls2 : List Value) (hd : decode m.2.1 pc = .ok (.iinc z (-1), 3)) (hx : ls[z]? = some (.int (nI (a + 1)))) (hi : z < m.2.2.1) (ho : ab_ok ls z = true) (hl : ls.set z (.int (nI a)) = ls2) (hn : pc + 3 = n) (k : Ev Sh m n ls2 st M Q) : Ev Sh m pc ls st M Q := ev_iinc n ls2 (nI a) hd hx (pk_m1 a) hi ho hl hn k
theorem ev_icmp_eqN {Sh : Shp} {m : MI} {pc : Nat} {ls st : List Value} {M : Mm} {Q : Pst} {a b : Nat} {off : Int} (n t : Nat) (hd : decode m.2.1 pc = .ok (.if_icmp .eq off, 3)) (ht : (pc : Int) + off = (t : Int)) (hn : pc + 3 = n) (ha : a < 2 ^ 31) (hb : b < 2 ^ 31) (k1 : a = b → Ev Sh m t ls st M Q) (k2 : a ≠ b → Ev Sh m n ls st M Q) : Ev Sh m pc ls (.int (nI b) :: .int (nI a) :: st) M Q := ev_icmp_eq n t hd ht hn (fun c => k1 ((nI_eq ha hb).mp c)) (fun c => k2 (fun e => c (by rw [e])))
theorem ev_icmp_neN {Sh : Shp} {m : MI} {pc : Nat} {ls st : List Value} {M : Mm} {Q : Pst} {a b : Nat} {off : Int} (n t : Nat) (hd : decode m.2.1 pc = .ok (.if_icmp .ne off, 3)) (ht : (pc : Int) + off = (t : Int)) (hn : pc + 3 = n) (ha : a < 2 ^ 31) (hb : b < 2 ^ 31) (k1 : a ≠ b → Ev Sh m t ls st M Q) (k2 : a = b → Ev Sh m n ls st M Q) : Ev Sh m pc ls (.int (nI b) :: .int (nI a) :: st) M Q := ev_icmp_ne n t hd ht hn (fun c => k1 (fun e => c (by rw [e]))) (fun c => k2 ((nI_eq ha hb).mp c))
theorem ev_icmp_ltN {Sh : Shp} {m : MI} {pc : Nat} {ls st : List Value} {M : Mm} {Q : Pst} {a b : Nat} {off : Int} (n t : Nat) (hd : decode m.2.1 pc = .ok (.if_icmp .lt off, 3)) (ht : (pc : Int) + off = (t : Int)) (hn : pc + 3 = n) (ha : a < 2 ^ 31) (hb : b < 2 ^ 31) (k1 : a < b → Ev Sh m t ls st M Q) (k2 : b ≤ a → Ev Sh m n ls st M Q) : Ev Sh m pc ls (.int (nI b) :: .int (nI a) :: st) M Q := ev_icmp_lt n t hd ht hn (fun c => k1 ((nI_ltI ha hb).mp c)) (fun c => k2 (by have := mt (nI_ltI ha hb).mpr c; omega))
theorem ev_icmp_geN {Sh : Shp} {m : MI} {pc : Nat} {ls st : List Value} {M : Mm} {Q : Pst} {a b : Nat} {off : Int} (n t : Nat) (hd : decode m.2.1 pc = .ok (.if_icmp .ge off, 3)) (ht : (pc : Int) + off = (t : Int)) (hn : pc + 3 = n) (ha : a < 2 ^ 31) (hb : b < 2 ^ 31) (k1 : b ≤ a → Ev Sh m t ls st M Q) (k2 : a < b → Ev Sh m n ls st M Q) : Ev Sh m pc ls (.int (nI b) :: .int (nI a) :: st) M Q := ev_icmp_ge n t hd ht hn (fun c => k1 ((nI_leI hb ha).mp c)) (fun c => k2 (by have := mt (nI_leI hb ha).mpr c; omega))
theorem ev_icmp_gtN {Sh : Shp} {m : MI} {pc : Nat} {ls st : List Value} {M : Mm} {Q : Pst} {a b : Nat} {off : Int} (n t : Nat) (hd : decode m.2.1 pc = .ok (.if_icmp .gt off, 3)) (ht : (pc : Int) + off = (t : Int)) (hn : pc + 3 = n) (ha : a < 2 ^ 31) (hb : b < 2 ^ 31) (k1 : b < a → Ev Sh m t ls st M Q) (k2 : a ≤ b → Ev Sh m n ls st M Q) : Ev Sh m pc ls (.int (nI b) :: .int (nI a) :: st) M Q := ev_icmp_gt n t hd ht hn (fun c => k1 ((nI_ltI hb ha).mp c)) (fun c => k2 (by have := mt (nI_ltI hb ha).mpr c; omega))
theorem ev_icmp_leN {Sh : Shp} {m : MI} {pc : Nat} {ls st : List Value} {M : Mm} {Q : Pst} {a b : Nat} {off : Int} (n t : Nat) (hd : decode m.2.1 pc = .ok (.if_icmp .le off, 3)) (ht : (pc : Int) + off = (t : Int)) (hn : pc + 3 = n) (ha : a < 2 ^ 31) (hb : b < 2 ^ 31) (k1 : a ≤ b → Ev Sh m t ls st M Q) (k2 : b < a → Ev Sh m n ls st M Q) : Ev Sh m pc ls (.int (nI b) :: .int (nI a) :: st) M Q := ev_icmp_le n t hd ht hn (fun c => k1 ((nI_leI ha hb).mp c)) (fun c => k2 (by have := mt (nI_leI ha hb).mpr c; omega))
theorem ev_if_eqN {Sh : Shp} {m : MI} {pc : Nat} {ls st : List Value} {M : Mm} {Q : Pst} {a : Nat} {off : Int} (n t : Nat) (hd : decode m.2.1 pc = .ok (.ifCond .eq off, 3)) (ht : (pc : Int) + off = (t : Int)) (hn : pc + 3 = n) (ha : a < 2 ^ 31) (k1 : a = 0 → Ev Sh m t ls st M Q) (k2 : a ≠ 0 → Ev Sh m n ls st M Q) : Ev Sh m pc ls (.int (nI a) :: st) M Q := ev_if_eq n t hd ht hn (fun c => k1 ((nI_eq ha (by decide)).mp c)) (fun c => k2 (fun e => c (by rw [e]; rfl)))
theorem ev_if_neN {Sh : Shp} {m : MI} {pc : Nat} {ls st : List Value} {M : Mm} {Q : Pst} {a : Nat} {off : Int} (n t : Nat) (hd : decode m.2.1 pc = .ok (.ifCond .ne off, 3)) (ht : (pc : Int) + off = (t : Int)) (hn : pc + 3 = n) (ha : a < 2 ^ 31) (k1 : a ≠ 0 → Ev Sh m t ls st M Q) (k2 : a = 0 → Ev Sh m n ls st M Q) : Ev Sh m pc ls (.int (nI a) :: st) M Q := ev_if_ne n t hd ht hn (fun c => k1 (fun e => c (by rw [e]; rfl))) (fun c => k2 ((nI_eq ha (by decide)).mp c))
theorem ev_if_leN {Sh : Shp} {m : MI} {pc : Nat} {ls st : List Value} {M : Mm} {Q : Pst} {a : Nat} {off : Int} (n t : Nat) (hd : decode m.2.1 pc = .ok (.ifCond .le off, 3)) (ht : (pc : Int) + off = (t : Int)) (hn : pc + 3 = n) (ha : a < 2 ^ 31) (k1 : a = 0 → Ev Sh m t ls st M Q) (k2 : a ≠ 0 → Ev Sh m n ls st M Q) : Ev Sh m pc ls (.int (nI a) :: st) M Q := ev_if_le n t hd ht hn (fun c => k1 (by have := (nI_leI ha (by decide : 0 < 2 ^ 31)).mp c; omega)) (fun c => k2 (fun e => c (by rw [e]; decide)))
theorem ev_if_gtN {Sh : Shp} {m : MI} {pc : Nat} {ls st : List Value} {M : Mm} {Q : Pst} {a : Nat} {off : Int} (n t : Nat) (hd : decode m.2.1 pc = .ok (.ifCond .gt off, 3)) (ht : (pc : Int) + off = (t : Int)) (hn : pc + 3 = n) (ha : a < 2 ^ 31) (k1 : a ≠ 0 → Ev Sh m t ls st M Q) (k2 : a = 0 → Ev Sh m n ls st M Q) : Ev Sh m pc ls (.int (nI a) :: st) M Q := ev_if_gt n t hd ht hn (fun c => k1 (by have := (nI_ltI (by decide : 0 < 2 ^ 31) ha).mp c; omega)) (fun c => k2 (by have := mt (nI_ltI (by decide : 0 < 2 ^ 31) ha).mpr c; omega))
theorem ev_if_ltN {Sh : Shp} {m : MI} {pc : Nat} {ls st : List Value} {M : Mm} {Q : Pst} {a : Nat} {off : Int} (n t : Nat) (hd : decode m.2.1 pc = .ok (.ifCond .lt off, 3)) (ht : (pc : Int) + off = (t : Int)) (hn : pc + 3 = n) (ha : a < 2 ^ 31) (k2 : Ev Sh m n ls st M Q) : Ev Sh m pc ls (.int (nI a) :: st) M Q := ev_if_lt n t hd ht hn (fun c => absurd c (nI_pos ha)) (fun _ => k2)
theorem ev_if_geN {Sh : Shp} {m : MI} {pc : Nat} {ls st : List Value} {M : Mm} {Q : Pst} {a : Nat} {off : Int} (n t : Nat) (hd : decode m.2.1 pc = .ok (.ifCond .ge off, 3)) (ht : (pc : Int) + off = (t : Int)) (hn : pc + 3 = n) (ha : a < 2 ^ 31) (k1 : Ev Sh m t ls st M Q) : Ev Sh m pc ls (.int (nI a) :: st) M Q := ev_if_ge n t hd ht hn (fun _ => k1) (fun c => absurd (nI_pos' ha) c)
theorem ev_if_eqB {Sh : Shp} {m : MI} {pc : Nat} {ls st : List Value} {M : Mm} {Q : Pst} {b : Bool} {off : Int} (n t : Nat) (hd : decode m.2.1 pc = .ok (.ifCond .eq off, 3)) (ht : (pc : Int) + off = (t : Int)) (hn : pc + 3 = n) (k1 : b = false → Ev Sh m t ls st M Q) (k2 : b = true → Ev Sh m n ls st M Q) : Ev Sh m pc ls (.int (bI b) :: st) M Q := ev_if_eq n t hd ht hn (fun c => k1 (bI_0.mp c)) (fun c => k2 (by cases b <;> simp_all [bI]))
theorem ev_if_neB {Sh : Shp} {m : MI} {pc : Nat} {ls st : List Value} {M : Mm} {Q : Pst} {b : Bool} {off : Int} (n t : Nat) (hd : decode m.2.1 pc = .ok (.ifCond .ne off, 3)) (ht : (pc : Int) + off = (t : Int)) (hn : pc + 3 = n) (k1 : b = true → Ev Sh m t ls st M Q) (k2 : b = false → Ev Sh m n ls st M Q) : Ev Sh m pc ls (.int (bI b) :: st) M Q := ev_if_ne n t hd ht hn (fun c => k1 (by cases b <;> simp_all [bI])) (fun c => k2 (bI_0.mp c))
theorem ev_zretB {Sh : Shp} {m : MI} {pc : Nat} {ls : List Value} {M : Mm} {Q : Pst} {b : Bool} (hd : decode m.2.1 pc = .ok (.ireturn, 1)) (hr : m.2.2.2.1 = some .boolean) (hQ : Q (some (.int (bI b))) M) : Ev Sh m pc ls [.int (bI b)] M Q := ev_zret hd hr (bI_01 b) hQ
theorem ev_cV0 {Sh : Shp} {m m2 : MI} {pc : Nat} {ls rest : List Value} {M : Mm} {Q : Pst} {i : Nat} {k : Nat} {Q2 : Pst} (n : Nat) (hd : decode m.2.1 pc = .ok (.invokevirtual i, 3)) (hml : ab_ML m.1.cls i m2) (hmo : ab_MO m2 0) (hrm : ab_RM m m2 = true) (him : ab_IM m2) (hob : ab_obj Sh k m2.1.cls) (hle : (ab_ent0 (.ref k :: [])).length ≤ m2.2.2.1) (hw : (rest.map fun v => v.category).sum ≤ 8) (hn : pc + 3 = n) (k1 : Ct Sh m2 (.ref k :: []) M Q2) (k2 : ∀ (r : Option Value) (M2 : Mm), Q2 r M2 → Ev Sh m n ls (r.toList ++ rest) M2 Q) : Ev Sh m pc ls (.ref k :: rest) M Q := ev_callV n hd hml hmo hrm him hob (as := []) (rest := rest) rfl rfl hle hw hn k1 k2
theorem ev_cV0I {Sh : Shp} {m m2 : MI} {pc : Nat} {ls rest : List Value} {M : Mm} {Q : Pst} {i : Nat} {k : Nat} (v : Int32) (M2 : Mm) (n : Nat) (hd : decode m.2.1 pc = .ok (.invokevirtual i, 3)) (hml : ab_ML m.1.cls i m2) (hmo : ab_MO m2 0) (hrm : ab_RM m m2 = true) (him : ab_IM m2) (hob : ab_obj Sh k m2.1.cls) (hle : (ab_ent0 (.ref k :: [])).length ≤ m2.2.2.1) (hw : (rest.map fun v => v.category).sum ≤ 8) (hn : pc + 3 = n) (k1 : Ct Sh m2 (.ref k :: []) M (RetI v M2)) (k2 : Ev Sh m n ls (.int v :: rest) M2 Q) : Ev Sh m pc ls (.ref k :: rest) M Q := ev_cV0 n hd hml hmo hrm him hob hle hw hn k1 (fun r M2 z => by obtain ⟨rfl, rfl⟩ := z; exact k2)
theorem ev_cV0V {Sh : Shp} {m m2 : MI} {pc : Nat} {ls rest : List Value} {M : Mm} {Q : Pst} {i : Nat} {k : Nat} (M2 : Mm) (n : Nat) (hd : decode m.2.1 pc = .ok (.invokevirtual i, 3)) (hml : ab_ML m.1.cls i m2) (hmo : ab_MO m2 0) (hrm : ab_RM m m2 = true) (him : ab_IM m2) (hob : ab_obj Sh k m2.1.cls) (hle : (ab_ent0 (.ref k :: [])).length ≤ m2.2.2.1) (hw : (rest.map fun v => v.category).sum ≤ 8) (hn : pc + 3 = n) (k1 : Ct Sh m2 (.ref k :: []) M (RetV M2)) (k2 : Ev Sh m n ls rest M2 Q) : Ev Sh m pc ls (.ref k :: rest) M Q := ev_cV0 n hd hml hmo hrm him hob hle hw hn k1 (fun r M2 z => by obtain ⟨rfl, rfl⟩ := z; exact k2)
theorem ev_cV1 {Sh : Shp} {m m2 : MI} {pc : Nat} {ls rest : List Value} {M : Mm} {Q : Pst} {i : Nat} {a1 : Value} {k : Nat} {Q2 : Pst} (n : Nat) (hd : decode m.2.1 pc = .ok (.invokevirtual i, 3)) (hml : ab_ML m.1.cls i m2) (hmo : ab_MO m2 1) (hrm : ab_RM m m2 = true) (him : ab_IM m2) (hob : ab_obj Sh k m2.1.cls) (hle : (ab_ent0 (.ref k :: [a1])).length ≤ m2.2.2.1) (hw : (rest.map fun v => v.category).sum ≤ 8) (hn : pc + 3 = n) (k1 : Ct Sh m2 (.ref k :: [a1]) M Q2) (k2 : ∀ (r : Option Value) (M2 : Mm), Q2 r M2 → Ev Sh m n ls (r.toList ++ rest) M2 Q) : Ev Sh m pc ls (a1 :: .ref k :: rest) M Q := ev_callV n hd hml hmo hrm him hob (as := [a1]) (rest := rest) rfl rfl hle hw hn k1 k2
theorem ev_cV1I {Sh : Shp} {m m2 : MI} {pc : Nat} {ls rest : List Value} {M : Mm} {Q : Pst} {i : Nat} {a1 : Value} {k : Nat} (v : Int32) (M2 : Mm) (n : Nat) (hd : decode m.2.1 pc = .ok (.invokevirtual i, 3)) (hml : ab_ML m.1.cls i m2) (hmo : ab_MO m2 1) (hrm : ab_RM m m2 = true) (him : ab_IM m2) (hob : ab_obj Sh k m2.1.cls) (hle : (ab_ent0 (.ref k :: [a1])).length ≤ m2.2.2.1) (hw : (rest.map fun v => v.category).sum ≤ 8) (hn : pc + 3 = n) (k1 : Ct Sh m2 (.ref k :: [a1]) M (RetI v M2)) (k2 : Ev Sh m n ls (.int v :: rest) M2 Q) : Ev Sh m pc ls (a1 :: .ref k :: rest) M Q := ev_cV1 n hd hml hmo hrm him hob hle hw hn k1 (fun r M2 z => by obtain ⟨rfl, rfl⟩ := z; exact k2)
theorem ev_cV1V {Sh : Shp} {m m2 : MI} {pc : Nat} {ls rest : List Value} {M : Mm} {Q : Pst} {i : Nat} {a1 : Value} {k : Nat} (M2 : Mm) (n : Nat) (hd : decode m.2.1 pc = .ok (.invokevirtual i, 3)) (hml : ab_ML m.1.cls i m2) (hmo : ab_MO m2 1) (hrm : ab_RM m m2 = true) (him : ab_IM m2) (hob : ab_obj Sh k m2.1.cls) (hle : (ab_ent0 (.ref k :: [a1])).length ≤ m2.2.2.1) (hw : (rest.map fun v => v.category).sum ≤ 8) (hn : pc + 3 = n) (k1 : Ct Sh m2 (.ref k :: [a1]) M (RetV M2)) (k2 : Ev Sh m n ls rest M2 Q) : Ev Sh m pc ls (a1 :: .ref k :: rest) M Q := ev_cV1 n hd hml hmo hrm him hob hle hw hn k1 (fun r M2 z => by obtain ⟨rfl, rfl⟩ := z; exact k2)
theorem ev_cS1 {Sh : Shp} {m m2 : MI} {pc : Nat} {ls rest : List Value} {M : Mm} {Q : Pst} {i : Nat} {a1 : Value} {Q2 : Pst} (n : Nat) (hd : decode m.2.1 pc = .ok (.invokestatic i, 3)) (hml : ab_ML m.1.cls i m2) (hmo : ab_MO m2 1) (hrm : ab_RM m m2 = true) (hsm : ab_SM m2) (hle : (ab_ent0 [a1]).length ≤ m2.2.2.1) (hw : (rest.map fun v => v.category).sum ≤ 8) (hn : pc + 3 = n) (k1 : Ct Sh m2 [a1] M Q2) (k2 : ∀ (r : Option Value) (M2 : Mm), Q2 r M2 → Ev Sh m n ls (r.toList ++ rest) M2 Q) : Ev Sh m pc ls (a1 :: rest) M Q := ev_callS n hd hml hmo hrm hsm (as := [a1]) (rest := rest) rfl rfl hle hw hn k1 k2
theorem ev_cS1I {Sh : Shp} {m m2 : MI} {pc : Nat} {ls rest : List Value} {M : Mm} {Q : Pst} {i : Nat} {a1 : Value} (v : Int32) (M2 : Mm) (n : Nat) (hd : decode m.2.1 pc = .ok (.invokestatic i, 3)) (hml : ab_ML m.1.cls i m2) (hmo : ab_MO m2 1) (hrm : ab_RM m m2 = true) (hsm : ab_SM m2) (hle : (ab_ent0 [a1]).length ≤ m2.2.2.1) (hw : (rest.map fun v => v.category).sum ≤ 8) (hn : pc + 3 = n) (k1 : Ct Sh m2 [a1] M (RetI v M2)) (k2 : Ev Sh m n ls (.int v :: rest) M2 Q) : Ev Sh m pc ls (a1 :: rest) M Q := ev_cS1 n hd hml hmo hrm hsm hle hw hn k1 (fun r M2 z => by obtain ⟨rfl, rfl⟩ := z; exact k2)
theorem ev_cS1L {Sh : Shp} {m m2 : MI} {pc : Nat} {ls rest : List Value} {M : Mm} {Q : Pst} {i : Nat} {a1 : Value} (v : Int64) (M2 : Mm) (n : Nat) (hd : decode m.2.1 pc = .ok (.invokestatic i, 3)) (hml : ab_ML m.1.cls i m2) (hmo : ab_MO m2 1) (hrm : ab_RM m m2 = true) (hsm : ab_SM m2) (hle : (ab_ent0 [a1]).length ≤ m2.2.2.1) (hw : (rest.map fun v => v.category).sum ≤ 8) (hn : pc + 3 = n) (k1 : Ct Sh m2 [a1] M (RetL v M2)) (k2 : Ev Sh m n ls (.long v :: rest) M2 Q) : Ev Sh m pc ls (a1 :: rest) M Q := ev_cS1 n hd hml hmo hrm hsm hle hw hn k1 (fun r M2 z => by obtain ⟨rfl, rfl⟩ := z; exact k2)
theorem ev_cV2 {Sh : Shp} {m m2 : MI} {pc : Nat} {ls rest : List Value} {M : Mm} {Q : Pst} {i : Nat} {a1 a2 : Value} {k : Nat} {Q2 : Pst} (n : Nat) (hd : decode m.2.1 pc = .ok (.invokevirtual i, 3)) (hml : ab_ML m.1.cls i m2) (hmo : ab_MO m2 2) (hrm : ab_RM m m2 = true) (him : ab_IM m2) (hob : ab_obj Sh k m2.1.cls) (hle : (ab_ent0 (.ref k :: [a1, a2])).length ≤ m2.2.2.1) (hw : (rest.map fun v => v.category).sum ≤ 8) (hn : pc + 3 = n) (k1 : Ct Sh m2 (.ref k :: [a1, a2]) M Q2) (k2 : ∀ (r : Option Value) (M2 : Mm), Q2 r M2 → Ev Sh m n ls (r.toList ++ rest) M2 Q) : Ev Sh m pc ls (a2 :: a1 :: .ref k :: rest) M Q := ev_callV n hd hml hmo hrm him hob (as := [a1, a2]) (rest := rest) rfl rfl hle hw hn k1 k2
theorem ev_cV2I {Sh : Shp} {m m2 : MI} {pc : Nat} {ls rest : List Value} {M : Mm} {Q : Pst} {i : Nat} {a1 a2 : Value} {k : Nat} (v : Int32) (M2 : Mm) (n : Nat) (hd : decode m.2.1 pc = .ok (.invokevirtual i, 3)) (hml : ab_ML m.1.cls i m2) (hmo : ab_MO m2 2) (hrm : ab_RM m m2 = true) (him : ab_IM m2) (hob : ab_obj Sh k m2.1.cls) (hle : (ab_ent0 (.ref k :: [a1, a2])).length ≤ m2.2.2.1) (hw : (rest.map fun v => v.category).sum ≤ 8) (hn : pc + 3 = n) (k1 : Ct Sh m2 (.ref k :: [a1, a2]) M (RetI v M2)) (k2 : Ev Sh m n ls (.int v :: rest) M2 Q) : Ev Sh m pc ls (a2 :: a1 :: .ref k :: rest) M Q := ev_cV2 n hd hml hmo hrm him hob hle hw hn k1 (fun r M2 z => by obtain ⟨rfl, rfl⟩ := z; exact k2)
theorem ev_cV2V {Sh : Shp} {m m2 : MI} {pc : Nat} {ls rest : List Value} {M : Mm} {Q : Pst} {i : Nat} {a1 a2 : Value} {k : Nat} (M2 : Mm) (n : Nat) (hd : decode m.2.1 pc = .ok (.invokevirtual i, 3)) (hml : ab_ML m.1.cls i m2) (hmo : ab_MO m2 2) (hrm : ab_RM m m2 = true) (him : ab_IM m2) (hob : ab_obj Sh k m2.1.cls) (hle : (ab_ent0 (.ref k :: [a1, a2])).length ≤ m2.2.2.1) (hw : (rest.map fun v => v.category).sum ≤ 8) (hn : pc + 3 = n) (k1 : Ct Sh m2 (.ref k :: [a1, a2]) M (RetV M2)) (k2 : Ev Sh m n ls rest M2 Q) : Ev Sh m pc ls (a2 :: a1 :: .ref k :: rest) M Q := ev_cV2 n hd hml hmo hrm him hob hle hw hn k1 (fun r M2 z => by obtain ⟨rfl, rfl⟩ := z; exact k2)
theorem ev_cS2 {Sh : Shp} {m m2 : MI} {pc : Nat} {ls rest : List Value} {M : Mm} {Q : Pst} {i : Nat} {a1 a2 : Value} {Q2 : Pst} (n : Nat) (hd : decode m.2.1 pc = .ok (.invokestatic i, 3)) (hml : ab_ML m.1.cls i m2) (hmo : ab_MO m2 2) (hrm : ab_RM m m2 = true) (hsm : ab_SM m2) (hle : (ab_ent0 [a1, a2]).length ≤ m2.2.2.1) (hw : (rest.map fun v => v.category).sum ≤ 8) (hn : pc + 3 = n) (k1 : Ct Sh m2 [a1, a2] M Q2) (k2 : ∀ (r : Option Value) (M2 : Mm), Q2 r M2 → Ev Sh m n ls (r.toList ++ rest) M2 Q) : Ev Sh m pc ls (a2 :: a1 :: rest) M Q := ev_callS n hd hml hmo hrm hsm (as := [a1, a2]) (rest := rest) rfl rfl hle hw hn k1 k2
theorem ev_cS2I {Sh : Shp} {m m2 : MI} {pc : Nat} {ls rest : List Value} {M : Mm} {Q : Pst} {i : Nat} {a1 a2 : Value} (v : Int32) (M2 : Mm) (n : Nat) (hd : decode m.2.1 pc = .ok (.invokestatic i, 3)) (hml : ab_ML m.1.cls i m2) (hmo : ab_MO m2 2) (hrm : ab_RM m m2 = true) (hsm : ab_SM m2) (hle : (ab_ent0 [a1, a2]).length ≤ m2.2.2.1) (hw : (rest.map fun v => v.category).sum ≤ 8) (hn : pc + 3 = n) (k1 : Ct Sh m2 [a1, a2] M (RetI v M2)) (k2 : Ev Sh m n ls (.int v :: rest) M2 Q) : Ev Sh m pc ls (a2 :: a1 :: rest) M Q := ev_cS2 n hd hml hmo hrm hsm hle hw hn k1 (fun r M2 z => by obtain ⟨rfl, rfl⟩ := z; exact k2)
theorem ev_cS2L {Sh : Shp} {m m2 : MI} {pc : Nat} {ls rest : List Value} {M : Mm} {Q : Pst} {i : Nat} {a1 a2 : Value} (v : Int64) (M2 : Mm) (n : Nat) (hd : decode m.2.1 pc = .ok (.invokestatic i, 3)) (hml : ab_ML m.1.cls i m2) (hmo : ab_MO m2 2) (hrm : ab_RM m m2 = true) (hsm : ab_SM m2) (hle : (ab_ent0 [a1, a2]).length ≤ m2.2.2.1) (hw : (rest.map fun v => v.category).sum ≤ 8) (hn : pc + 3 = n) (k1 : Ct Sh m2 [a1, a2] M (RetL v M2)) (k2 : Ev Sh m n ls (.long v :: rest) M2 Q) : Ev Sh m pc ls (a2 :: a1 :: rest) M Q := ev_cS2 n hd hml hmo hrm hsm hle hw hn k1 (fun r M2 z => by obtain ⟨rfl, rfl⟩ := z; exact k2)
theorem ev_cV3 {Sh : Shp} {m m2 : MI} {pc : Nat} {ls rest : List Value} {M : Mm} {Q : Pst} {i : Nat} {a1 a2 a3 : Value} {k : Nat} {Q2 : Pst} (n : Nat) (hd : decode m.2.1 pc = .ok (.invokevirtual i, 3)) (hml : ab_ML m.1.cls i m2) (hmo : ab_MO m2 3) (hrm : ab_RM m m2 = true) (him : ab_IM m2) (hob : ab_obj Sh k m2.1.cls) (hle : (ab_ent0 (.ref k :: [a1, a2, a3])).length ≤ m2.2.2.1) (hw : (rest.map fun v => v.category).sum ≤ 8) (hn : pc + 3 = n) (k1 : Ct Sh m2 (.ref k :: [a1, a2, a3]) M Q2) (k2 : ∀ (r : Option Value) (M2 : Mm), Q2 r M2 → Ev Sh m n ls (r.toList ++ rest) M2 Q) : Ev Sh m pc ls (a3 :: a2 :: a1 :: .ref k :: rest) M Q := ev_callV n hd hml hmo hrm him hob (as := [a1, a2, a3]) (rest := rest) rfl rfl hle hw hn k1 k2
theorem ev_cV3I {Sh : Shp} {m m2 : MI} {pc : Nat} {ls rest : List Value} {M : Mm} {Q : Pst} {i : Nat} {a1 a2 a3 : Value} {k : Nat} (v : Int32) (M2 : Mm) (n : Nat) (hd : decode m.2.1 pc = .ok (.invokevirtual i, 3)) (hml : ab_ML m.1.cls i m2) (hmo : ab_MO m2 3) (hrm : ab_RM m m2 = true) (him : ab_IM m2) (hob : ab_obj Sh k m2.1.cls) (hle : (ab_ent0 (.ref k :: [a1, a2, a3])).length ≤ m2.2.2.1) (hw : (rest.map fun v => v.category).sum ≤ 8) (hn : pc + 3 = n) (k1 : Ct Sh m2 (.ref k :: [a1, a2, a3]) M (RetI v M2)) (k2 : Ev Sh m n ls (.int v :: rest) M2 Q) : Ev Sh m pc ls (a3 :: a2 :: a1 :: .ref k :: rest) M Q := ev_cV3 n hd hml hmo hrm him hob hle hw hn k1 (fun r M2 z => by obtain ⟨rfl, rfl⟩ := z; exact k2)
theorem ev_cV3V {Sh : Shp} {m m2 : MI} {pc : Nat} {ls rest : List Value} {M : Mm} {Q : Pst} {i : Nat} {a1 a2 a3 : Value} {k : Nat} (M2 : Mm) (n : Nat) (hd : decode m.2.1 pc = .ok (.invokevirtual i, 3)) (hml : ab_ML m.1.cls i m2) (hmo : ab_MO m2 3) (hrm : ab_RM m m2 = true) (him : ab_IM m2) (hob : ab_obj Sh k m2.1.cls) (hle : (ab_ent0 (.ref k :: [a1, a2, a3])).length ≤ m2.2.2.1) (hw : (rest.map fun v => v.category).sum ≤ 8) (hn : pc + 3 = n) (k1 : Ct Sh m2 (.ref k :: [a1, a2, a3]) M (RetV M2)) (k2 : Ev Sh m n ls rest M2 Q) : Ev Sh m pc ls (a3 :: a2 :: a1 :: .ref k :: rest) M Q := ev_cV3 n hd hml hmo hrm him hob hle hw hn k1 (fun r M2 z => by obtain ⟨rfl, rfl⟩ := z; exact k2)
theorem ev_cS3 {Sh : Shp} {m m2 : MI} {pc : Nat} {ls rest : List Value} {M : Mm} {Q : Pst} {i : Nat} {a1 a2 a3 : Value} {Q2 : Pst} (n : Nat) (hd : decode m.2.1 pc = .ok (.invokestatic i, 3)) (hml : ab_ML m.1.cls i m2) (hmo : ab_MO m2 3) (hrm : ab_RM m m2 = true) (hsm : ab_SM m2) (hle : (ab_ent0 [a1, a2, a3]).length ≤ m2.2.2.1) (hw : (rest.map fun v => v.category).sum ≤ 8) (hn : pc + 3 = n) (k1 : Ct Sh m2 [a1, a2, a3] M Q2) (k2 : ∀ (r : Option Value) (M2 : Mm), Q2 r M2 → Ev Sh m n ls (r.toList ++ rest) M2 Q) : Ev Sh m pc ls (a3 :: a2 :: a1 :: rest) M Q := ev_callS n hd hml hmo hrm hsm (as := [a1, a2, a3]) (rest := rest) rfl rfl hle hw hn k1 k2
theorem ev_cS3I {Sh : Shp} {m m2 : MI} {pc : Nat} {ls rest : List Value} {M : Mm} {Q : Pst} {i : Nat} {a1 a2 a3 : Value} (v : Int32) (M2 : Mm) (n : Nat) (hd : decode m.2.1 pc = .ok (.invokestatic i, 3)) (hml : ab_ML m.1.cls i m2) (hmo : ab_MO m2 3) (hrm : ab_RM m m2 = true) (hsm : ab_SM m2) (hle : (ab_ent0 [a1, a2, a3]).length ≤ m2.2.2.1) (hw : (rest.map fun v => v.category).sum ≤ 8) (hn : pc + 3 = n) (k1 : Ct Sh m2 [a1, a2, a3] M (RetI v M2)) (k2 : Ev Sh m n ls (.int v :: rest) M2 Q) : Ev Sh m pc ls (a3 :: a2 :: a1 :: rest) M Q := ev_cS3 n hd hml hmo hrm hsm hle hw hn k1 (fun r M2 z => by obtain ⟨rfl, rfl⟩ := z; exact k2)
theorem ev_cS3L {Sh : Shp} {m m2 : MI} {pc : Nat} {ls rest : List Value} {M : Mm} {Q : Pst} {i : Nat} {a1 a2 a3 : Value} (v : Int64) (M2 : Mm) (n : Nat) (hd : decode m.2.1 pc = .ok (.invokestatic i, 3)) (hml : ab_ML m.1.cls i m2) (hmo : ab_MO m2 3) (hrm : ab_RM m m2 = true) (hsm : ab_SM m2) (hle : (ab_ent0 [a1, a2, a3]).length ≤ m2.2.2.1) (hw : (rest.map fun v => v.category).sum ≤ 8) (hn : pc + 3 = n) (k1 : Ct Sh m2 [a1, a2, a3] M (RetL v M2)) (k2 : Ev Sh m n ls (.long v :: rest) M2 Q) : Ev Sh m pc ls (a3 :: a2 :: a1 :: rest) M Q := ev_cS3 n hd hml hmo hrm hsm hle hw hn k1 (fun r M2 z => by obtain ⟨rfl, rfl⟩ := z; exact k2)
theorem ev_cV4 {Sh : Shp} {m m2 : MI} {pc : Nat} {ls rest : List Value} {M : Mm} {Q : Pst} {i : Nat} {a1 a2 a3 a4 : Value} {k : Nat} {Q2 : Pst} (n : Nat) (hd : decode m.2.1 pc = .ok (.invokevirtual i, 3)) (hml : ab_ML m.1.cls i m2) (hmo : ab_MO m2 4) (hrm : ab_RM m m2 = true) (him : ab_IM m2) (hob : ab_obj Sh k m2.1.cls) (hle : (ab_ent0 (.ref k :: [a1, a2, a3, a4])).length ≤ m2.2.2.1) (hw : (rest.map fun v => v.category).sum ≤ 8) (hn : pc + 3 = n) (k1 : Ct Sh m2 (.ref k :: [a1, a2, a3, a4]) M Q2) (k2 : ∀ (r : Option Value) (M2 : Mm), Q2 r M2 → Ev Sh m n ls (r.toList ++ rest) M2 Q) : Ev Sh m pc ls (a4 :: a3 :: a2 :: a1 :: .ref k :: rest) M Q := ev_callV n hd hml hmo hrm him hob (as := [a1, a2, a3, a4]) (rest := rest) rfl rfl hle hw hn k1 k2
theorem ev_cV4I {Sh : Shp} {m m2 : MI} {pc : Nat} {ls rest : List Value} {M : Mm} {Q : Pst} {i : Nat} {a1 a2 a3 a4 : Value} {k : Nat} (v : Int32) (M2 : Mm) (n : Nat) (hd : decode m.2.1 pc = .ok (.invokevirtual i, 3)) (hml : ab_ML m.1.cls i m2) (hmo : ab_MO m2 4) (hrm : ab_RM m m2 = true) (him : ab_IM m2) (hob : ab_obj Sh k m2.1.cls) (hle : (ab_ent0 (.ref k :: [a1, a2, a3, a4])).length ≤ m2.2.2.1) (hw : (rest.map fun v => v.category).sum ≤ 8) (hn : pc + 3 = n) (k1 : Ct Sh m2 (.ref k :: [a1, a2, a3, a4]) M (RetI v M2)) (k2 : Ev Sh m n ls (.int v :: rest) M2 Q) : Ev Sh m pc ls (a4 :: a3 :: a2 :: a1 :: .ref k :: rest) M Q := ev_cV4 n hd hml hmo hrm him hob hle hw hn k1 (fun r M2 z => by obtain ⟨rfl, rfl⟩ := z; exact k2)
theorem ev_cV4V {Sh : Shp} {m m2 : MI} {pc : Nat} {ls rest : List Value} {M : Mm} {Q : Pst} {i : Nat} {a1 a2 a3 a4 : Value} {k : Nat} (M2 : Mm) (n : Nat) (hd : decode m.2.1 pc = .ok (.invokevirtual i, 3)) (hml : ab_ML m.1.cls i m2) (hmo : ab_MO m2 4) (hrm : ab_RM m m2 = true) (him : ab_IM m2) (hob : ab_obj Sh k m2.1.cls) (hle : (ab_ent0 (.ref k :: [a1, a2, a3, a4])).length ≤ m2.2.2.1) (hw : (rest.map fun v => v.category).sum ≤ 8) (hn : pc + 3 = n) (k1 : Ct Sh m2 (.ref k :: [a1, a2, a3, a4]) M (RetV M2)) (k2 : Ev Sh m n ls rest M2 Q) : Ev Sh m pc ls (a4 :: a3 :: a2 :: a1 :: .ref k :: rest) M Q := ev_cV4 n hd hml hmo hrm him hob hle hw hn k1 (fun r M2 z => by obtain ⟨rfl, rfl⟩ := z; exact k2)
theorem ev_cS4 {Sh : Shp} {m m2 : MI} {pc : Nat} {ls rest : List Value} {M : Mm} {Q : Pst} {i : Nat} {a1 a2 a3 a4 : Value} {Q2 : Pst} (n : Nat) (hd : decode m.2.1 pc = .ok (.invokestatic i, 3)) (hml : ab_ML m.1.cls i m2) (hmo : ab_MO m2 4) (hrm : ab_RM m m2 = true) (hsm : ab_SM m2) (hle : (ab_ent0 [a1, a2, a3, a4]).length ≤ m2.2.2.1) (hw : (rest.map fun v => v.category).sum ≤ 8) (hn : pc + 3 = n) (k1 : Ct Sh m2 [a1, a2, a3, a4] M Q2) (k2 : ∀ (r : Option Value) (M2 : Mm), Q2 r M2 → Ev Sh m n ls (r.toList ++ rest) M2 Q) : Ev Sh m pc ls (a4 :: a3 :: a2 :: a1 :: rest) M Q := ev_callS n hd hml hmo hrm hsm (as := [a1, a2, a3, a4]) (rest := rest) rfl rfl hle hw hn k1 k2
theorem ev_cS4I {Sh : Shp} {m m2 : MI} {pc : Nat} {ls rest : List Value} {M : Mm} {Q : Pst} {i : Nat} {a1 a2 a3 a4 : Value} (v : Int32) (M2 : Mm) (n : Nat) (hd : decode m.2.1 pc = .ok (.invokestatic i, 3)) (hml : ab_ML m.1.cls i m2) (hmo : ab_MO m2 4) (hrm : ab_RM m m2 = true) (hsm : ab_SM m2) (hle : (ab_ent0 [a1, a2, a3, a4]).length ≤ m2.2.2.1) (hw : (rest.map fun v => v.category).sum ≤ 8) (hn : pc + 3 = n) (k1 : Ct Sh m2 [a1, a2, a3, a4] M (RetI v M2)) (k2 : Ev Sh m n ls (.int v :: rest) M2 Q) : Ev Sh m pc ls (a4 :: a3 :: a2 :: a1 :: rest) M Q := ev_cS4 n hd hml hmo hrm hsm hle hw hn k1 (fun r M2 z => by obtain ⟨rfl, rfl⟩ := z; exact k2)
theorem ev_cS4L {Sh : Shp} {m m2 : MI} {pc : Nat} {ls rest : List Value} {M : Mm} {Q : Pst} {i : Nat} {a1 a2 a3 a4 : Value} (v : Int64) (M2 : Mm) (n : Nat) (hd : decode m.2.1 pc = .ok (.invokestatic i, 3)) (hml : ab_ML m.1.cls i m2) (hmo : ab_MO m2 4) (hrm : ab_RM m m2 = true) (hsm : ab_SM m2) (hle : (ab_ent0 [a1, a2, a3, a4]).length ≤ m2.2.2.1) (hw : (rest.map fun v => v.category).sum ≤ 8) (hn : pc + 3 = n) (k1 : Ct Sh m2 [a1, a2, a3, a4] M (RetL v M2)) (k2 : Ev Sh m n ls (.long v :: rest) M2 Q) : Ev Sh m pc ls (a4 :: a3 :: a2 :: a1 :: rest) M Q := ev_cS4 n hd hml hmo hrm hsm hle hw hn k1 (fun r M2 z => by obtain ⟨rfl, rfl⟩ := z; exact k2)
theorem ev_cV5 {Sh : Shp} {m m2 : MI} {pc : Nat} {ls rest : List Value} {M : Mm} {Q : Pst} {i : Nat} {a1 a2 a3 a4 a5 : Value} {k : Nat} {Q2 : Pst} (n : Nat) (hd : decode m.2.1 pc = .ok (.invokevirtual i, 3)) (hml : ab_ML m.1.cls i m2) (hmo : ab_MO m2 5) (hrm : ab_RM m m2 = true) (him : ab_IM m2) (hob : ab_obj Sh k m2.1.cls) (hle : (ab_ent0 (.ref k :: [a1, a2, a3, a4, a5])).length ≤ m2.2.2.1) (hw : (rest.map fun v => v.category).sum ≤ 8) (hn : pc + 3 = n) (k1 : Ct Sh m2 (.ref k :: [a1, a2, a3, a4, a5]) M Q2) (k2 : ∀ (r : Option Value) (M2 : Mm), Q2 r M2 → Ev Sh m n ls (r.toList ++ rest) M2 Q) : Ev Sh m pc ls (a5 :: a4 :: a3 :: a2 :: a1 :: .ref k :: rest) M Q := ev_callV n hd hml hmo hrm him hob (as := [a1, a2, a3, a4, a5]) (rest := rest) rfl rfl hle hw hn k1 k2
theorem ev_cV5I {Sh : Shp} {m m2 : MI} {pc : Nat} {ls rest : List Value} {M : Mm} {Q : Pst} {i : Nat} {a1 a2 a3 a4 a5 : Value} {k : Nat} (v : Int32) (M2 : Mm) (n : Nat) (hd : decode m.2.1 pc = .ok (.invokevirtual i, 3)) (hml : ab_ML m.1.cls i m2) (hmo : ab_MO m2 5) (hrm : ab_RM m m2 = true) (him : ab_IM m2) (hob : ab_obj Sh k m2.1.cls) (hle : (ab_ent0 (.ref k :: [a1, a2, a3, a4, a5])).length ≤ m2.2.2.1) (hw : (rest.map fun v => v.category).sum ≤ 8) (hn : pc + 3 = n) (k1 : Ct Sh m2 (.ref k :: [a1, a2, a3, a4, a5]) M (RetI v M2)) (k2 : Ev Sh m n ls (.int v :: rest) M2 Q) : Ev Sh m pc ls (a5 :: a4 :: a3 :: a2 :: a1 :: .ref k :: rest) M Q := ev_cV5 n hd hml hmo hrm him hob hle hw hn k1 (fun r M2 z => by obtain ⟨rfl, rfl⟩ := z; exact k2)
theorem ev_cV5V {Sh : Shp} {m m2 : MI} {pc : Nat} {ls rest : List Value} {M : Mm} {Q : Pst} {i : Nat} {a1 a2 a3 a4 a5 : Value} {k : Nat} (M2 : Mm) (n : Nat) (hd : decode m.2.1 pc = .ok (.invokevirtual i, 3)) (hml : ab_ML m.1.cls i m2) (hmo : ab_MO m2 5) (hrm : ab_RM m m2 = true) (him : ab_IM m2) (hob : ab_obj Sh k m2.1.cls) (hle : (ab_ent0 (.ref k :: [a1, a2, a3, a4, a5])).length ≤ m2.2.2.1) (hw : (rest.map fun v => v.category).sum ≤ 8) (hn : pc + 3 = n) (k1 : Ct Sh m2 (.ref k :: [a1, a2, a3, a4, a5]) M (RetV M2)) (k2 : Ev Sh m n ls rest M2 Q) : Ev Sh m pc ls (a5 :: a4 :: a3 :: a2 :: a1 :: .ref k :: rest) M Q := ev_cV5 n hd hml hmo hrm him hob hle hw hn k1 (fun r M2 z => by obtain ⟨rfl, rfl⟩ := z; exact k2)
theorem ev_cS5 {Sh : Shp} {m m2 : MI} {pc : Nat} {ls rest : List Value} {M : Mm} {Q : Pst} {i : Nat} {a1 a2 a3 a4 a5 : Value} {Q2 : Pst} (n : Nat) (hd : decode m.2.1 pc = .ok (.invokestatic i, 3)) (hml : ab_ML m.1.cls i m2) (hmo : ab_MO m2 5) (hrm : ab_RM m m2 = true) (hsm : ab_SM m2) (hle : (ab_ent0 [a1, a2, a3, a4, a5]).length ≤ m2.2.2.1) (hw : (rest.map fun v => v.category).sum ≤ 8) (hn : pc + 3 = n) (k1 : Ct Sh m2 [a1, a2, a3, a4, a5] M Q2) (k2 : ∀ (r : Option Value) (M2 : Mm), Q2 r M2 → Ev Sh m n ls (r.toList ++ rest) M2 Q) : Ev Sh m pc ls (a5 :: a4 :: a3 :: a2 :: a1 :: rest) M Q := ev_callS n hd hml hmo hrm hsm (as := [a1, a2, a3, a4, a5]) (rest := rest) rfl rfl hle hw hn k1 k2
theorem ev_cS5I {Sh : Shp} {m m2 : MI} {pc : Nat} {ls rest : List Value} {M : Mm} {Q : Pst} {i : Nat} {a1 a2 a3 a4 a5 : Value} (v : Int32) (M2 : Mm) (n : Nat) (hd : decode m.2.1 pc = .ok (.invokestatic i, 3)) (hml : ab_ML m.1.cls i m2) (hmo : ab_MO m2 5) (hrm : ab_RM m m2 = true) (hsm : ab_SM m2) (hle : (ab_ent0 [a1, a2, a3, a4, a5]).length ≤ m2.2.2.1) (hw : (rest.map fun v => v.category).sum ≤ 8) (hn : pc + 3 = n) (k1 : Ct Sh m2 [a1, a2, a3, a4, a5] M (RetI v M2)) (k2 : Ev Sh m n ls (.int v :: rest) M2 Q) : Ev Sh m pc ls (a5 :: a4 :: a3 :: a2 :: a1 :: rest) M Q := ev_cS5 n hd hml hmo hrm hsm hle hw hn k1 (fun r M2 z => by obtain ⟨rfl, rfl⟩ := z; exact k2)
theorem ev_cS5L {Sh : Shp} {m m2 : MI} {pc : Nat} {ls rest : List Value} {M : Mm} {Q : Pst} {i : Nat} {a1 a2 a3 a4 a5 : Value} (v : Int64) (M2 : Mm) (n : Nat) (hd : decode m.2.1 pc = .ok (.invokestatic i, 3)) (hml : ab_ML m.1.cls i m2) (hmo : ab_MO m2 5) (hrm : ab_RM m m2 = true) (hsm : ab_SM m2) (hle : (ab_ent0 [a1, a2, a3, a4, a5]).length ≤ m2.2.2.1) (hw : (rest.map fun v => v.category).sum ≤ 8) (hn : pc + 3 = n) (k1 : Ct Sh m2 [a1, a2, a3, a4, a5] M (RetL v M2)) (k2 : Ev Sh m n ls (.long v :: rest) M2 Q) : Ev Sh m pc ls (a5 :: a4 :: a3 :: a2 :: a1 :: rest) M Q := ev_cS5 n hd hml hmo hrm hsm hle hw hn k1 (fun r M2 z => by obtain ⟨rfl, rfl⟩ := z; exact k2)
end
section
/-! rows pasted from kit/laws: bits of Int32, numbers, counts -/
def bt (x : Int32) (i : Nat) : Bool := x.toBitVec.getLsbD i
theorem b_ext {x y : Int32} (h : ∀ i, i < 32 → bt x i = bt y i) : x = y := Int32.toBitVec_inj.mp (BitVec.eq_of_getLsbD_eq (fun i hi => h i hi))
theorem b_or (x y : Int32) (i : Nat) : bt (x ||| y) i = (bt x i || bt y i) := by unfold bt; rw [Int32.toBitVec_or, BitVec.getLsbD_or]
theorem b_and (x y : Int32) (i : Nat) : bt (x &&& y) i = (bt x i && bt y i) := by unfold bt; rw [Int32.toBitVec_and, BitVec.getLsbD_and]
theorem b_xor (x y : Int32) (i : Nat) : bt (x ^^^ y) i = (bt x i ^^ bt y i) := by unfold bt; rw [Int32.toBitVec_xor, BitVec.getLsbD_xor]
theorem b_big {x : Int32} {i : Nat} (h : 32 ≤ i) : bt x i = false := BitVec.getLsbD_of_ge _ _ h
theorem b_255 (i : Nat) : bt 255 i = decide (i < 8) := by
  rcases Nat.lt_or_ge i 32 with h | h
  · exact (by decide +kernel : ∀ i, i < 32 → bt 255 i = decide (i < 8)) i h
  · rw [b_big h, decide_eq_false (by omega)]
theorem b_65535 (i : Nat) : bt 65535 i = decide (i < 16) := by
  rcases Nat.lt_or_ge i 32 with h | h
  · exact (by decide +kernel : ∀ i, i < 32 → bt 65535 i = decide (i < 16)) i h
  · rw [b_big h, decide_eq_false (by omega)]
theorem b_m1 : ∀ i, i < 32 → bt (-1) i = true := by decide +kernel
theorem b_0 (i : Nat) : bt 0 i = false := BitVec.getLsbD_zero
theorem s_l : ∀ n, n < 32 → ((nI n &&& 31).toBitVec.smod 32).toNat = n := by decide +kernel
theorem s_u : ∀ n, n < 32 → (((nI n).toUInt32 &&& Int32.toUInt32 31).toBitVec % 32).toNat = n := by decide +kernel
theorem b_shl (n : Nat) (hn : n < 32) (x : Int32) {i : Nat} (hi : i < 32) : bt (x <<< (nI n &&& 31)) i = (decide (n ≤ i) && bt x (i - n)) := by
  unfold bt
  rw [Int32.toBitVec_shiftLeft]
  show (x.toBitVec <<< ((nI n &&& 31).toBitVec.smod 32).toNat).getLsbD i = _
  rw [s_l n hn, BitVec.getLsbD_shiftLeft]
  rcases Nat.lt_or_ge i n with h | h
  · simp [h, Nat.not_le.mpr h]
  · simp [hi, h, Nat.not_lt.mpr h]
theorem b_ushr (n : Nat) (hn : n < 32) (x : Int32) (i : Nat) : bt ((x.toUInt32 >>> ((nI n).toUInt32 &&& Int32.toUInt32 31)).toInt32) i = bt x (n + i) := by
  show (x.toUInt32 >>> ((nI n).toUInt32 &&& Int32.toUInt32 31)).toBitVec.getLsbD i = x.toUInt32.toBitVec.getLsbD (n + i)
  rw [UInt32.toBitVec_shiftRight]
  show (x.toUInt32.toBitVec >>> (((nI n).toUInt32 &&& Int32.toUInt32 31).toBitVec % 32).toNat).getLsbD i = _
  rw [s_u n hn, BitVec.getLsbD_ushiftRight]
theorem b_sshr (n : Nat) (hn : n < 32) (x : Int32) {i : Nat} (hi : i < 32) : bt (x >>> (nI n &&& 31)) i = if n + i < 32 then bt x (n + i) else bt x 31 := by
  unfold bt
  rw [Int32.toBitVec_shiftRight]
  show (x.toBitVec.sshiftRight ((nI n &&& 31).toBitVec.smod 32).toNat).getLsbD i = _
  rw [s_l n hn, BitVec.getLsbD_sshiftRight, BitVec.msb_eq_getLsbD_last]
  simp [hi]
theorem b_shl8 (x : Int32) {i : Nat} (hi : i < 32) : bt (x <<< ((8 : Int32) &&& 31)) i = (decide (8 ≤ i) && bt x (i - 8)) := b_shl 8 (by omega) x hi
theorem b_shl16 (x : Int32) {i : Nat} (hi : i < 32) : bt (x <<< ((16 : Int32) &&& 31)) i = (decide (16 ≤ i) && bt x (i - 16)) := b_shl 16 (by omega) x hi
theorem b_shl24 (x : Int32) {i : Nat} (hi : i < 32) : bt (x <<< ((24 : Int32) &&& 31)) i = (decide (24 ≤ i) && bt x (i - 24)) := b_shl 24 (by omega) x hi
theorem b_sshr8 (x : Int32) {i : Nat} (hi : i < 32) : bt (x >>> ((8 : Int32) &&& 31)) i = if 8 + i < 32 then bt x (8 + i) else bt x 31 := b_sshr 8 (by omega) x hi
/-! ===== order of ints, in all its forms, and through longs ===== -/
theorem fa_lt (a b : Int32) : a < b ↔ a.toInt < b.toInt := Int32.lt_iff_toInt_lt
theorem fa_le (a b : Int32) : a ≤ b ↔ a.toInt ≤ b.toInt := Int32.le_iff_toInt_le
theorem fa_eq (a b : Int32) : a = b ↔ a.toInt = b.toInt := Int32.toInt_inj.symm
theorem fa_lt64 (a b : Int64) : a < b ↔ a.toInt < b.toInt := Int64.lt_iff_toInt_lt
theorem fa_le64 (a b : Int64) : a ≤ b ↔ a.toInt ≤ b.toInt := Int64.le_iff_toInt_le
theorem fa_eq64 (a b : Int64) : a = b ↔ a.toInt = b.toInt := Int64.toInt_inj.symm
/-- a comparison of two ints taken as longs -/
theorem fa_wide_lt (a b : Int32) : a.toInt64 < b.toInt64 ↔ a < b := by rw [fa_lt64, fa_lt, Int32.toInt_toInt64, Int32.toInt_toInt64]
theorem fa_wide_le (a b : Int32) : a.toInt64 ≤ b.toInt64 ↔ a ≤ b := by rw [fa_le64, fa_le, Int32.toInt_toInt64, Int32.toInt_toInt64]
theorem fa_wide_eq (a b : Int32) : a.toInt64 = b.toInt64 ↔ a = b := by rw [fa_eq64, fa_eq, Int32.toInt_toInt64, Int32.toInt_toInt64]
/-- one strict comparison gives all the others -/
theorem fa_of_lt {a b : Int32} (h : a < b) : a ≤ b ∧ ¬ b ≤ a ∧ ¬ b < a ∧ a ≠ b ∧ b ≠ a := by
  rw [fa_lt] at h
  refine ⟨?_, ?_, ?_, ?_, ?_⟩
  · rw [fa_le]; omega
  · rw [fa_le]; omega
  · rw [fa_lt]; omega
  · intro e; rw [fa_eq] at e; omega
  · intro e; rw [fa_eq] at e; omega
theorem fa_of_nlt {a b : Int32} (h : ¬ a < b) : b ≤ a := by
  rw [fa_lt] at h
  rw [fa_le]
  omega
theorem fa_of_nle {a b : Int32} (h : ¬ a ≤ b) : b < a := by
  rw [fa_le] at h
  rw [fa_lt]
  omega
theorem fa_le_ne {a b : Int32} (h : a ≤ b) (h2 : a ≠ b) : a < b := by
  rw [fa_le] at h
  rw [fa_lt]
  have h3 : a.toInt ≠ b.toInt := fun e => h2 ((fa_eq a b).mpr e)
  omega
theorem fa_three (a b : Int32) : a < b ∨ a = b ∨ b < a := by
  rw [fa_lt, fa_lt, fa_eq]
  omega
theorem fa_trans {a b c : Int32} (h : a < b) (h2 : b ≤ c) : a < c := by
  rw [fa_lt] at *
  rw [fa_le] at h2
  omega
/-! ===== small literals as numbers ===== -/
theorem fa_lit (n : Nat) : (OfNat.ofNat n : Int32) = nI n := rfl
theorem fa_litL (n : Nat) : (OfNat.ofNat n : Int64) = lN n := rfl
/-! ===== bits of a number: 'or', masks, one bit ===== -/
theorem fa_and (a b : Nat) : nI a &&& nI b = nI (a &&& b) := by
  apply Int32.toBitVec_inj.1
  show BitVec.ofNat 32 a &&& BitVec.ofNat 32 b = BitVec.ofNat 32 (a &&& b)
  apply BitVec.eq_of_getLsbD_eq
  intro i hi
  simp [hi]
theorem fa_or (a b : Nat) : nI a ||| nI b = nI (a ||| b) := by
  apply Int32.toBitVec_inj.1
  show BitVec.ofNat 32 a ||| BitVec.ofNat 32 b = BitVec.ofNat 32 (a ||| b)
  apply BitVec.eq_of_getLsbD_eq
  intro i hi
  simp [hi]
/-- a remainder by a power of two, as a mask -/
theorem fa_mask (n k : Nat) : nI n &&& nI (2 ^ k - 1) = nI (n % 2 ^ k) := by rw [fa_and, Nat.and_two_pow_sub_one_eq_mod]
/-- 'or' of a high part and a low one that don't meet is their sum -/
theorem fa_or_sum {a k : Nat} (b : Nat) (h : a < 2 ^ k) : nI (2 ^ k * b) ||| nI a = nI (2 ^ k * b + a) := by rw [fa_or, Nat.two_pow_add_eq_or_of_lt h]
/-- one bit, by 'and' with a power of two -/
theorem fa_bit {n j : Nat} (hj : j < 31) : nI n &&& nI (2 ^ j) = 0 ↔ n.testBit j = false := by
  have h2 : (2 : Nat) ^ j < 2 ^ 31 := Nat.pow_lt_pow_right (by decide) hj
  have hle : n &&& 2 ^ j ≤ 2 ^ j := Nat.and_le_right
  have e : n &&& 2 ^ j = 0 ↔ n.testBit j = false := by
    constructor
    · intro h
      have h1 : (n &&& 2 ^ j).testBit j = false := by rw [h]; simp
      rw [Nat.testBit_and] at h1
      first | simpa using h1 | simpa [Nat.testBit_two_pow_self] using h1 | simpa [Nat.testBit_two_pow] using h1
    · intro h
      apply Nat.eq_of_testBit_eq
      intro i
      rw [Nat.testBit_and]
      by_cases hi : j = i
      · subst hi; simp [h]
      · first | (simp [Nat.testBit_two_pow, hi]; done) | (simp [Nat.testBit_two_pow_of_ne hi]; done)
  rw [fa_and]
  constructor
  · intro h
    apply e.mp
    rcases Nat.eq_zero_or_pos (n &&& 2 ^ j) with z | z
    · exact z
    · exact absurd h (nI_ne0 z (Nat.lt_of_le_of_lt hle h2))
  · intro h
    rw [e.mpr h]; exact nI_0
/-- a remainder by a power of two of a number that isn't negative, as Java divides -/
theorem fa_rem {a k : Nat} (ha : a < 2 ^ 31) (hk : k < 31) : nI a - nI a / nI (2 ^ k) * nI (2 ^ k) = nI (a % 2 ^ k) := pk_rem ha (Nat.two_pow_pos k) (Nat.pow_lt_pow_right (by decide) hk)
/-! ===== cuts to a byte, a short ===== -/
theorem fa_byte_xor (x y : Int32) : (x ^^^ y).toInt8 = x.toInt8 ^^^ y.toInt8 := by
  apply Int8.toBitVec_inj.1
  apply BitVec.eq_of_getLsbD_eq
  intro i hi
  first | (simp [hi]; done) | (simp [hi, BitVec.getLsbD_setWidth, BitVec.getLsbD_signExtend]; done)
theorem fa_short_xor (x y : Int32) : (x ^^^ y).toInt16 = x.toInt16 ^^^ y.toInt16 := by
  apply Int16.toBitVec_inj.1
  apply BitVec.eq_of_getLsbD_eq
  intro i hi
  first | (simp [hi]; done) | (simp [hi, BitVec.getLsbD_setWidth, BitVec.getLsbD_signExtend]; done)
/-- the cut to a byte sees the low byte alone -/
theorem fa_byte_low (x : Int32) : (x &&& 255).toInt8 = x.toInt8 := by
  apply Int8.toBitVec_inj.1
  apply BitVec.eq_of_getLsbD_eq
  intro i hi
  have h2 : (255 : Int32).toBitVec.getLsbD i = true := by
    have : ∀ j : Fin 8, (255 : Int32).toBitVec.getLsbD j.val = true := by decide +kernel
    exact this ⟨i, hi⟩
  have h4 : (x &&& 255).toBitVec.getLsbD i = x.toBitVec.getLsbD i := by
    show (x.toBitVec &&& (255 : Int32).toBitVec).getLsbD i = _
    rw [BitVec.getLsbD_and, h2, Bool.and_true]
  have h3 : i < 32 := by omega
  first
    | (show (((x &&& 255).toBitVec).signExtend 8).getLsbD i = (x.toBitVec.signExtend 8).getLsbD i; rw [BitVec.getLsbD_signExtend, BitVec.getLsbD_signExtend, if_pos h3, if_pos h3, h4])
    | (show (((x &&& 255).toBitVec).setWidth 8).getLsbD i = (x.toBitVec.setWidth 8).getLsbD i; rw [BitVec.getLsbD_setWidth, BitVec.getLsbD_setWidth, h4])
    | (simp [hi, h3, h4]; done)
theorem fa_short_low (x : Int32) : (x &&& 65535).toInt16 = x.toInt16 := by
  apply Int16.toBitVec_inj.1
  apply BitVec.eq_of_getLsbD_eq
  intro i hi
  have h2 : (65535 : Int32).toBitVec.getLsbD i = true := by
    have : ∀ j : Fin 16, (65535 : Int32).toBitVec.getLsbD j.val = true := by decide +kernel
    exact this ⟨i, hi⟩
  have h4 : (x &&& 65535).toBitVec.getLsbD i = x.toBitVec.getLsbD i := by
    show (x.toBitVec &&& (65535 : Int32).toBitVec).getLsbD i = _
    rw [BitVec.getLsbD_and, h2, Bool.and_true]
  have h3 : i < 32 := by omega
  first
    | (show (((x &&& 65535).toBitVec).signExtend 16).getLsbD i = (x.toBitVec.signExtend 16).getLsbD i; rw [BitVec.getLsbD_signExtend, BitVec.getLsbD_signExtend, if_pos h3, if_pos h3, h4])
    | (show (((x &&& 65535).toBitVec).setWidth 16).getLsbD i = (x.toBitVec.setWidth 16).getLsbD i; rw [BitVec.getLsbD_setWidth, BitVec.getLsbD_setWidth, h4])
    | (simp [hi, h3, h4]; done)
/-- a small number is its own byte, its own short -/
theorem fa_byte_small {n : Nat} (h : n < 128) : (nI n).toInt8.toInt32 = nI n := by
  have : ∀ j : Fin 128, (nI j.val).toInt8.toInt32 = nI j.val := by decide +kernel
  exact this ⟨n, h⟩
/-! ===== absolute difference ===== -/
theorem fa_absdiff {a b : Nat} (ha : a < 2 ^ 31) (hb : b < 2 ^ 31) : (if nI a < nI b then nI b - nI a else nI a - nI b) = nI (if a < b then b - a else a - b) := by
  by_cases h : a < b
  · rw [if_pos (nI_lt h hb), if_pos h]
    exact pk_sub (Nat.le_of_lt h)
  · rw [if_neg (nI_nlt (Nat.le_of_not_lt h) ha), if_neg h]
    exact pk_sub (Nat.le_of_not_lt h)
/-! ===== an array behind i stores, a conditional store, a row copied ===== -/
/-- f where k < i, what stood there else -/
def fa_fill {α : Type} (f g : Nat → α) (i : Nat) : Nat → α := fun k => if k < i then f k else g k
theorem fa_fill_0 {α : Type} (f g : Nat → α) : fa_fill f g 0 = g := funext fun k => if_neg (Nat.not_lt_zero k)
theorem fa_fill_in {α : Type} {f g : Nat → α} {i k : Nat} (h : k < i) : fa_fill f g i k = f k := if_pos h
theorem fa_fill_out {α : Type} {f g : Nat → α} {i k : Nat} (h : i ≤ k) : fa_fill f g i k = g k := if_neg (Nat.not_lt.mpr h)
theorem fa_fill_succ (f g : Nat → Int32) (i : Nat) : upd (fa_fill f g i) i (f i) = fa_fill f g (i + 1) := by
  funext k
  by_cases e : k = i
  · subst e
    rw [pk_us]
    exact (if_pos (Nat.lt_succ_self k)).symm
  · rw [pk_un e]
    by_cases h : k < i
    · rw [fa_fill_in h, fa_fill_in (Nat.lt_succ_of_lt h)]
    · rw [fa_fill_out (Nat.le_of_not_lt h), fa_fill_out (by omega)]
/-- a store that changes nothing -/
theorem fa_upd_same {f : Nat → Int32} {i : Nat} {x : Int32} (h : f i = x) : upd f i x = f := by
  funext k
  by_cases e : k = i
  · subst e
    rw [pk_us, h]
  · rw [pk_un e]
/-- a store under a condition, told as one -/
theorem fa_upd_if (c : Prop) [Decidable c] (f : Nat → Int32) (i : Nat) (x : Int32) : (if c then upd f i x else f) = upd f i (if c then x else f i) := by
  by_cases h : c
  · rw [if_pos h, if_pos h]
  · rw [if_neg h, if_neg h, fa_upd_same rfl]
/-- two stores at one place, at two -/
theorem fa_upd_twice (f : Nat → Int32) (i : Nat) (x y : Int32) : upd (upd f i x) i y = upd f i y := by
  funext k
  by_cases e : k = i
  · subst e
    rw [pk_us, pk_us]
  · rw [pk_un e, pk_un e, pk_un e]
theorem fa_upd_swap (f : Nat → Int32) {i j : Nat} (h : i ≠ j) (x y : Int32) : upd (upd f i x) j y = upd (upd f j y) i x := by
  funext k
  by_cases e : k = i
  · subst e
    rw [pk_un h, pk_us, pk_us]
  · by_cases e2 : k = j
    · subst e2
      rw [pk_us, pk_un e, pk_us]
    · rw [pk_un e2, pk_un e, pk_un e, pk_un e2]
/-! ===== the first index with a property; a count ===== -/
/-- the first k < n with p k, n if there is none -/
def fa_first (p : Nat → Bool) : Nat → Nat
  | 0 => 0
  | n + 1 => if fa_first p n < n then fa_first p n else if p n then n else n + 1
theorem fa_first_le (p : Nat → Bool) : ∀ n, fa_first p n ≤ n
  | 0 => Nat.le_refl 0
  | n + 1 => by
    have ih := fa_first_le p n
    unfold fa_first
    split
    · omega
    · split
      · omega
      · omega
theorem fa_first_no (p : Nat → Bool) : ∀ n k, k < fa_first p n → p k = false
  | 0, k, h => absurd h (Nat.not_lt_zero k)
  | n + 1, k, h => by
    have ih := fa_first_no p n
    have hl := fa_first_le p n
    unfold fa_first at h
    split at h
    · exact ih k h
    · rename_i h1
      split at h
      · exact ih k (by omega)
      · rename_i h2
        by_cases e : k = n
        · subst e
          exact Bool.eq_false_iff.mpr h2
        · exact ih k (by omega)
theorem fa_first_yes (p : Nat → Bool) : ∀ n, fa_first p n < n → p (fa_first p n) = true
  | 0, h => absurd h (Nat.not_lt_zero _)
  | n + 1, h => by
    have ih := fa_first_yes p n
    have hl := fa_first_le p n
    unfold fa_first at h ⊢
    split at h
    · rename_i h1
      rw [if_pos h1]
      exact ih h1
    · rename_i h1
      rw [if_neg h1]
      split at h
      · rename_i h2
        rw [if_pos h2]
        exact h2
      · omega
/-- how many k < n have p k -/
def fa_cnt (p : Nat → Bool) : Nat → Nat
  | 0 => 0
  | n + 1 => fa_cnt p n + if p n then 1 else 0
theorem fa_cnt_le (p : Nat → Bool) : ∀ n, fa_cnt p n ≤ n
  | 0 => Nat.le_refl 0
  | n + 1 => by
    have ih := fa_cnt_le p n
    unfold fa_cnt
    split
    · omega
    · omega
theorem fa_cnt_yes {p : Nat → Bool} {n : Nat} (h : p n = true) : fa_cnt p (n + 1) = fa_cnt p n + 1 := by rw [fa_cnt, if_pos h]
theorem fa_cnt_no {p : Nat → Bool} {n : Nat} (h : p n = false) : fa_cnt p (n + 1) = fa_cnt p n := by rw [fa_cnt, if_neg (by rw [h]; decide)]; rfl
theorem fa_cnt_cong {p q : Nat → Bool} : ∀ {n : Nat}, (∀ k, k < n → p k = q k) → fa_cnt p n = fa_cnt q n
  | 0, _ => rfl
  | n + 1, h => by rw [fa_cnt, fa_cnt, fa_cnt_cong (fun k hk => h k (Nat.lt_succ_of_lt hk)), h n (Nat.lt_succ_self n)]
/-! ===== an answer carried into a post; a branch on a boolean answer ===== -/
theorem fa_post {α : Type} {P : α → Prop} {x y : α} (h : x = y) (hp : P y) : P x := h ▸ hp
theorem fa_post2 {α β : Type} {P : α → β → Prop} {x y : α} {u v : β} (h : x = y) (h2 : u = v) (hp : P y v) : P x u := h ▸ h2 ▸ hp
theorem fa_bool {r : Int32} {b : Bool} (h : r = if b then 1 else 0) : (r = 0 ↔ b = false) ∧ (¬ r = 0 ↔ b = true) := by
  subst h
  cases b
  · exact ⟨⟨fun _ => rfl, fun _ => rfl⟩, ⟨fun h => absurd rfl h, fun h => absurd h (by decide)⟩⟩
  · exact ⟨⟨fun h => absurd h (by decide), fun h => absurd h (by decide)⟩, ⟨fun _ => rfl, fun _ => by decide⟩⟩
/-- a boolean's narrowing changes nothing -/
theorem fa_bool_and {r : Int32} (h : r = 0 ∨ r = 1) : r &&& 1 = r := by
  rcases h with rfl | rfl
  · decide
  · decide
theorem fa_bool_prop {c : Prop} [Decidable c] {r : Int32} (h : r = if c then 1 else 0) : (r = 0 ↔ ¬ c) ∧ (¬ r = 0 ↔ c) := by
  subst h
  by_cases hc : c
  · rw [if_pos hc]
    exact ⟨⟨fun h => absurd h (by decide), fun h => absurd hc h⟩, ⟨fun _ => hc, fun _ => by decide⟩⟩
  · rw [if_neg hc]
    exact ⟨⟨fun _ => hc, fun _ => rfl⟩, ⟨fun h => absurd rfl h, fun h => absurd h hc⟩⟩

/-! ===== drawers: more things than places ===== -/
theorem fb_holes : ∀ (m n : Nat) (f : Nat → Nat), (∀ i, i < n → f i < m) → (∀ i j, i < j → j < n → f i ≠ f j) → n ≤ m := by
  intro m
  induction m with
  | zero =>
    intro n f h1 _
    rcases Nat.eq_zero_or_pos n with h | h
    · omega
    · exact absurd (h1 0 h) (Nat.not_lt_zero _)
  | succ m ih =>
    intro n f h1 h2
    by_cases hx : ∃ i, i < n ∧ f i = m
    · obtain ⟨a, ha, hfa⟩ := hx
      have hg := ih (n - 1) (fun i => if i < a then f i else f (i + 1)) (by
        intro i hi
        by_cases q : i < a
        · simp only [if_pos q]
          have b1 := h1 i (by omega)
          have b2 := h2 i a q ha
          omega
        · simp only [if_neg q]
          have b1 := h1 (i + 1) (by omega)
          have b2 := h2 a (i + 1) (by omega) (by omega)
          omega) (by
        intro i j hij hj
        by_cases q : i < a
        · by_cases r : j < a
          · simp only [if_pos q, if_pos r]
            exact h2 i j hij (by omega)
          · simp only [if_pos q, if_neg r]
            exact h2 i (j + 1) (by omega) (by omega)
        · have r : ¬ j < a := by omega
          simp only [if_neg q, if_neg r]
          exact h2 (i + 1) (j + 1) (by omega) (by omega))
      omega
    · have hg := ih n f (fun i hi => by
        have b1 := h1 i hi
        have b2 : f i ≠ m := fun e => hx ⟨i, hi, e⟩
        omega) h2
      omega
/-- two of them in one place -/
theorem fb_twice {m n : Nat} {f : Nat → Nat} (h : ∀ i, i < n → f i < m) (hm : m < n) : ∃ i j, i < j ∧ j < n ∧ f i = f j := by
  refine Classical.byContradiction fun hx => ?_
  have := fb_holes m n f h (fun i j hij hj e => hx ⟨i, j, hij, hj, e⟩)
  omega
/-- as many as places, none twice: each place is taken -/
theorem fb_onto {n : Nat} {f : Nat → Nat} (h : ∀ i, i < n → f i < n) (h2 : ∀ i j, i < j → j < n → f i ≠ f j) {y : Nat} (hy : y < n) : ∃ i, i < n ∧ f i = y := by
  refine Classical.byContradiction fun hx => ?_
  have hne : ∀ i, i < n → f i ≠ y := fun i hi e => hx ⟨i, hi, e⟩
  have := fb_holes (n - 1) n (fun i => if f i < y then f i else f i - 1) (by
    intro i hi
    have b1 := h i hi
    have b2 := hne i hi
    by_cases q : f i < y
    · simp only [if_pos q]; omega
    · simp only [if_neg q]; omega) (by
    intro i j hij hj
    have b1 := hne i (by omega)
    have b2 := hne j hj
    have b3 := h2 i j hij hj
    by_cases q : f i < y
    · by_cases r : f j < y
      · simp only [if_pos q, if_pos r]; exact b3
      · simp only [if_pos q, if_neg r]; omega
    · by_cases r : f j < y
      · simp only [if_neg q, if_pos r]; omega
      · simp only [if_neg q, if_neg r]; omega)
  omega
/-! ===== how many places have a property ===== -/
def fb_ct (p : Nat → Bool) : Nat → Nat
  | 0 => 0
  | n + 1 => fb_ct p n + (if p n then 1 else 0)
theorem fb_ct_succ (p : Nat → Bool) (n : Nat) : fb_ct p (n + 1) = fb_ct p n + (if p n then 1 else 0) := rfl
theorem fb_ct_le (p : Nat → Bool) : ∀ n, fb_ct p n ≤ n
  | 0 => Nat.le_refl _
  | n + 1 => by
    have h := fb_ct_le p n
    rw [fb_ct_succ]
    split <;> omega
theorem fb_ct_step (p : Nat → Bool) (m : Nat) : ∀ n, fb_ct p m ≤ fb_ct p (m + n)
  | 0 => Nat.le_refl _
  | n + 1 => by
    have h := fb_ct_step p m n
    show fb_ct p m ≤ fb_ct p (m + n + 1)
    rw [fb_ct_succ]
    omega
theorem fb_ct_mono (p : Nat → Bool) {m n : Nat} (h : m ≤ n) : fb_ct p m ≤ fb_ct p n := by
  have := fb_ct_step p m (n - m)
  rwa [Nat.add_sub_cancel' h] at this
theorem fb_ct_cong {p q : Nat → Bool} : ∀ {n : Nat}, (∀ k, k < n → p k = q k) → fb_ct p n = fb_ct q n
  | 0, _ => rfl
  | n + 1, h => by
    rw [fb_ct_succ, fb_ct_succ, fb_ct_cong (fun k hk => h k (by omega)), h n (by omega)]
/-- one place changed -/
theorem fb_ct_out (p : Nat → Bool) (b : Bool) {i n : Nat} (h : n ≤ i) : fb_ct (fun k => if k = i then b else p k) n = fb_ct p n :=
  fb_ct_cong fun k hk => if_neg (by omega)
theorem fb_ct_upd (p : Nat → Bool) (b : Bool) {i : Nat} : ∀ {n : Nat}, i < n → fb_ct (fun k => if k = i then b else p k) n + (if p i then 1 else 0) = fb_ct p n + (if b then 1 else 0)
  | 0, h => absurd h (Nat.not_lt_zero i)
  | n + 1, h => by
    rw [fb_ct_succ, fb_ct_succ]
    rcases Nat.lt_or_ge i n with q | q
    · have := fb_ct_upd p b q
      have e : (if n = i then b else p n) = p n := if_neg (by omega)
      rw [e]
      omega
    · have e : i = n := by omega
      subst e
      rw [fb_ct_out p b (Nat.le_refl _)]
      simp only [if_true]
      omega
theorem fb_ct_sub {p q : Nat → Bool} : ∀ {n : Nat}, (∀ k, k < n → p k = true → q k = true) → fb_ct p n ≤ fb_ct q n
  | 0, _ => Nat.le_refl _
  | n + 1, h => by
    have h1 := fb_ct_sub (n := n) (p := p) (q := q) (fun k hk => h k (by omega))
    have h2 := h n (by omega)
    rw [fb_ct_succ, fb_ct_succ]
    cases hp : p n <;> cases hq : q n <;> simp_all <;> omega
theorem fb_ct_or {p q : Nat → Bool} : ∀ {n : Nat}, (∀ k, k < n → ¬ (p k = true ∧ q k = true)) → fb_ct (fun k => p k || q k) n = fb_ct p n + fb_ct q n
  | 0, _ => rfl
  | n + 1, h => by
    have h1 := fb_ct_or (n := n) (p := p) (q := q) (fun k hk => h k (by omega))
    have h2 := h n (by omega)
    rw [fb_ct_succ, fb_ct_succ, fb_ct_succ, h1]
    cases hp : p n <;> cases hq : q n <;> simp_all <;> omega
theorem fb_ct_not (p : Nat → Bool) : ∀ n, fb_ct p n + fb_ct (fun k => !p k) n = n
  | 0 => rfl
  | n + 1 => by
    have h := fb_ct_not p n
    rw [fb_ct_succ, fb_ct_succ]
    cases p n <;> simp <;> omega
theorem fb_ct_split (p : Nat → Bool) (m : Nat) : ∀ n, fb_ct p (m + n) = fb_ct p m + fb_ct (fun k => p (m + k)) n
  | 0 => rfl
  | n + 1 => by
    have h := fb_ct_split p m n
    show fb_ct p (m + n + 1) = _
    rw [fb_ct_succ, fb_ct_succ, h, Nat.add_assoc]
theorem fb_ct_zero {p : Nat → Bool} : ∀ {n : Nat}, fb_ct p n = 0 ↔ ∀ k, k < n → p k = false
  | 0 => ⟨fun _ k hk => absurd hk (Nat.not_lt_zero k), fun _ => rfl⟩
  | n + 1 => by
    have h := fb_ct_zero (p := p) (n := n)
    rw [fb_ct_succ]
    constructor
    · intro e k hk
      have e1 : fb_ct p n = 0 := by omega
      rcases Nat.lt_or_ge k n with q | q
      · exact h.mp e1 k q
      · have ek : k = n := by omega
        subst ek
        cases hp : p k
        · rfl
        · simp [hp] at e
    · intro a
      rw [h.mpr (fun k hk => a k (by omega)), a n (by omega)]
      rfl
theorem fb_ct_pos {p : Nat → Bool} {n : Nat} : 0 < fb_ct p n ↔ ∃ k, k < n ∧ p k = true := by
  constructor
  · intro h
    refine Classical.byContradiction fun hx => ?_
    have := fb_ct_zero.mpr (fun k hk => by
      cases hp : p k
      · rfl
      · exact absurd ⟨k, hk, hp⟩ hx : ∀ k, k < n → p k = false)
    omega
  · rintro ⟨k, hk, hp⟩
    rcases Nat.eq_zero_or_pos (fb_ct p n) with e | e
    · have := fb_ct_zero.mp e k hk
      rw [this] at hp
      cases hp
    · exact e
theorem fb_ct_all {p : Nat → Bool} {n : Nat} : fb_ct p n = n ↔ ∀ k, k < n → p k = true := by
  have h := fb_ct_not p n
  constructor
  · intro e k hk
    have z : fb_ct (fun k => !p k) n = 0 := by omega
    have := fb_ct_zero.mp z k hk
    cases hp : p k
    · simp [hp] at this
    · rfl
  · intro a
    have z : fb_ct (fun k => !p k) n = 0 := fb_ct_zero.mpr (fun k hk => by simp [a k hk])
    omega
/-- the k-th place with the property -/
theorem fb_ct_kth {p : Nat → Bool} {k : Nat} : ∀ {n : Nat}, k < fb_ct p n → ∃ i, i < n ∧ p i = true ∧ fb_ct p i = k
  | 0, h => absurd h (Nat.not_lt_zero k)
  | n + 1, h => by
    rcases Nat.lt_or_ge k (fb_ct p n) with q | q
    · obtain ⟨i, h1, h2⟩ := fb_ct_kth q
      exact ⟨i, by omega, h2⟩
    · rw [fb_ct_succ] at h
      cases hp : p n
      · simp [hp] at h; omega
      · simp [hp] at h
        exact ⟨n, by omega, hp, by omega⟩
theorem fb_ct_kth_one {p : Nat → Bool} {i j : Nat} (hi : p i = true) (hj : p j = true) (e : fb_ct p i = fb_ct p j) : i = j := by
  have key : ∀ a b : Nat, a < b → p a = true → fb_ct p a < fb_ct p b := by
    intro a b hab ha
    have h := fb_ct_mono p (show a + 1 ≤ b from hab)
    rw [fb_ct_succ, ha] at h
    simp at h
    omega
  rcases Nat.lt_trichotomy i j with q | q | q
  · have := key i j q hi; omega
  · exact q
  · have := key j i q hj; omega
/-! ===== sums over a range: one place changed, parts, bounds ===== -/
def fb_sm (f : Nat → Nat) : Nat → Nat
  | 0 => 0
  | n + 1 => fb_sm f n + f n
theorem fb_sm_succ (f : Nat → Nat) (n : Nat) : fb_sm f (n + 1) = fb_sm f n + f n := rfl
theorem fb_sm_cong {f g : Nat → Nat} : ∀ {n : Nat}, (∀ k, k < n → f k = g k) → fb_sm f n = fb_sm g n
  | 0, _ => rfl
  | n + 1, h => by rw [fb_sm_succ, fb_sm_succ, fb_sm_cong (fun k hk => h k (by omega)), h n (by omega)]
theorem fb_sm_out (f : Nat → Nat) (v : Nat) {i n : Nat} (h : n ≤ i) : fb_sm (fun k => if k = i then v else f k) n = fb_sm f n :=
  fb_sm_cong fun k hk => if_neg (by omega)
theorem fb_sm_upd (f : Nat → Nat) (v : Nat) {i : Nat} : ∀ {n : Nat}, i < n → fb_sm (fun k => if k = i then v else f k) n + f i = fb_sm f n + v
  | 0, h => absurd h (Nat.not_lt_zero i)
  | n + 1, h => by
    rw [fb_sm_succ, fb_sm_succ]
    rcases Nat.lt_or_ge i n with q | q
    · have := fb_sm_upd f v q
      have e : (if n = i then v else f n) = f n := if_neg (by omega)
      rw [e]
      omega
    · have e : i = n := by omega
      subst e
      rw [fb_sm_out f v (Nat.le_refl _)]
      simp only [if_true]
      omega
theorem fb_sm_add (f g : Nat → Nat) : ∀ n, fb_sm (fun k => f k + g k) n = fb_sm f n + fb_sm g n
  | 0 => rfl
  | n + 1 => by
    have h := fb_sm_add f g n
    rw [fb_sm_succ, fb_sm_succ, fb_sm_succ, h]
    omega
theorem fb_sm_le {f g : Nat → Nat} : ∀ {n : Nat}, (∀ k, k < n → f k ≤ g k) → fb_sm f n ≤ fb_sm g n
  | 0, _ => Nat.le_refl _
  | n + 1, h => by
    have h1 := fb_sm_le (n := n) (f := f) (g := g) (fun k hk => h k (by omega))
    have h2 := h n (by omega)
    rw [fb_sm_succ, fb_sm_succ]
    omega
theorem fb_sm_const (c : Nat) : ∀ n, fb_sm (fun _ => c) n = n * c
  | 0 => by rw [Nat.zero_mul]; rfl
  | n + 1 => by rw [fb_sm_succ, fb_sm_const c n, Nat.succ_mul]
theorem fb_sm_bound {f : Nat → Nat} {c n : Nat} (h : ∀ k, k < n → f k ≤ c) : fb_sm f n ≤ n * c := by
  rw [← fb_sm_const c n]
  exact fb_sm_le h
theorem fb_sm_mono (f : Nat → Nat) (m : Nat) : ∀ n, fb_sm f m ≤ fb_sm f (m + n)
  | 0 => Nat.le_refl _
  | n + 1 => by
    have h := fb_sm_mono f m n
    show fb_sm f m ≤ fb_sm f (m + n + 1)
    rw [fb_sm_succ]
    omega
theorem fb_sm_part (f : Nat → Nat) {i n : Nat} (h : i < n) : fb_sm f i + f i ≤ fb_sm f n := by
  have := fb_sm_mono f (i + 1) (n - (i + 1))
  rw [fb_sm_succ, show i + 1 + (n - (i + 1)) = n by omega] at this
  exact this
theorem fb_sm_split (f : Nat → Nat) (m : Nat) : ∀ n, fb_sm f (m + n) = fb_sm f m + fb_sm (fun k => f (m + k)) n
  | 0 => rfl
  | n + 1 => by
    have h := fb_sm_split f m n
    show fb_sm f (m + n + 1) = _
    rw [fb_sm_succ, fb_sm_succ, h, Nat.add_assoc]
theorem fb_sm_zero {f : Nat → Nat} {n : Nat} (h : fb_sm f n = 0) : ∀ k, k < n → f k = 0 := fun k hk => by
  have := fb_sm_part f hk
  omega
/-- the same over whole numbers -/
def fb_si (f : Nat → Int) : Nat → Int
  | 0 => 0
  | n + 1 => fb_si f n + f n
theorem fb_si_succ (f : Nat → Int) (n : Nat) : fb_si f (n + 1) = fb_si f n + f n := rfl
theorem fb_si_cong {f g : Nat → Int} : ∀ {n : Nat}, (∀ k, k < n → f k = g k) → fb_si f n = fb_si g n
  | 0, _ => rfl
  | n + 1, h => by rw [fb_si_succ, fb_si_succ, fb_si_cong (fun k hk => h k (by omega)), h n (by omega)]
theorem fb_si_out (f : Nat → Int) (v : Int) {i n : Nat} (h : n ≤ i) : fb_si (fun k => if k = i then v else f k) n = fb_si f n :=
  fb_si_cong fun k hk => if_neg (by omega)
theorem fb_si_upd (f : Nat → Int) (v : Int) {i : Nat} : ∀ {n : Nat}, i < n → fb_si (fun k => if k = i then v else f k) n = fb_si f n - f i + v
  | 0, h => absurd h (Nat.not_lt_zero i)
  | n + 1, h => by
    rw [fb_si_succ, fb_si_succ]
    rcases Nat.lt_or_ge i n with q | q
    · have := fb_si_upd f v q
      have e : (if n = i then v else f n) = f n := if_neg (by omega)
      rw [e]
      omega
    · have e : i = n := by omega
      subst e
      rw [fb_si_out f v (Nat.le_refl _)]
      simp only [if_true]
      omega
theorem fb_si_add (f g : Nat → Int) : ∀ n, fb_si (fun k => f k + g k) n = fb_si f n + fb_si g n
  | 0 => rfl
  | n + 1 => by
    have h := fb_si_add f g n
    rw [fb_si_succ, fb_si_succ, fb_si_succ, h]
    omega
theorem fb_si_sub (f g : Nat → Int) : ∀ n, fb_si (fun k => f k - g k) n = fb_si f n - fb_si g n
  | 0 => rfl
  | n + 1 => by
    have h := fb_si_sub f g n
    rw [fb_si_succ, fb_si_succ, fb_si_succ, h]
    omega
theorem fb_si_mul (c : Int) (f : Nat → Int) : ∀ n, fb_si (fun k => c * f k) n = c * fb_si f n
  | 0 => (Int.mul_zero c).symm
  | n + 1 => by
    have h := fb_si_mul c f n
    rw [fb_si_succ, fb_si_succ, h, Int.mul_add]
theorem fb_si_split (f : Nat → Int) (m : Nat) : ∀ n, fb_si f (m + n) = fb_si f m + fb_si (fun k => f (m + k)) n
  | 0 => (Int.add_zero _).symm
  | n + 1 => by
    have h := fb_si_split f m n
    show fb_si f (m + n + 1) = _
    rw [fb_si_succ, fb_si_succ, h, Int.add_assoc]
theorem fb_si_nat (f : Nat → Nat) : ∀ n, fb_si (fun k => (f k : Int)) n = (fb_sm f n : Int)
  | 0 => rfl
  | n + 1 => by
    have h := fb_si_nat f n
    rw [fb_si_succ, fb_sm_succ, h]
    omega
theorem fb_si_bound {f : Nat → Int} {c : Int} (hc : 0 ≤ c) : ∀ {n : Nat}, (∀ k, k < n → -c ≤ f k ∧ f k ≤ c) → -(n * c) ≤ fb_si f n ∧ fb_si f n ≤ n * c
  | 0, _ => by simp [fb_si]
  | n + 1, h => by
    have h1 := fb_si_bound (n := n) (f := f) hc (fun k hk => h k (by omega))
    have h2 := h n (by omega)
    have e : ((n + 1 : Nat) : Int) * c = n * c + c := by rw [Int.natCast_add, Int.add_mul]; simp
    rw [fb_si_succ, e]
    omega
/-! ===== bits of a long that isn't negative ===== -/
theorem fb_andL (a b : Nat) : lN a &&& lN b = lN (a &&& b) := by
  apply Int64.toBitVec_inj.1
  show BitVec.ofNat 64 a &&& BitVec.ofNat 64 b = BitVec.ofNat 64 (a &&& b)
  apply BitVec.eq_of_getLsbD_eq
  intro i hi
  simp [hi]
theorem fb_orL (a b : Nat) : lN a ||| lN b = lN (a ||| b) := by
  apply Int64.toBitVec_inj.1
  show BitVec.ofNat 64 a ||| BitVec.ofNat 64 b = BitVec.ofNat 64 (a ||| b)
  apply BitVec.eq_of_getLsbD_eq
  intro i hi
  simp [hi]
theorem fb_xorL (a b : Nat) : lN a ^^^ lN b = lN (a ^^^ b) := by
  apply Int64.toBitVec_inj.1
  show BitVec.ofNat 64 a ^^^ BitVec.ofNat 64 b = BitVec.ofNat 64 (a ^^^ b)
  apply BitVec.eq_of_getLsbD_eq
  intro i hi
  simp [hi]
theorem fb_xorI (a b : Nat) : nI a ^^^ nI b = nI (a ^^^ b) := by
  apply Int32.toBitVec_inj.1
  show BitVec.ofNat 32 a ^^^ BitVec.ofNat 32 b = BitVec.ofNat 32 (a ^^^ b)
  apply BitVec.eq_of_getLsbD_eq
  intro i hi
  simp [hi]
theorem fb_maskL (n k : Nat) : lN n &&& lN (2 ^ k - 1) = lN (n % 2 ^ k) := by rw [fb_andL, Nat.and_two_pow_sub_one_eq_mod]
theorem fb_or_sumL {a k : Nat} (b : Nat) (h : a < 2 ^ k) : lN (2 ^ k * b) ||| lN a = lN (2 ^ k * b + a) := by rw [fb_orL, Nat.two_pow_add_eq_or_of_lt h]
theorem fb_lN_inj {a b : Nat} (ha : a < 2 ^ 63) (hb : b < 2 ^ 63) : lN a = lN b ↔ a = b := by
  constructor
  · intro h
    have h1 : (BitVec.ofNat 64 a).toNat = (BitVec.ofNat 64 b).toNat := congrArg (fun x : Int64 => x.toBitVec.toNat) h
    rw [BitVec.toNat_ofNat, BitVec.toNat_ofNat, Nat.mod_eq_of_lt (by omega), Nat.mod_eq_of_lt (by omega)] at h1
    exact h1
  · rintro rfl; rfl
theorem fb_bit_nat (n j : Nat) : n &&& 2 ^ j = 0 ↔ n.testBit j = false := by
  constructor
  · intro h
    have h1 : (n &&& 2 ^ j).testBit j = false := by rw [h]; simp
    rw [Nat.testBit_and] at h1
    simpa using h1
  · intro h
    apply Nat.eq_of_testBit_eq
    intro i
    rw [Nat.testBit_and]
    by_cases hi : j = i
    · subst hi; simp [h]
    · first | (simp [Nat.testBit_two_pow, hi]; done) | (simp [Nat.testBit_two_pow_of_ne hi]; done)
/-- one bit of a long -/
theorem fb_bitL {n j : Nat} (hj : j < 63) : lN n &&& lN (2 ^ j) = 0 ↔ n.testBit j = false := by
  have h2 : (2 : Nat) ^ j < 2 ^ 63 := Nat.pow_lt_pow_right (by decide) hj
  have hle : n &&& 2 ^ j ≤ 2 ^ j := Nat.and_le_right
  rw [fb_andL, ← fb_bit_nat, show (0 : Int64) = lN 0 from rfl]
  exact fb_lN_inj (by omega) (by decide)
/-- a bit set, a bit taken off -/
theorem fb_bit_set (n j i : Nat) : (n ||| 2 ^ j).testBit i = (n.testBit i || decide (i = j)) := by
  rw [Nat.testBit_or]
  by_cases h : j = i
  · subst h; simp
  · have h2 : ¬ i = j := fun e => h e.symm
    first | (simp [Nat.testBit_two_pow, h, h2]; done) | (simp [Nat.testBit_two_pow_of_ne h, h2]; done)
theorem fb_bit_flip (n j i : Nat) : (n ^^^ 2 ^ j).testBit i = (n.testBit i ^^ decide (i = j)) := by
  rw [Nat.testBit_xor]
  by_cases h : j = i
  · subst h; simp
  · have h2 : ¬ i = j := fun e => h e.symm
    first | (simp [Nat.testBit_two_pow, h, h2]; done) | (simp [Nat.testBit_two_pow_of_ne h, h2]; done)
/-! ===== a stretch of an array written over by a function ===== -/
def fb_put {α : Type} (f g : Nat → α) (a n : Nat) : Nat → α := fun k => if a ≤ k ∧ k < a + n then g (k - a) else f k
theorem fb_put_0 {α : Type} (f g : Nat → α) (a : Nat) : fb_put f g a 0 = f := funext fun k => if_neg (by omega)
theorem fb_put_in {α : Type} {f g : Nat → α} {a n k : Nat} (h1 : a ≤ k) (h2 : k < a + n) : fb_put f g a n k = g (k - a) := if_pos ⟨h1, h2⟩
theorem fb_put_out {α : Type} {f g : Nat → α} {a n k : Nat} (h : k < a ∨ a + n ≤ k) : fb_put f g a n k = f k := if_neg (by omega)
theorem fb_put_succ (f g : Nat → Int32) (a n : Nat) : upd (fb_put f g a n) (a + n) (g n) = fb_put f g a (n + 1) := by
  funext k
  by_cases h : k = a + n
  · subst h
    simp [upd, fb_put]
  · by_cases h1 : a ≤ k ∧ k < a + n
    · have h2 : a ≤ k ∧ k < a + (n + 1) := by omega
      simp only [upd, fb_put, if_neg h, if_pos h1, if_pos h2]
    · have h2 : ¬ (a ≤ k ∧ k < a + (n + 1)) := by omega
      simp only [upd, fb_put, if_neg h, if_neg h1, if_neg h2]
/-- .. from the far end down -/
theorem fb_put_down (f g : Nat → Int32) {a n m : Nat} (h : m < n) : upd (fb_put f (fun k => g (k + (m + 1))) (a + (m + 1)) (n - (m + 1))) (a + m) (g m) = fb_put f (fun k => g (k + m)) (a + m) (n - m) := by
  funext k
  by_cases h0 : k = a + m
  · subst h0
    simp only [upd, if_true]
    rw [fb_put_in (by omega) (by omega)]
    exact congrArg g (by omega)
  · simp only [upd, if_neg h0]
    by_cases h1 : a + (m + 1) ≤ k ∧ k < a + (m + 1) + (n - (m + 1))
    · rw [fb_put_in h1.1 h1.2, fb_put_in (by omega) (by omega)]
      exact congrArg g (by omega)
    · rw [fb_put_out (by omega), fb_put_out (by omega)]
theorem fb_put_cong {α : Type} {f f2 g g2 : Nat → α} {a n : Nat} (hf : ∀ k, (k < a ∨ a + n ≤ k) → f k = f2 k) (hg : ∀ k, k < n → g k = g2 k) : fb_put f g a n = fb_put f2 g2 a n := by
  funext k
  by_cases h : a ≤ k ∧ k < a + n
  · rw [fb_put_in h.1 h.2, fb_put_in h.1 h.2, hg _ (by omega)]
  · rw [fb_put_out (by omega), fb_put_out (by omega), hf _ (by omega)]
/-! ===== the least, the first, the best so far; that there is one alone ===== -/
theorem fb_first {p : Nat → Prop} [DecidablePred p] : ∀ {n : Nat}, (∃ i, i < n ∧ p i) → ∃ i, i < n ∧ p i ∧ ∀ j, j < i → ¬ p j
  | 0, h => by obtain ⟨i, hi, -⟩ := h; exact absurd hi (Nat.not_lt_zero i)
  | n + 1, h => by
    by_cases q : ∃ i, i < n ∧ p i
    · obtain ⟨i, h1, h2⟩ := fb_first q
      exact ⟨i, by omega, h2⟩
    · obtain ⟨i, h1, h2⟩ := h
      have e : i = n := by
        rcases Nat.lt_or_ge i n with r | r
        · exact absurd ⟨i, r, h2⟩ q
        · omega
      subst e
      exact ⟨i, by omega, h2, fun j hj hp => q ⟨j, hj, hp⟩⟩
theorem fb_first_one {p : Nat → Prop} {i j : Nat} (hi : p i) (hi2 : ∀ k, k < i → ¬ p k) (hj : p j) (hj2 : ∀ k, k < j → ¬ p k) : i = j := by
  rcases Nat.lt_trichotomy i j with q | q | q
  · exact absurd hi (hj2 i q)
  · exact q
  · exact absurd hj (hi2 j q)
theorem fb_last {p : Nat → Prop} [DecidablePred p] : ∀ {n : Nat}, (∃ i, i < n ∧ p i) → ∃ i, i < n ∧ p i ∧ ∀ j, i < j → j < n → ¬ p j
  | 0, h => by obtain ⟨i, hi, -⟩ := h; exact absurd hi (Nat.not_lt_zero i)
  | n + 1, h => by
    by_cases q : p n
    · exact ⟨n, by omega, q, fun j h1 h2 => by omega⟩
    · obtain ⟨i, h1, h2⟩ := h
      have hi : i < n := by
        rcases Nat.lt_or_ge i n with r | r
        · exact r
        · have e : i = n := by omega
          subst e
          exact absurd h2 q
      obtain ⟨i2, a1, a2, a3⟩ := fb_last (n := n) ⟨i, hi, h2⟩
      refine ⟨i2, by omega, a2, fun j b1 b2 => ?_⟩
      rcases Nat.lt_or_ge j n with r | r
      · exact a3 j b1 r
      · have e : j = n := by omega
        subst e
        exact q
/-- the first greatest -/
theorem fb_best (f : Nat → Int) : ∀ {n : Nat}, 0 < n → ∃ i, i < n ∧ (∀ j, j < n → f j ≤ f i) ∧ ∀ j, j < i → f j < f i
  | 0, h => absurd h (Nat.lt_irrefl 0)
  | 1, _ => ⟨0, by omega, fun j hj => by have e : j = 0 := by omega
                                         subst e; exact Int.le_refl _, fun j hj => absurd hj (Nat.not_lt_zero j)⟩
  | n + 2, _ => by
    obtain ⟨i, h1, h2, h3⟩ := fb_best f (n := n + 1) (by omega)
    by_cases q : f i < f (n + 1)
    · refine ⟨n + 1, by omega, fun j hj => ?_, fun j hj => ?_⟩
      · rcases Nat.lt_or_ge j (n + 1) with r | r
        · have := h2 j r; omega
        · have e : j = n + 1 := by omega
          subst e; exact Int.le_refl _
      · have := h2 j hj; omega
    · refine ⟨i, by omega, fun j hj => ?_, h3⟩
      rcases Nat.lt_or_ge j (n + 1) with r | r
      · exact h2 j r
      · have e : j = n + 1 := by omega
        subst e; omega
theorem fb_best_one {f : Nat → Int} {n i j : Nat} (hi : i < n) (hi2 : ∀ k, k < n → f k ≤ f i) (hi3 : ∀ k, k < i → f k < f i) (hj : j < n) (hj2 : ∀ k, k < n → f k ≤ f j) (hj3 : ∀ k, k < j → f k < f j) : i = j := by
  rcases Nat.lt_trichotomy i j with q | q | q
  · have a := hj3 i q
    have b := hi2 j hj
    omega
  · exact q
  · have a := hi3 j q
    have b := hj2 i hi
    omega
/-- the first least -/
theorem fb_low (f : Nat → Int) {n : Nat} (h : 0 < n) : ∃ i, i < n ∧ (∀ j, j < n → f i ≤ f j) ∧ ∀ j, j < i → f i < f j := by
  obtain ⟨i, h1, h2, h3⟩ := fb_best (fun k => -f k) h
  exact ⟨i, h1, fun j hj => by have := h2 j hj; omega, fun j hj => by have := h3 j hj; omega⟩
/-! ===== signed ints as whole numbers, within bounds ===== -/
theorem fb_rng (x : Int32) : -2147483648 ≤ x.toInt ∧ x.toInt < 2147483648 := by
  have h1 := Int32.le_toInt x
  have h2 := Int32.toInt_lt x
  omega
theorem fb_bmod {z : Int} (h1 : -2147483648 ≤ z) (h2 : z < 2147483648) : z.bmod (2 ^ 32) = z := by
  rw [Int.bmod_eq_of_le (by omega) (by omega)]
theorem fb_addI {x y : Int32} (h1 : -2147483648 ≤ x.toInt + y.toInt) (h2 : x.toInt + y.toInt < 2147483648) : (x + y).toInt = x.toInt + y.toInt := by
  rw [Int32.toInt_add, fb_bmod h1 h2]
theorem fb_subI {x y : Int32} (h1 : -2147483648 ≤ x.toInt - y.toInt) (h2 : x.toInt - y.toInt < 2147483648) : (x - y).toInt = x.toInt - y.toInt := by
  rw [Int32.toInt_sub, fb_bmod h1 h2]
theorem fb_mulI {x y : Int32} (h1 : -2147483648 ≤ x.toInt * y.toInt) (h2 : x.toInt * y.toInt < 2147483648) : (x * y).toInt = x.toInt * y.toInt := by
  rw [Int32.toInt_mul, fb_bmod h1 h2]
theorem fb_negI {x : Int32} (h : x.toInt ≠ -2147483648) : (-x).toInt = -x.toInt := by
  have := fb_rng x
  rw [Int32.toInt_neg, fb_bmod (by omega) (by omega)]
theorem fb_ofI {z : Int} (h1 : -2147483648 ≤ z) (h2 : z < 2147483648) : (Int32.ofInt z).toInt = z := by
  rw [Int32.toInt_ofInt, fb_bmod h1 h2]
theorem fb_asI (x : Int32) : Int32.ofInt x.toInt = x := Int32.ofInt_toInt x
theorem fb_rngL (x : Int64) : -9223372036854775808 ≤ x.toInt ∧ x.toInt < 9223372036854775808 := by
  have h1 := Int64.le_toInt x
  have h2 := Int64.toInt_lt x
  omega
theorem fb_bmodL {z : Int} (h1 : -9223372036854775808 ≤ z) (h2 : z < 9223372036854775808) : z.bmod (2 ^ 64) = z := by
  rw [Int.bmod_eq_of_le (by omega) (by omega)]
theorem fb_addL {x y : Int64} (h1 : -9223372036854775808 ≤ x.toInt + y.toInt) (h2 : x.toInt + y.toInt < 9223372036854775808) : (x + y).toInt = x.toInt + y.toInt := by
  rw [Int64.toInt_add, fb_bmodL h1 h2]
theorem fb_subL {x y : Int64} (h1 : -9223372036854775808 ≤ x.toInt - y.toInt) (h2 : x.toInt - y.toInt < 9223372036854775808) : (x - y).toInt = x.toInt - y.toInt := by
  rw [Int64.toInt_sub, fb_bmodL h1 h2]
theorem fb_mulL {x y : Int64} (h1 : -9223372036854775808 ≤ x.toInt * y.toInt) (h2 : x.toInt * y.toInt < 9223372036854775808) : (x * y).toInt = x.toInt * y.toInt := by
  rw [Int64.toInt_mul, fb_bmodL h1 h2]
/-! ===== cuts of what is narrow already ===== -/
theorem fb_byte {x : Int32} (h1 : -128 ≤ x.toInt) (h2 : x.toInt < 128) : x.toInt8.toInt32 = x := by
  apply Int32.toInt_inj.1
  rw [Int8.toInt_toInt32, Int32.toInt_toInt8, Int.bmod_eq_of_le (by omega) (by omega)]
theorem fb_short {x : Int32} (h1 : -32768 ≤ x.toInt) (h2 : x.toInt < 32768) : x.toInt16.toInt32 = x := by
  apply Int32.toInt_inj.1
  rw [Int16.toInt_toInt32, Int32.toInt_toInt16, Int.bmod_eq_of_le (by omega) (by omega)]
theorem fb_byte_rng (x : Int32) : -128 ≤ x.toInt8.toInt32.toInt ∧ x.toInt8.toInt32.toInt < 128 := by
  rw [Int8.toInt_toInt32]
  have h1 := Int8.le_toInt x.toInt8
  have h2 := Int8.toInt_lt x.toInt8
  omega
theorem fb_short_rng (x : Int32) : -32768 ≤ x.toInt16.toInt32.toInt ∧ x.toInt16.toInt32.toInt < 32768 := by
  rw [Int16.toInt_toInt32]
  have h1 := Int16.le_toInt x.toInt16
  have h2 := Int16.toInt_lt x.toInt16
  omega
theorem fb_byte_twice (x : Int32) : x.toInt8.toInt32.toInt8.toInt32 = x.toInt8.toInt32 := fb_byte (fb_byte_rng x).1 (fb_byte_rng x).2
theorem fb_short_twice (x : Int32) : x.toInt16.toInt32.toInt16.toInt32 = x.toInt16.toInt32 := fb_short (fb_short_rng x).1 (fb_short_rng x).2
theorem fb_char {n : Nat} (h : n < 65536) : (nI n).toUInt32.toUInt16.toUInt32.toInt32 = nI n := by
  apply Int32.toBitVec_inj.1
  apply BitVec.eq_of_toNat_eq
  have e1 : (nI n).toBitVec.toNat = n := by
    show (BitVec.ofNat 32 n).toNat = n
    rw [BitVec.toNat_ofNat, Nat.mod_eq_of_lt (by omega)]
  have e2 : ((nI n).toUInt32.toUInt16.toUInt32).toNat = n := by
    rw [UInt16.toNat_toUInt32, UInt32.toNat_toUInt16]
    show (nI n).toBitVec.toNat % 2 ^ 16 = n
    rw [e1, Nat.mod_eq_of_lt (by omega)]
  rw [e1]
  exact e2
end
section
/-! Parts: the leaves (over any world that begins with Parts and its five arrays) -/
def inB (x : Int32) (n : Nat) : Bool := decide (0 ≤ x.toInt ∧ x.toInt < n)
theorem inB_nI {j n : Nat} (h : j < 2 ^ 31) : inB (nI j) n = decide (j < n) := by
  unfold inB
  rw [nI_toInt h]
  by_cases q : j < n
  · rw [decide_eq_true q, decide_eq_true]; omega
  · rw [decide_eq_false q, decide_eq_false]; omega
theorem inB_of {x : Int32} {n : Nat} (h : inB x n = true) (hn : n < 2 ^ 31) : ∃ j, j < n ∧ x = nI j := by
  have h1 := of_decide_eq_true h
  obtain ⟨j, hj, e⟩ := nI_of (x := x) (fun q => by have := Int32.lt_iff_toInt_lt.mp q; simp at this; omega)
  rw [e, nI_toInt hj] at h1
  exact ⟨j, by omega, e⟩
theorem inB_m1 (n : Nat) : inB (-1) n = false := decide_eq_false (by
  have : (-1 : Int32).toInt = -1 := by decide
  omega)
theorem int_lt0 {x : Int32} : x < 0 ↔ x.toInt < 0 := by rw [Int32.lt_iff_toInt_lt]; simp
def hB (x p : Int32) : Bool := inB p 24 && bt x p.toNatClampNeg
theorem hB_nI {x : Int32} {a : Nat} (h : a < 24) : hB x (nI a) = bt x a := by
  rw [hB, inB_nI (by omega), decide_eq_true h, nI_clamp (by omega)]; rfl
theorem hB_m1 (x : Int32) : hB x (-1) = false := by rw [hB, inB_m1]; rfl
theorem bt_one (i : Nat) : bt 1 i = decide (i = 0) := by
  rcases Nat.lt_or_ge i 32 with h | h
  · exact (by decide +kernel : ∀ i, i < 32 → bt 1 i = decide (i = 0)) i h
  · rw [b_big h, decide_eq_false (by omega)]
theorem bt_bit (x : Int32) {a : Nat} (h : a < 32) : (x >>> (nI a &&& 31)) &&& 1 = bI (bt x a) := by
  apply b_ext
  intro i hi
  rw [b_and, b_sshr a h x hi, bt_one]
  by_cases e : i = 0
  · subst e
    cases hb : bt x a <;> simp [hb, h, bI, bt_one, b_0]
  · simp [e]
    cases bt x a <;> simp [bI, bt_one, b_0, e]
theorem mul18 {a b : Nat} (ha : a < 24) (hb : b < 18) : a * 18 + b < 432 := by omega

set_option maxRecDepth 10000 in
theorem s_X2_has {X : Shp} {M : Mm} {n : Nat} (hn : n ≤ 24) (hsz : M 0 5 = nI n) (x : Int32) : Ct (PSh ++ X) mX2_has [.ref 0, .int x] M (RetI (bI (inB x n)) M) := by
  show Ev _ _ 0 [.ref 0, .int x] [] M _
  refine ev_iload_n 1 dX2_has_0 rfl rfl ?_
  refine ev_if_lt 4 16 dX2_has_1 (by decide) rfl (fun c1 => ?_) (fun c1 => ?_)
  · refine ev_iconst 17 (nI 0) dX2_has_16 (by decide) rfl ?_
    exact ev_zret dX2_has_17 rfl (Or.inl rfl) (⟨by rw [show inB x n = false from decide_eq_false (by rw [int_lt0] at c1; omega)]; rfl, rfl⟩)
  · refine ev_iload_n 5 dX2_has_4 rfl rfl ?_
    refine ev_aload_n 6 dX2_has_5 rfl rfl ?_
    refine ev_getIv 9 (nI n) dX2_has_6 rfl flX2_27 rfl rfl hsz ?_
    refine ev_icmp_ge 12 16 dX2_has_9 (by decide) rfl (fun c9 => ?_) (fun c9 => ?_)
    · refine ev_iconst 17 (nI 0) dX2_has_16 (by decide) rfl ?_
      exact ev_zret dX2_has_17 rfl (Or.inl rfl) (⟨by rw [show inB x n = false from decide_eq_false (by rw [Int32.le_iff_toInt_le, nI_toInt (by omega)] at c9; omega)]; rfl, rfl⟩)
    · refine ev_iconst 13 (nI 1) dX2_has_12 (by decide) rfl ?_
      refine ev_goto 17 dX2_has_13 (by decide) ?_
      exact ev_zret dX2_has_17 rfl (Or.inr rfl) (⟨by rw [show inB x n = true from decide_eq_true (by rw [int_lt0] at c1; rw [Int32.le_iff_toInt_le, nI_toInt (by omega)] at c9; omega)]; rfl, rfl⟩)
theorem s_X2_isFull {X : Shp} {M : Mm} {n : Nat} (hn : n ≤ 24) (hsz : M 0 5 = nI n) : Ct (PSh ++ X) mX2_isFull [.ref 0] M (RetI (bI (decide (24 ≤ n))) M) := by
  show Ev _ _ 0 [.ref 0] [] M _
  refine ev_aload_n 1 dX2_isFull_0 rfl rfl ?_
  refine ev_getIv 4 (nI n) dX2_isFull_1 rfl flX2_27 rfl rfl hsz ?_
  refine ev_bipush 6 (nI 24) dX2_isFull_4 (by decide) rfl ?_
  refine ev_icmp_ltN 9 13 dX2_isFull_6 (by decide) rfl (by omega) (by omega) (fun c6 => ?_) (fun c6 => ?_)
  · refine ev_iconst 14 (nI 0) dX2_isFull_13 (by decide) rfl ?_
    exact ev_zret dX2_isFull_14 rfl (Or.inl rfl) (⟨by first | (rw [decide_eq_true (by omega)]; rfl) | (rw [decide_eq_false (by omega)]; rfl), rfl⟩)
  · refine ev_iconst 10 (nI 1) dX2_isFull_9 (by decide) rfl ?_
    refine ev_goto 14 dX2_isFull_10 (by decide) ?_
    exact ev_zret dX2_isFull_14 rfl (Or.inr rfl) (⟨by first | (rw [decide_eq_true (by omega)]; rfl) | (rw [decide_eq_false (by omega)]; rfl), rfl⟩)
theorem s_X2_get {X : Shp} {M : Mm} {a b : Nat} (ha : a < 24) (hb : b < 18) : Ct (PSh ++ X) mX2_get [.ref 0, .int (nI a), .int (nI b)] M (RetI (M 1 (a * 18 + b)) M) := by
  show Ev _ _ 0 [.ref 0, .int (nI a), .int (nI b)] [] M _
  refine ev_aload_n 1 dX2_get_0 rfl rfl ?_
  refine ev_getR 4 dX2_get_1 rfl flX2_9 rfl rfl ?_
  refine ev_iload_n 5 dX2_get_4 rfl rfl ?_
  refine ev_bipush 7 (nI 18) dX2_get_5 (by decide) rfl ?_
  refine ev_imulN 8 dX2_get_7 rfl ?_
  refine ev_iload_n 9 dX2_get_8 rfl rfl ?_
  refine ev_iaddN 10 dX2_get_9 rfl ?_
  refine ev_iaN 11 _ dX2_get_10 rfl (mul18 ha hb) (by decide) rfl rfl ?_
  exact ev_iret dX2_get_11 rfl (⟨rfl, rfl⟩)
theorem s_X2_put {X : Shp} {M : Mm} {a b : Nat} {v : Int32} (ha : a < 24) (hb : b < 18) : Ct (PSh ++ X) mX2_put [.ref 0, .int (nI a), .int (nI b), .int v] M (RetV (mst M 1 (a * 18 + b) v)) := by
  show Ev _ _ 0 [.ref 0, .int (nI a), .int (nI b), .int v] [] M _
  refine ev_aload_n 1 dX2_put_0 rfl rfl ?_
  refine ev_getR 4 dX2_put_1 rfl flX2_9 rfl rfl ?_
  refine ev_iload_n 5 dX2_put_4 rfl rfl ?_
  refine ev_bipush 7 (nI 18) dX2_put_5 (by decide) rfl ?_
  refine ev_imulN 8 dX2_put_7 rfl ?_
  refine ev_iload_n 9 dX2_put_8 rfl rfl ?_
  refine ev_iaddN 10 dX2_put_9 rfl ?_
  refine ev_iload_n 11 dX2_put_10 rfl rfl ?_
  refine ev_iaS 12 dX2_put_11 rfl (mul18 ha hb) (by decide) rfl ?_
  exact ev_vret dX2_put_12 rfl (⟨rfl, rfl⟩)
theorem s_holds {Sh : Shp} {M : Mm} (x p : Int32) : Ct Sh mX7_holds [.int x, .int p] M (RetI (bI (hB x p)) M) := by
  have hbit : ∀ (c1 : ¬ p < 0) (c7 : ¬ nI 24 ≤ p), bt x p.toNatClampNeg = hB x p := fun c1 c7 => by
    rw [hB, show inB p 24 = true from decide_eq_true (by rw [int_lt0] at c1; rw [Int32.le_iff_toInt_le, nI_toInt (by omega)] at c7; omega)]; rfl
  have hbit15 : ∀ (c1 : ¬ p < 0) (c7 : ¬ nI 24 ≤ p), (x >>> (p &&& 31)) &&& nI 1 = bI (bt x p.toNatClampNeg) := fun c1 c7 => by
    obtain ⟨a, ha, e⟩ := inB_of (x := p) (n := 24) (decide_eq_true (by rw [int_lt0] at c1; rw [Int32.le_iff_toInt_le, nI_toInt (by omega)] at c7; omega)) (by omega)
    rw [e, nI_clamp (by omega)]
    exact bt_bit x (by omega)
  show Ev _ _ 0 [.int x, .int p] [] M _
  refine ev_iload_n 1 dX7_holds_0 rfl rfl ?_
  refine ev_if_lt 4 22 dX7_holds_1 (by decide) rfl (fun c1 => ?_) (fun c1 => ?_)
  · refine ev_iconst 23 (nI 0) dX7_holds_22 (by decide) rfl ?_
    exact ev_zret dX7_holds_23 rfl (Or.inl rfl) ⟨by rw [hB, show inB p 24 = false from decide_eq_false (by rw [int_lt0] at c1; omega)]; rfl, rfl⟩
  · refine ev_iload_n 5 dX7_holds_4 rfl rfl ?_
    refine ev_bipush 7 (nI 24) dX7_holds_5 (by decide) rfl ?_
    refine ev_icmp_ge 10 22 dX7_holds_7 (by decide) rfl (fun c7 => ?_) (fun c7 => ?_)
    · refine ev_iconst 23 (nI 0) dX7_holds_22 (by decide) rfl ?_
      exact ev_zret dX7_holds_23 rfl (Or.inl rfl) ⟨by rw [hB, show inB p 24 = false from decide_eq_false (by rw [Int32.le_iff_toInt_le, nI_toInt (by omega)] at c7; omega)]; rfl, rfl⟩
    · refine ev_iload_n 11 dX7_holds_10 rfl rfl ?_
      refine ev_iload_n 12 dX7_holds_11 rfl rfl ?_
      refine ev_ishr 13 dX7_holds_12 rfl ?_
      refine ev_iconst 14 (nI 1) dX7_holds_13 (by decide) rfl ?_
      refine ev_iand 15 dX7_holds_14 rfl ?_
      refine ev_eqI (hbit15 c1 c7) ?_
      refine ev_if_eqB 18 22 dX7_holds_15 (by decide) rfl (fun c15 => ?_) (fun c15 => ?_)
      · refine ev_iconst 23 (nI 0) dX7_holds_22 (by decide) rfl ?_
        exact ev_zret dX7_holds_23 rfl (Or.inl rfl) ⟨by rw [← hbit c1 c7, c15]; rfl, rfl⟩
      · refine ev_iconst 19 (nI 1) dX7_holds_18 (by decide) rfl ?_
        refine ev_goto 23 dX7_holds_19 (by decide) ?_
        exact ev_zret dX7_holds_23 rfl (Or.inr rfl) ⟨by rw [← hbit c1 c7, c15]; rfl, rfl⟩
end
section
/-! Parts: masks and what they are made of -/
def mkM (P : Nat → Bool) : Nat → Int32
  | 0 => 0
  | k + 1 => if P k then mkM P k ||| (nI 1 <<< (nI k &&& 31)) else mkM P k
theorem bt_1shl {k i : Nat} (hk : k < 32) (hi : i < 32) : bt (nI 1 <<< (nI k &&& 31)) i = decide (i = k) := by
  rw [b_shl k hk _ hi, show nI 1 = 1 from rfl, bt_one]
  by_cases e : i = k
  · subst e; simp
  · by_cases q : k ≤ i
    · simp [q, e]; omega
    · simp [q, e]
theorem bt_mkM (P : Nat → Bool) {i : Nat} (hi : i < 32) : ∀ {k : Nat}, k ≤ 32 → bt (mkM P k) i = (decide (i < k) && P i)
  | 0, _ => by simp [mkM, b_0]
  | k + 1, hk => by
    have ih := bt_mkM P hi (k := k) (by omega)
    by_cases e : i = k
    · subst e
      cases hp : P i
      · simp [mkM, hp, ih]
      · simp [mkM, hp, ih, b_or, bt_1shl (k := i) (by omega) hi]
    · have e1 : (i < k + 1) = (i < k) := by apply propext; omega
      cases hp : P k
      · simp [mkM, hp, ih, e1]
      · simp [mkM, hp, ih, b_or, bt_1shl (k := k) (by omega) hi, e, e1]
theorem mkM_t {P : Nat → Bool} {k : Nat} (h : P k = true) : mkM P k ||| (nI 1 <<< (nI k &&& 31)) = mkM P (k + 1) := by simp [mkM, h]
theorem mkM_f {P : Nat → Bool} {k : Nat} (h : P k = false) : mkM P (k + 1) = mkM P k := by simp [mkM, h]
theorem nI_one : nI 1 = 1 := rfl
def pm (k : Nat) : Int32 := nI k - 1
theorem pm_s (k : Nat) : pm (k + 1) = nI k := nI_pred k
theorem pm_0 : pm 0 = -1 := by decide +kernel
theorem pm_m (k : Nat) : nI k + Int32.ofInt (-1) = pm k := by unfold pm; rw [Int32.sub_eq_add_neg]; rfl
def lastF (x : Int32) : Nat → Int32
  | 0 => -1
  | k + 1 => if bt x k then nI k else lastF x k
theorem outB {x : Int32} {n : Nat} (h : ¬ inB x (n + 1) = true) : x.toInt < 0 ∨ (n : Int) < x.toInt := by
  by_cases q : x.toInt < 0
  · exact Or.inl q
  · refine Or.inr (Classical.byContradiction fun z => h (decide_eq_true ?_))
    omega

theorem s_lastOf_k {Sh : Shp} {M : Mm} (x : Int32) : ∀ k, k ≤ 24 → Ev Sh mX7_lastOf 3 [.int x, .int (pm k)] [] M (RetI (lastF x k) M)
  | 0, _ => by
    rw [pm_0]
    refine ev_iload_n 4 dX7_lastOf_3 rfl rfl ?_
    refine ev_if_lt 7 23 dX7_lastOf_4 (by decide) rfl (fun c4 => ?_) (fun c4 => ?_)
    · refine ev_iconst 24 (-1) dX7_lastOf_23 (by decide) rfl ?_
      exact ev_iret dX7_lastOf_24 rfl (⟨rfl, rfl⟩)
    · exact absurd (by decide) c4
  | k + 1, hk => by
    have ih := s_lastOf_k (Sh := Sh) (M := M) x k (by omega)
    rw [pm_s]
    refine ev_iload_n 4 dX7_lastOf_3 rfl rfl ?_
    refine ev_if_ltN 7 23 dX7_lastOf_4 (by decide) rfl (by omega) ?_
    refine ev_iload_n 8 dX7_lastOf_7 rfl rfl ?_
    refine ev_iload_n 9 dX7_lastOf_8 rfl rfl ?_
    refine ev_ishr 10 dX7_lastOf_9 rfl ?_
    refine ev_iconst 11 (nI 1) dX7_lastOf_10 (by decide) rfl ?_
    refine ev_iand 12 dX7_lastOf_11 rfl ?_
    refine ev_eqI (bt_bit x (by omega)) ?_
    refine ev_if_eqB 15 17 dX7_lastOf_12 (by decide) rfl (fun c12 => ?_) (fun c12 => ?_)
    · refine ev_iinc 20 _ (pm k) dX7_lastOf_17 rfl (pm_m k) (by decide) rfl rfl rfl ?_
      refine ev_goto 3 dX7_lastOf_20 (by decide) ?_
      rw [show lastF x (k + 1) = lastF x k from by simp [lastF, c12]]
      exact ih
    · refine ev_iload_n 16 dX7_lastOf_15 rfl rfl ?_
      exact ev_iret dX7_lastOf_16 rfl (⟨by simp [lastF, c12], rfl⟩)
theorem s_lastOf {Sh : Shp} {M : Mm} (x : Int32) : Ct Sh mX7_lastOf [.int x] M (RetI (lastF x 24) M) := by
  show Ev _ _ 0 [.int x, .null] [] M _
  refine ev_bipush 2 (nI 23) dX7_lastOf_0 (by decide) rfl ?_
  refine ev_istore_n 3 _ dX7_lastOf_2 (by decide) rfl rfl rfl ?_
  exact s_lastOf_k x 24 (Nat.le_refl _)
def hidP (M : Mm) (i : Nat) : Bool := M 1 (i * 18 + 5) != 0
theorem s_X2_hiddenNow_k {X : Shp} {M : Mm} {n : Nat} (hn : n ≤ 24) (hsz : M 0 5 = nI n) : ∀ d i, i + d = n → Ev (PSh ++ X) mX2_hiddenNow 4 [.ref 0, .int (mkM (hidP M) i), .int (nI i)] [] M (RetI (mkM (hidP M) n) M)
  | 0, i, h => by
    have hi : n = i := by omega
    subst hi
    refine ev_iload_n 5 dX2_hiddenNow_4 rfl rfl ?_
    refine ev_aload_n 6 dX2_hiddenNow_5 rfl rfl ?_
    refine ev_getIv 9 (nI n) dX2_hiddenNow_6 rfl flX2_27 rfl rfl hsz ?_
    refine ev_icmp_geN 12 33 dX2_hiddenNow_9 (by decide) rfl (by omega) (by omega) (fun c9 => ?_) (fun c9 => ?_)
    · refine ev_iload_n 34 dX2_hiddenNow_33 rfl rfl ?_
      exact ev_iret dX2_hiddenNow_34 rfl (⟨rfl, rfl⟩)
    · omega
  | d + 1, i, h => by
    have ih := s_X2_hiddenNow_k (X := X) hn hsz d (i + 1) (by omega)
    refine ev_iload_n 5 dX2_hiddenNow_4 rfl rfl ?_
    refine ev_aload_n 6 dX2_hiddenNow_5 rfl rfl ?_
    refine ev_getIv 9 (nI n) dX2_hiddenNow_6 rfl flX2_27 rfl rfl hsz ?_
    refine ev_icmp_geN 12 33 dX2_hiddenNow_9 (by decide) rfl (by omega) (by omega) (fun c9 => ?_) (fun c9 => ?_)
    · omega
    · refine ev_aload_n 13 dX2_hiddenNow_12 rfl rfl ?_
      refine ev_iload_n 14 dX2_hiddenNow_13 rfl rfl ?_
      refine ev_iconst 15 (nI 5) dX2_hiddenNow_14 (by decide) rfl ?_
      refine ev_cV2I (M 1 (i * 18 + 5)) M 18 dX2_hiddenNow_15 mlX2_64 moX2_get rfl imX2_get ⟨_, _, rfl, rfl, rfl⟩ (Nat.le_of_ble_eq_true rfl) (Nat.le_of_ble_eq_true rfl) rfl (s_X2_get (a := i) (b := 5) (by omega) (by omega)) ?_
      refine ev_if_eq 21 27 dX2_hiddenNow_18 (by decide) rfl (fun c18 => ?_) (fun c18 => ?_)
      · rw [mkM_f (P := hidP M) (by simpa [hidP] using c18)] at ih
        refine ev_iincN 30 _ dX2_hiddenNow_27 rfl (by decide) rfl rfl rfl ?_
        refine ev_goto 4 dX2_hiddenNow_30 (by decide) ?_
        exact ih
      · refine ev_iload_n 22 dX2_hiddenNow_21 rfl rfl ?_
        refine ev_iconst 23 (nI 1) dX2_hiddenNow_22 (by decide) rfl ?_
        refine ev_iload_n 24 dX2_hiddenNow_23 rfl rfl ?_
        refine ev_ishl 25 dX2_hiddenNow_24 rfl ?_
        refine ev_ior 26 dX2_hiddenNow_25 rfl ?_
        refine ev_eqI (mkM_t (P := hidP M) (by simpa [hidP] using c18)) ?_
        refine ev_istore_n 27 _ dX2_hiddenNow_26 (by decide) rfl rfl rfl ?_
        refine ev_iincN 30 _ dX2_hiddenNow_27 rfl (by decide) rfl rfl rfl ?_
        refine ev_goto 4 dX2_hiddenNow_30 (by decide) ?_
        exact ih
theorem s_X2_hiddenNow {X : Shp} {M : Mm} {n : Nat} (hn : n ≤ 24) (hsz : M 0 5 = nI n) : Ct (PSh ++ X) mX2_hiddenNow [.ref 0] M (RetI (mkM (hidP M) n) M) := by
  show Ev _ _ 0 [.ref 0, .null, .null] [] M _
  refine ev_iconst 1 (nI 0) dX2_hiddenNow_0 (by decide) rfl ?_
  refine ev_istore_n 2 _ dX2_hiddenNow_1 (by decide) rfl rfl rfl ?_
  refine ev_iconst 3 (nI 0) dX2_hiddenNow_2 (by decide) rfl ?_
  refine ev_istore_n 4 _ dX2_hiddenNow_3 (by decide) rfl rfl rfl ?_
  exact s_X2_hiddenNow_k hn hsz n 0 (by omega)
def shwP (M : Mm) (hid : Int32) (i : Nat) : Bool := ((M 2 i ||| (nI 1 <<< (nI i &&& 31))) &&& hid) == 0
theorem s_X2_shownUnder_k {X : Shp} {M : Mm} {n : Nat} (hid : Int32) (hn : n ≤ 24) (hsz : M 0 5 = nI n) : ∀ d i (v : Value), i + d = n → Ev (PSh ++ X) mX2_shownUnder 4 [.ref 0, .int hid, .int (mkM (shwP M hid) i), .int (nI i), v] [] M (RetI (mkM (shwP M hid) n) M)
  | 0, i, v, h => by
    have hi : n = i := by omega
    subst hi
    refine ev_iload_n 5 dX2_shownUnder_4 rfl rfl ?_
    refine ev_aload_n 6 dX2_shownUnder_5 rfl rfl ?_
    refine ev_getIv 9 (nI n) dX2_shownUnder_6 rfl flX2_27 rfl rfl hsz ?_
    refine ev_icmp_geN 12 43 dX2_shownUnder_9 (by decide) rfl (by omega) (by omega) (fun c9 => ?_) (fun c9 => ?_)
    · refine ev_iload_n 44 dX2_shownUnder_43 rfl rfl ?_
      exact ev_iret dX2_shownUnder_44 rfl (⟨rfl, rfl⟩)
    · omega
  | d + 1, i, v, h => by
    have ih := fun v => s_X2_shownUnder_k (X := X) hid hn hsz d (i + 1) v (by omega)
    refine ev_iload_n 5 dX2_shownUnder_4 rfl rfl ?_
    refine ev_aload_n 6 dX2_shownUnder_5 rfl rfl ?_
    refine ev_getIv 9 (nI n) dX2_shownUnder_6 rfl flX2_27 rfl rfl hsz ?_
    refine ev_icmp_geN 12 43 dX2_shownUnder_9 (by decide) rfl (by omega) (by omega) (fun c9 => ?_) (fun c9 => ?_)
    · omega
    · refine ev_aload_n 13 dX2_shownUnder_12 rfl rfl ?_
      refine ev_getR 16 dX2_shownUnder_13 rfl flX2_15 rfl rfl ?_
      refine ev_iload_n 17 dX2_shownUnder_16 rfl rfl ?_
      refine ev_iaN 18 _ dX2_shownUnder_17 rfl (by omega) (by decide) rfl rfl ?_
      refine ev_iconst 19 (nI 1) dX2_shownUnder_18 (by decide) rfl ?_
      refine ev_iload_n 20 dX2_shownUnder_19 rfl rfl ?_
      refine ev_ishl 21 dX2_shownUnder_20 rfl ?_
      refine ev_ior 22 dX2_shownUnder_21 rfl ?_
      refine ev_istore 24 _ dX2_shownUnder_22 (by decide) rfl rfl rfl ?_
      refine ev_iload 26 dX2_shownUnder_24 rfl rfl ?_
      refine ev_iload_n 27 dX2_shownUnder_26 rfl rfl ?_
      refine ev_iand 28 dX2_shownUnder_27 rfl ?_
      refine ev_if_ne 31 37 dX2_shownUnder_28 (by decide) rfl (fun c28 => ?_) (fun c28 => ?_)
      · rw [mkM_f (P := shwP M hid) (by simpa [shwP] using c28)] at ih
        refine ev_iincN 40 _ dX2_shownUnder_37 rfl (by decide) rfl rfl rfl ?_
        refine ev_goto 4 dX2_shownUnder_40 (by decide) ?_
        exact ih _
      · refine ev_iload_n 32 dX2_shownUnder_31 rfl rfl ?_
        refine ev_iconst 33 (nI 1) dX2_shownUnder_32 (by decide) rfl ?_
        refine ev_iload_n 34 dX2_shownUnder_33 rfl rfl ?_
        refine ev_ishl 35 dX2_shownUnder_34 rfl ?_
        refine ev_ior 36 dX2_shownUnder_35 rfl ?_
        refine ev_eqI (mkM_t (P := shwP M hid) (by simpa [shwP] using c28)) ?_
        refine ev_istore_n 37 _ dX2_shownUnder_36 (by decide) rfl rfl rfl ?_
        refine ev_iincN 40 _ dX2_shownUnder_37 rfl (by decide) rfl rfl rfl ?_
        refine ev_goto 4 dX2_shownUnder_40 (by decide) ?_
        exact ih _
theorem s_X2_shownUnder {X : Shp} {M : Mm} {n : Nat} (hid : Int32) (hn : n ≤ 24) (hsz : M 0 5 = nI n) : Ct (PSh ++ X) mX2_shownUnder [.ref 0, .int hid] M (RetI (mkM (shwP M hid) n) M) := by
  show Ev _ _ 0 [.ref 0, .int hid, .null, .null, .null] [] M _
  refine ev_iconst 1 (nI 0) dX2_shownUnder_0 (by decide) rfl ?_
  refine ev_istore_n 2 _ dX2_shownUnder_1 (by decide) rfl rfl rfl ?_
  refine ev_iconst 3 (nI 0) dX2_shownUnder_2 (by decide) rfl ?_
  refine ev_istore_n 4 _ dX2_shownUnder_3 (by decide) rfl rfl rfl ?_
  exact s_X2_shownUnder_k hid hn hsz n 0 _ (by omega)
def shN (M : Mm) (n : Nat) : Int32 := mkM (shwP M (mkM (hidP M) n)) n
theorem s_X2_shownNow {X : Shp} {M : Mm} {n : Nat} (hn : n ≤ 24) (hsz : M 0 5 = nI n) : Ct (PSh ++ X) mX2_shownNow [.ref 0] M (RetI (shN M n) M) := by
  show Ev _ _ 0 [.ref 0] [] M _
  refine ev_aload_n 1 dX2_shownNow_0 rfl rfl ?_
  refine ev_aload_n 2 dX2_shownNow_1 rfl rfl ?_
  refine ev_cV0I _ M 5 dX2_shownNow_2 mlX2_67 moX2_hiddenNow rfl imX2_hiddenNow ⟨_, _, rfl, rfl, rfl⟩ (Nat.le_of_ble_eq_true rfl) (Nat.le_of_ble_eq_true rfl) rfl (s_X2_hiddenNow hn hsz) ?_
  refine ev_cV1I _ M 8 dX2_shownNow_5 mlX2_71 moX2_shownUnder rfl imX2_shownUnder ⟨_, _, rfl, rfl, rfl⟩ (Nat.le_of_ble_eq_true rfl) (Nat.le_of_ble_eq_true rfl) rfl (s_X2_shownUnder _ hn hsz) ?_
  exact ev_iret dX2_shownNow_8 rfl (⟨rfl, rfl⟩)
theorem s_X2_stopsAmong {X : Shp} {M : Mm} (x : Int32) : Ct (PSh ++ X) mX2_stopsAmong [.ref 0, .int x] M (RetI (x &&& (M 4 2 ||| M 4 3)) M) := by
  show Ev _ _ 0 [.ref 0, .int x] [] M _
  refine ev_iload_n 1 dX2_stopsAmong_0 rfl rfl ?_
  refine ev_aload_n 2 dX2_stopsAmong_1 rfl rfl ?_
  refine ev_getR 5 dX2_stopsAmong_2 rfl flX2_21 rfl rfl ?_
  refine ev_iconst 6 (nI 2) dX2_stopsAmong_5 (by decide) rfl ?_
  refine ev_iaN 7 _ dX2_stopsAmong_6 rfl (by decide) (by decide) rfl rfl ?_
  refine ev_aload_n 8 dX2_stopsAmong_7 rfl rfl ?_
  refine ev_getR 11 dX2_stopsAmong_8 rfl flX2_21 rfl rfl ?_
  refine ev_iconst 12 (nI 3) dX2_stopsAmong_11 (by decide) rfl ?_
  refine ev_iaN 13 _ dX2_stopsAmong_12 rfl (by decide) (by decide) rfl rfl ?_
  refine ev_ior 14 dX2_stopsAmong_13 rfl ?_
  refine ev_iand 15 dX2_stopsAmong_14 rfl ?_
  exact ev_iret dX2_stopsAmong_15 rfl (⟨rfl, rfl⟩)
theorem s_X2_openedByButton {X : Shp} {M : Mm} (x : Int32) : Ct (PSh ++ X) mX2_openedByButton [.ref 0, .int x] M (RetI (if hB (M 4 2) x then M 1 (x.toNatClampNeg * 18 + 7) else -1) M) := by
  show Ev _ _ 0 [.ref 0, .int x] [] M _
  refine ev_aload_n 1 dX2_openedByButton_0 rfl rfl ?_
  refine ev_getR 4 dX2_openedByButton_1 rfl flX2_21 rfl rfl ?_
  refine ev_iconst 5 (nI 2) dX2_openedByButton_4 (by decide) rfl ?_
  refine ev_iaN 6 _ dX2_openedByButton_5 rfl (by decide) (by decide) rfl rfl ?_
  refine ev_iload_n 7 dX2_openedByButton_6 rfl rfl ?_
  refine ev_cS2I _ M 10 dX2_openedByButton_7 mlX2_43 moX7_holds rfl smX7_holds (Nat.le_of_ble_eq_true rfl) (Nat.le_of_ble_eq_true rfl) rfl (s_holds _ _) ?_
  refine ev_if_eqB 13 23 dX2_openedByButton_10 (by decide) rfl (fun c10 => ?_) (fun c10 => ?_)
  · refine ev_iconst 24 (-1) dX2_openedByButton_23 (by decide) rfl ?_
    exact ev_iret dX2_openedByButton_24 rfl (⟨by first | (rw [if_pos c10, nI_clamp (by omega)]) | (rw [if_neg (by rw [c10]; decide)]), rfl⟩)
  · obtain ⟨a, ha, rfl⟩ := inB_of (x := x) (n := 24) (by simp only [hB, Bool.and_eq_true] at c10; exact c10.1) (by omega)
    refine ev_aload_n 14 dX2_openedByButton_13 rfl rfl ?_
    refine ev_iload_n 15 dX2_openedByButton_14 rfl rfl ?_
    refine ev_bipush 17 (nI 7) dX2_openedByButton_15 (by decide) rfl ?_
    refine ev_cV2I (M 1 (a * 18 + 7)) M 20 dX2_openedByButton_17 mlX2_64 moX2_get rfl imX2_get ⟨_, _, rfl, rfl, rfl⟩ (Nat.le_of_ble_eq_true rfl) (Nat.le_of_ble_eq_true rfl) rfl (s_X2_get (a := a) (b := 7) ha (by omega)) ?_
    refine ev_goto 24 dX2_openedByButton_20 (by decide) ?_
    exact ev_iret dX2_openedByButton_24 rfl (⟨by first | (rw [if_pos c10, nI_clamp (by omega)]) | (rw [if_neg (by rw [c10]; decide)]), rfl⟩)
theorem s_X2_trapAround {X : Shp} {M : Mm} {n : Nat} (hn : n ≤ 24) (hsz : M 0 5 = nI n) (x sh : Int32) : Ct (PSh ++ X) mX2_trapAround [.ref 0, .int x, .int sh] M (RetI (if inB x n then lastF ((M 2 x.toNatClampNeg &&& M 4 5) &&& sh) 24 else -1) M) := by
  show Ev _ _ 0 [.ref 0, .int x, .int sh] [] M _
  refine ev_aload_n 1 dX2_trapAround_0 rfl rfl ?_
  refine ev_iload_n 2 dX2_trapAround_1 rfl rfl ?_
  refine ev_cV1I _ M 5 dX2_trapAround_2 mlX2_39 moX2_has rfl imX2_has ⟨_, _, rfl, rfl, rfl⟩ (Nat.le_of_ble_eq_true rfl) (Nat.le_of_ble_eq_true rfl) rfl (s_X2_has hn hsz x) ?_
  refine ev_if_eqB 8 29 dX2_trapAround_5 (by decide) rfl (fun c5 => ?_) (fun c5 => ?_)
  · refine ev_iconst 30 (-1) dX2_trapAround_29 (by decide) rfl ?_
    exact ev_iret dX2_trapAround_30 rfl (⟨by first | (rw [if_pos c5, nI_clamp (by omega)]) | (rw [if_neg (by rw [c5]; decide)]), rfl⟩)
  · obtain ⟨a, ha, rfl⟩ := inB_of c5 (by omega)
    refine ev_aload_n 9 dX2_trapAround_8 rfl rfl ?_
    refine ev_getR 12 dX2_trapAround_9 rfl flX2_15 rfl rfl ?_
    refine ev_iload_n 13 dX2_trapAround_12 rfl rfl ?_
    refine ev_iaN 14 _ dX2_trapAround_13 rfl (by omega) (by decide) rfl rfl ?_
    refine ev_aload_n 15 dX2_trapAround_14 rfl rfl ?_
    refine ev_getR 18 dX2_trapAround_15 rfl flX2_21 rfl rfl ?_
    refine ev_iconst 19 (nI 5) dX2_trapAround_18 (by decide) rfl ?_
    refine ev_iaN 20 _ dX2_trapAround_19 rfl (by decide) (by decide) rfl rfl ?_
    refine ev_iand 21 dX2_trapAround_20 rfl ?_
    refine ev_iload_n 22 dX2_trapAround_21 rfl rfl ?_
    refine ev_iand 23 dX2_trapAround_22 rfl ?_
    refine ev_cS1I _ M 26 dX2_trapAround_23 mlX2_74 moX7_lastOf rfl smX7_lastOf (Nat.le_of_ble_eq_true rfl) (Nat.le_of_ble_eq_true rfl) rfl (s_lastOf _) ?_
    refine ev_goto 30 dX2_trapAround_26 (by decide) ?_
    exact ev_iret dX2_trapAround_30 rfl (⟨by first | (rw [if_pos c5, nI_clamp (by omega)]) | (rw [if_neg (by rw [c5]; decide)]), rfl⟩)
theorem s_X2_liveAround {X : Shp} {M : Mm} {n : Nat} (hn : n ≤ 24) (hsz : M 0 5 = nI n) (x : Int32) : Ct (PSh ++ X) mX2_liveAround [.ref 0, .int x] M (RetI (if inB x n then lastF (M 2 x.toNatClampNeg &&& M 4 6) 24 else -1) M) := by
  show Ev _ _ 0 [.ref 0, .int x] [] M _
  refine ev_aload_n 1 dX2_liveAround_0 rfl rfl ?_
  refine ev_iload_n 2 dX2_liveAround_1 rfl rfl ?_
  refine ev_cV1I _ M 5 dX2_liveAround_2 mlX2_39 moX2_has rfl imX2_has ⟨_, _, rfl, rfl, rfl⟩ (Nat.le_of_ble_eq_true rfl) (Nat.le_of_ble_eq_true rfl) rfl (s_X2_has hn hsz x) ?_
  refine ev_if_eqB 8 28 dX2_liveAround_5 (by decide) rfl (fun c5 => ?_) (fun c5 => ?_)
  · refine ev_iconst 29 (-1) dX2_liveAround_28 (by decide) rfl ?_
    exact ev_iret dX2_liveAround_29 rfl (⟨by first | (rw [if_pos c5, nI_clamp (by omega)]) | (rw [if_neg (by rw [c5]; decide)]), rfl⟩)
  · obtain ⟨a, ha, rfl⟩ := inB_of c5 (by omega)
    refine ev_aload_n 9 dX2_liveAround_8 rfl rfl ?_
    refine ev_getR 12 dX2_liveAround_9 rfl flX2_15 rfl rfl ?_
    refine ev_iload_n 13 dX2_liveAround_12 rfl rfl ?_
    refine ev_iaN 14 _ dX2_liveAround_13 rfl (by omega) (by decide) rfl rfl ?_
    refine ev_aload_n 15 dX2_liveAround_14 rfl rfl ?_
    refine ev_getR 18 dX2_liveAround_15 rfl flX2_21 rfl rfl ?_
    refine ev_bipush 20 (nI 6) dX2_liveAround_18 (by decide) rfl ?_
    refine ev_iaN 21 _ dX2_liveAround_20 rfl (by decide) (by decide) rfl rfl ?_
    refine ev_iand 22 dX2_liveAround_21 rfl ?_
    refine ev_cS1I _ M 25 dX2_liveAround_22 mlX2_74 moX7_lastOf rfl smX7_lastOf (Nat.le_of_ble_eq_true rfl) (Nat.le_of_ble_eq_true rfl) rfl (s_lastOf _) ?_
    refine ev_goto 29 dX2_liveAround_25 (by decide) ?_
    exact ev_iret dX2_liveAround_29 rfl (⟨by first | (rw [if_pos c5, nI_clamp (by omega)]) | (rw [if_neg (by rw [c5]; decide)]), rfl⟩)
def opdF (M : Mm) (x : Int32) : Nat → Int32
  | 0 => 0
  | k + 1 => if ¬ nI k = x ∧ ¬ M 1 (k * 18 + 7) = -1 then opdF M x k ||| (nI 1 <<< (M 1 (k * 18 + 7) &&& 31)) else opdF M x k
theorem s_X2_openedBesides_k {X : Shp} {M : Mm} {n : Nat} (x : Int32) (hn : n ≤ 24) (hsz : M 0 5 = nI n) : ∀ d i (v : Value), i + d = n → Ev (PSh ++ X) mX2_openedBesides 4 [.ref 0, .int x, .int (opdF M x i), .int (nI i), v] [] M (RetI (opdF M x n) M)
  | 0, i, v, h => by
    have hi : n = i := by omega
    subst hi
    refine ev_iload_n 5 dX2_openedBesides_4 rfl rfl ?_
    refine ev_aload_n 6 dX2_openedBesides_5 rfl rfl ?_
    refine ev_getIv 9 (nI n) dX2_openedBesides_6 rfl flX2_27 rfl rfl hsz ?_
    refine ev_icmp_geN 12 45 dX2_openedBesides_9 (by decide) rfl (by omega) (by omega) (fun c9 => ?_) (fun c9 => ?_)
    · refine ev_iload_n 46 dX2_openedBesides_45 rfl rfl ?_
      exact ev_iret dX2_openedBesides_46 rfl (⟨rfl, rfl⟩)
    · omega
  | d + 1, i, v, h => by
    have ih := fun v => s_X2_openedBesides_k (X := X) x hn hsz d (i + 1) v (by omega)
    refine ev_iload_n 5 dX2_openedBesides_4 rfl rfl ?_
    refine ev_aload_n 6 dX2_openedBesides_5 rfl rfl ?_
    refine ev_getIv 9 (nI n) dX2_openedBesides_6 rfl flX2_27 rfl rfl hsz ?_
    refine ev_icmp_geN 12 45 dX2_openedBesides_9 (by decide) rfl (by omega) (by omega) (fun c9 => ?_) (fun c9 => ?_)
    · omega
    · refine ev_aload_n 13 dX2_openedBesides_12 rfl rfl ?_
      refine ev_iload_n 14 dX2_openedBesides_13 rfl rfl ?_
      refine ev_bipush 16 (nI 7) dX2_openedBesides_14 (by decide) rfl ?_
      refine ev_cV2I (M 1 (i * 18 + 7)) M 19 dX2_openedBesides_16 mlX2_64 moX2_get rfl imX2_get ⟨_, _, rfl, rfl, rfl⟩ (Nat.le_of_ble_eq_true rfl) (Nat.le_of_ble_eq_true rfl) rfl (s_X2_get (a := i) (b := 7) (by omega) (by omega)) ?_
      refine ev_istore 21 _ dX2_openedBesides_19 (by decide) rfl rfl rfl ?_
      refine ev_iload_n 22 dX2_openedBesides_21 rfl rfl ?_
      refine ev_iload_n 23 dX2_openedBesides_22 rfl rfl ?_
      refine ev_icmp_eq 26 39 dX2_openedBesides_23 (by decide) rfl (fun c23 => ?_) (fun c23 => ?_)
      · rw [show opdF M x (i + 1) = opdF M x i from if_neg (fun z => z.1 c23)] at ih
        refine ev_iincN 42 _ dX2_openedBesides_39 rfl (by decide) rfl rfl rfl ?_
        refine ev_goto 4 dX2_openedBesides_42 (by decide) ?_
        exact ih _
      · refine ev_iload 28 dX2_openedBesides_26 rfl rfl ?_
        refine ev_iconst 29 (-1) dX2_openedBesides_28 (by decide) rfl ?_
        refine ev_icmp_eq 32 39 dX2_openedBesides_29 (by decide) rfl (fun c29 => ?_) (fun c29 => ?_)
        · rw [show opdF M x (i + 1) = opdF M x i from if_neg (fun z => z.2 c29)] at ih
          refine ev_iincN 42 _ dX2_openedBesides_39 rfl (by decide) rfl rfl rfl ?_
          refine ev_goto 4 dX2_openedBesides_42 (by decide) ?_
          exact ih _
        · refine ev_iload_n 33 dX2_openedBesides_32 rfl rfl ?_
          refine ev_iconst 34 (nI 1) dX2_openedBesides_33 (by decide) rfl ?_
          refine ev_iload 36 dX2_openedBesides_34 rfl rfl ?_
          refine ev_ishl 37 dX2_openedBesides_36 rfl ?_
          refine ev_ior 38 dX2_openedBesides_37 rfl ?_
          refine ev_eqI (show _ = opdF M x (i + 1) from (if_pos ⟨c23, c29⟩).symm) ?_
          refine ev_istore_n 39 _ dX2_openedBesides_38 (by decide) rfl rfl rfl ?_
          refine ev_iincN 42 _ dX2_openedBesides_39 rfl (by decide) rfl rfl rfl ?_
          refine ev_goto 4 dX2_openedBesides_42 (by decide) ?_
          exact ih _
theorem s_X2_openedBesides {X : Shp} {M : Mm} {n : Nat} (x : Int32) (hn : n ≤ 24) (hsz : M 0 5 = nI n) : Ct (PSh ++ X) mX2_openedBesides [.ref 0, .int x] M (RetI (opdF M x n) M) := by
  show Ev _ _ 0 [.ref 0, .int x, .null, .null, .null] [] M _
  refine ev_iconst 1 (nI 0) dX2_openedBesides_0 (by decide) rfl ?_
  refine ev_istore_n 2 _ dX2_openedBesides_1 (by decide) rfl rfl rfl ?_
  refine ev_iconst 3 (nI 0) dX2_openedBesides_2 (by decide) rfl ?_
  refine ev_istore_n 4 _ dX2_openedBesides_3 (by decide) rfl rfl rfl ?_
  exact s_X2_openedBesides_k x hn hsz n 0 _ (by omega)
def alw (n : Nat) (w v : Int32) : Bool := if w = nI 0 ∨ w = nI 1 ∨ w = nI 2 then true else if w = nI 3 ∨ w = nI 4 then (v == -1 || inB v n) else if w = nI 5 ∨ w = nI 9 then inB v 2 else if w = nI 6 then inB v 101 else if w = nI 7 then (v == -1 || (v != 0 && inB v n)) else if w = nI 8 then inB v 1001 else false
theorem inB_lt {v : Int32} {n : Nat} (h : v < 0) : inB v n = false := decide_eq_false (by rw [int_lt0] at h; omega)
theorem inB_gt {v : Int32} {k : Nat} (hk : k < 2 ^ 31) (h : nI k < v) : inB v (k + 1) = false := decide_eq_false (by rw [Int32.lt_iff_toInt_lt, nI_toInt hk] at h; omega)
theorem inB_ok {v : Int32} {k : Nat} (hk : k < 2 ^ 31) (h0 : ¬ v < 0) (h : ¬ nI k < v) : inB v (k + 1) = true := decide_eq_true (by rw [int_lt0] at h0; rw [Int32.lt_iff_toInt_lt, nI_toInt hk] at h; omega)
theorem inB_2 {v : Int32} (h0 : ¬ v = 0) (h1 : ¬ v = nI 1) : inB v 2 = false := by
  cases h : inB v 2
  · rfl
  · obtain ⟨j, hj, rfl⟩ := inB_of h (by omega)
    rcases (show j = 0 ∨ j = 1 by omega) with rfl | rfl
    · exact absurd rfl h0
    · exact absurd rfl h1
theorem alw_out {n : Nat} {w v : Int32} (h : ¬ inB w 10 = true) : alw n w v = false := by
  have e : ∀ j, j < 10 → w ≠ nI j := fun j hj z => h (by rw [z, inB_nI (by omega)]; exact decide_eq_true hj)
  simp only [alw, e 0 (by omega), e 1 (by omega), e 2 (by omega), e 3 (by omega), e 4 (by omega), e 5 (by omega), e 6 (by omega), e 7 (by omega), e 8 (by omega), e 9 (by omega), if_false, or_self]

theorem s_X2_allows {X : Shp} {M : Mm} {n : Nat} (hn : n ≤ 24) (hsz : M 0 5 = nI n) (w v : Int32) : Ct (PSh ++ X) mX2_allows [.ref 0, .int w, .int v] M (RetI (bI (alw n w v)) M) := by
  show Ev _ _ 0 [.ref 0, .int w, .int v] [] M _
  refine ev_iload_n 1 dX2_allows_0 rfl rfl ?_
  by_cases hsw : inB w 10 = true
  · obtain ⟨jsw, hjsw, rfl⟩ := inB_of hsw (by omega)
    rcases (show jsw = 0 ∨ jsw = 1 ∨ jsw = 2 ∨ jsw = 3 ∨ jsw = 4 ∨ jsw = 5 ∨ jsw = 6 ∨ jsw = 7 ∨ jsw = 8 ∨ jsw = 9 by omega) with rfl | rfl | rfl | rfl | rfl | rfl | rfl | rfl | rfl | rfl
    · refine ev_tabIn 56 dX2_allows_1 (by decide) (by decide) rfl (by decide) ?_
      refine ev_iconst 57 (nI 1) dX2_allows_56 (by decide) rfl ?_
      exact ev_zret dX2_allows_57 rfl (Or.inr rfl) (⟨by rw [show alw n (nI 0) v = true from rfl]; rfl, rfl⟩)
    · refine ev_tabIn 56 dX2_allows_1 (by decide) (by decide) rfl (by decide) ?_
      refine ev_iconst 57 (nI 1) dX2_allows_56 (by decide) rfl ?_
      exact ev_zret dX2_allows_57 rfl (Or.inr rfl) (⟨by rw [show alw n (nI 1) v = true from rfl]; rfl, rfl⟩)
    · refine ev_tabIn 56 dX2_allows_1 (by decide) (by decide) rfl (by decide) ?_
      refine ev_iconst 57 (nI 1) dX2_allows_56 (by decide) rfl ?_
      exact ev_zret dX2_allows_57 rfl (Or.inr rfl) (⟨by rw [show alw n (nI 2) v = true from rfl]; rfl, rfl⟩)
    · refine ev_tabIn 58 dX2_allows_1 (by decide) (by decide) rfl (by decide) ?_
      refine ev_iload_n 59 dX2_allows_58 rfl rfl ?_
      refine ev_iconst 60 (-1) dX2_allows_59 (by decide) rfl ?_
      refine ev_icmp_eq 63 71 dX2_allows_60 (by decide) rfl (fun c60 => ?_) (fun c60 => ?_)
      · refine ev_iconst 72 (nI 1) dX2_allows_71 (by decide) rfl ?_
        refine ev_goto 76 dX2_allows_72 (by decide) ?_
        exact ev_zret dX2_allows_76 rfl (Or.inr rfl) (⟨by rw [show alw n (nI 3) v = (v == -1 || inB v n) from rfl]; first | (rw [c60]; rfl) | (simp [c60, c68, bI, nI_0, nI_one]), rfl⟩)
      · refine ev_aload_n 64 dX2_allows_63 rfl rfl ?_
        refine ev_iload_n 65 dX2_allows_64 rfl rfl ?_
        refine ev_cV1I _ M 68 dX2_allows_65 mlX2_39 moX2_has rfl imX2_has ⟨_, _, rfl, rfl, rfl⟩ (Nat.le_of_ble_eq_true rfl) (Nat.le_of_ble_eq_true rfl) rfl (s_X2_has hn hsz v) ?_
        refine ev_if_eqB 71 75 dX2_allows_68 (by decide) rfl (fun c68 => ?_) (fun c68 => ?_)
        · refine ev_iconst 76 (nI 0) dX2_allows_75 (by decide) rfl ?_
          exact ev_zret dX2_allows_76 rfl (Or.inl rfl) (⟨by rw [show alw n (nI 3) v = (v == -1 || inB v n) from rfl]; first | (rw [c60]; rfl) | (simp [c60, c68, bI, nI_0, nI_one]), rfl⟩)
        · refine ev_iconst 72 (nI 1) dX2_allows_71 (by decide) rfl ?_
          refine ev_goto 76 dX2_allows_72 (by decide) ?_
          exact ev_zret dX2_allows_76 rfl (Or.inr rfl) (⟨by rw [show alw n (nI 3) v = (v == -1 || inB v n) from rfl]; first | (rw [c60]; rfl) | (simp [c60, c68, bI, nI_0, nI_one]), rfl⟩)
    · refine ev_tabIn 58 dX2_allows_1 (by decide) (by decide) rfl (by decide) ?_
      refine ev_iload_n 59 dX2_allows_58 rfl rfl ?_
      refine ev_iconst 60 (-1) dX2_allows_59 (by decide) rfl ?_
      refine ev_icmp_eq 63 71 dX2_allows_60 (by decide) rfl (fun c60 => ?_) (fun c60 => ?_)
      · refine ev_iconst 72 (nI 1) dX2_allows_71 (by decide) rfl ?_
        refine ev_goto 76 dX2_allows_72 (by decide) ?_
        exact ev_zret dX2_allows_76 rfl (Or.inr rfl) (⟨by rw [show alw n (nI 4) v = (v == -1 || inB v n) from rfl]; first | (rw [c60]; rfl) | (simp [c60, c68, bI, nI_0, nI_one]), rfl⟩)
      · refine ev_aload_n 64 dX2_allows_63 rfl rfl ?_
        refine ev_iload_n 65 dX2_allows_64 rfl rfl ?_
        refine ev_cV1I _ M 68 dX2_allows_65 mlX2_39 moX2_has rfl imX2_has ⟨_, _, rfl, rfl, rfl⟩ (Nat.le_of_ble_eq_true rfl) (Nat.le_of_ble_eq_true rfl) rfl (s_X2_has hn hsz v) ?_
        refine ev_if_eqB 71 75 dX2_allows_68 (by decide) rfl (fun c68 => ?_) (fun c68 => ?_)
        · refine ev_iconst 76 (nI 0) dX2_allows_75 (by decide) rfl ?_
          exact ev_zret dX2_allows_76 rfl (Or.inl rfl) (⟨by rw [show alw n (nI 4) v = (v == -1 || inB v n) from rfl]; first | (rw [c60]; rfl) | (simp [c60, c68, bI, nI_0, nI_one]), rfl⟩)
        · refine ev_iconst 72 (nI 1) dX2_allows_71 (by decide) rfl ?_
          refine ev_goto 76 dX2_allows_72 (by decide) ?_
          exact ev_zret dX2_allows_76 rfl (Or.inr rfl) (⟨by rw [show alw n (nI 4) v = (v == -1 || inB v n) from rfl]; first | (rw [c60]; rfl) | (simp [c60, c68, bI, nI_0, nI_one]), rfl⟩)
    · refine ev_tabIn 100 dX2_allows_1 (by decide) (by decide) rfl (by decide) ?_
      refine ev_iload_n 101 dX2_allows_100 rfl rfl ?_
      refine ev_if_eq 104 109 dX2_allows_101 (by decide) rfl (fun c101 => ?_) (fun c101 => ?_)
      · refine ev_iconst 110 (nI 1) dX2_allows_109 (by decide) rfl ?_
        refine ev_goto 114 dX2_allows_110 (by decide) ?_
        exact ev_zret dX2_allows_114 rfl (Or.inr rfl) (⟨by rw [show alw n (nI 5) v = inB v 2 from rfl]; first | (rw [c101]; rfl) | (rw [inB_2 c101 c106]; rfl) | (rw [c106]; rfl), rfl⟩)
      · refine ev_iload_n 105 dX2_allows_104 rfl rfl ?_
        refine ev_iconst 106 (nI 1) dX2_allows_105 (by decide) rfl ?_
        refine ev_icmp_ne 109 113 dX2_allows_106 (by decide) rfl (fun c106 => ?_) (fun c106 => ?_)
        · refine ev_iconst 114 (nI 0) dX2_allows_113 (by decide) rfl ?_
          exact ev_zret dX2_allows_114 rfl (Or.inl rfl) (⟨by rw [show alw n (nI 5) v = inB v 2 from rfl]; first | (rw [c101]; rfl) | (rw [inB_2 c101 c106]; rfl) | (rw [c106]; rfl), rfl⟩)
        · refine ev_iconst 110 (nI 1) dX2_allows_109 (by decide) rfl ?_
          refine ev_goto 114 dX2_allows_110 (by decide) ?_
          exact ev_zret dX2_allows_114 rfl (Or.inr rfl) (⟨by rw [show alw n (nI 5) v = inB v 2 from rfl]; first | (rw [c101]; rfl) | (rw [inB_2 c101 c106]; rfl) | (rw [c106]; rfl), rfl⟩)
    · refine ev_tabIn 115 dX2_allows_1 (by decide) (by decide) rfl (by decide) ?_
      refine ev_iload_n 116 dX2_allows_115 rfl rfl ?_
      refine ev_if_lt 119 129 dX2_allows_116 (by decide) rfl (fun c116 => ?_) (fun c116 => ?_)
      · refine ev_iconst 130 (nI 0) dX2_allows_129 (by decide) rfl ?_
        exact ev_zret dX2_allows_130 rfl (Or.inl rfl) (⟨by rw [show alw n (nI 6) v = inB v 101 from rfl]; first | (rw [inB_lt c116]; rfl) | (rw [inB_gt (by omega) c122]; rfl) | (rw [inB_ok (k := 100) (by omega) c116 c122]; rfl), rfl⟩)
      · refine ev_iload_n 120 dX2_allows_119 rfl rfl ?_
        refine ev_bipush 122 (nI 100) dX2_allows_120 (by decide) rfl ?_
        refine ev_icmp_gt 125 129 dX2_allows_122 (by decide) rfl (fun c122 => ?_) (fun c122 => ?_)
        · refine ev_iconst 130 (nI 0) dX2_allows_129 (by decide) rfl ?_
          exact ev_zret dX2_allows_130 rfl (Or.inl rfl) (⟨by rw [show alw n (nI 6) v = inB v 101 from rfl]; first | (rw [inB_lt c116]; rfl) | (rw [inB_gt (by omega) c122]; rfl) | (rw [inB_ok (k := 100) (by omega) c116 c122]; rfl), rfl⟩)
        · refine ev_iconst 126 (nI 1) dX2_allows_125 (by decide) rfl ?_
          refine ev_goto 130 dX2_allows_126 (by decide) ?_
          exact ev_zret dX2_allows_130 rfl (Or.inr rfl) (⟨by rw [show alw n (nI 6) v = inB v 101 from rfl]; first | (rw [inB_lt c116]; rfl) | (rw [inB_gt (by omega) c122]; rfl) | (rw [inB_ok (k := 100) (by omega) c116 c122]; rfl), rfl⟩)
    · refine ev_tabIn 77 dX2_allows_1 (by decide) (by decide) rfl (by decide) ?_
      refine ev_iload_n 78 dX2_allows_77 rfl rfl ?_
      refine ev_iconst 79 (-1) dX2_allows_78 (by decide) rfl ?_
      refine ev_icmp_eq 82 94 dX2_allows_79 (by decide) rfl (fun c79 => ?_) (fun c79 => ?_)
      · refine ev_iconst 95 (nI 1) dX2_allows_94 (by decide) rfl ?_
        refine ev_goto 99 dX2_allows_95 (by decide) ?_
        exact ev_zret dX2_allows_99 rfl (Or.inr rfl) (⟨by rw [show alw n (nI 7) v = (v == -1 || (v != 0 && inB v n)) from rfl]; first | (rw [c79]; rfl) | (simp [c79, c83, bI, nI_0, nI_one]; done) | (simp [c79, c83, c91, bI, nI_0, nI_one]), rfl⟩)
      · refine ev_iload_n 83 dX2_allows_82 rfl rfl ?_
        refine ev_if_eq 86 98 dX2_allows_83 (by decide) rfl (fun c83 => ?_) (fun c83 => ?_)
        · refine ev_iconst 99 (nI 0) dX2_allows_98 (by decide) rfl ?_
          exact ev_zret dX2_allows_99 rfl (Or.inl rfl) (⟨by rw [show alw n (nI 7) v = (v == -1 || (v != 0 && inB v n)) from rfl]; first | (rw [c79]; rfl) | (simp [c79, c83, bI, nI_0, nI_one]; done) | (simp [c79, c83, c91, bI, nI_0, nI_one]), rfl⟩)
        · refine ev_aload_n 87 dX2_allows_86 rfl rfl ?_
          refine ev_iload_n 88 dX2_allows_87 rfl rfl ?_
          refine ev_cV1I _ M 91 dX2_allows_88 mlX2_39 moX2_has rfl imX2_has ⟨_, _, rfl, rfl, rfl⟩ (Nat.le_of_ble_eq_true rfl) (Nat.le_of_ble_eq_true rfl) rfl (s_X2_has hn hsz v) ?_
          refine ev_if_eqB 94 98 dX2_allows_91 (by decide) rfl (fun c91 => ?_) (fun c91 => ?_)
          · refine ev_iconst 99 (nI 0) dX2_allows_98 (by decide) rfl ?_
            exact ev_zret dX2_allows_99 rfl (Or.inl rfl) (⟨by rw [show alw n (nI 7) v = (v == -1 || (v != 0 && inB v n)) from rfl]; first | (rw [c79]; rfl) | (simp [c79, c83, bI, nI_0, nI_one]; done) | (simp [c79, c83, c91, bI, nI_0, nI_one]), rfl⟩)
          · refine ev_iconst 95 (nI 1) dX2_allows_94 (by decide) rfl ?_
            refine ev_goto 99 dX2_allows_95 (by decide) ?_
            exact ev_zret dX2_allows_99 rfl (Or.inr rfl) (⟨by rw [show alw n (nI 7) v = (v == -1 || (v != 0 && inB v n)) from rfl]; first | (rw [c79]; rfl) | (simp [c79, c83, bI, nI_0, nI_one]; done) | (simp [c79, c83, c91, bI, nI_0, nI_one]), rfl⟩)
    · refine ev_tabIn 131 dX2_allows_1 (by decide) (by decide) rfl (by decide) ?_
      refine ev_iload_n 132 dX2_allows_131 rfl rfl ?_
      refine ev_if_lt 135 146 dX2_allows_132 (by decide) rfl (fun c132 => ?_) (fun c132 => ?_)
      · refine ev_iconst 147 (nI 0) dX2_allows_146 (by decide) rfl ?_
        exact ev_zret dX2_allows_147 rfl (Or.inl rfl) (⟨by rw [show alw n (nI 8) v = inB v 1001 from rfl]; first | (rw [inB_lt c132]; rfl) | (rw [inB_gt (by omega) c139]; rfl) | (rw [inB_ok (k := 1000) (by omega) c132 c139]; rfl), rfl⟩)
      · refine ev_iload_n 136 dX2_allows_135 rfl rfl ?_
        refine ev_sipush 139 (nI 1000) dX2_allows_136 (by decide) rfl ?_
        refine ev_icmp_gt 142 146 dX2_allows_139 (by decide) rfl (fun c139 => ?_) (fun c139 => ?_)
        · refine ev_iconst 147 (nI 0) dX2_allows_146 (by decide) rfl ?_
          exact ev_zret dX2_allows_147 rfl (Or.inl rfl) (⟨by rw [show alw n (nI 8) v = inB v 1001 from rfl]; first | (rw [inB_lt c132]; rfl) | (rw [inB_gt (by omega) c139]; rfl) | (rw [inB_ok (k := 1000) (by omega) c132 c139]; rfl), rfl⟩)
        · refine ev_iconst 143 (nI 1) dX2_allows_142 (by decide) rfl ?_
          refine ev_goto 147 dX2_allows_143 (by decide) ?_
          exact ev_zret dX2_allows_147 rfl (Or.inr rfl) (⟨by rw [show alw n (nI 8) v = inB v 1001 from rfl]; first | (rw [inB_lt c132]; rfl) | (rw [inB_gt (by omega) c139]; rfl) | (rw [inB_ok (k := 1000) (by omega) c132 c139]; rfl), rfl⟩)
    · refine ev_tabIn 100 dX2_allows_1 (by decide) (by decide) rfl (by decide) ?_
      refine ev_iload_n 101 dX2_allows_100 rfl rfl ?_
      refine ev_if_eq 104 109 dX2_allows_101 (by decide) rfl (fun c101 => ?_) (fun c101 => ?_)
      · refine ev_iconst 110 (nI 1) dX2_allows_109 (by decide) rfl ?_
        refine ev_goto 114 dX2_allows_110 (by decide) ?_
        exact ev_zret dX2_allows_114 rfl (Or.inr rfl) (⟨by rw [show alw n (nI 9) v = inB v 2 from rfl]; first | (rw [c101]; rfl) | (rw [inB_2 c101 c106]; rfl) | (rw [c106]; rfl), rfl⟩)
      · refine ev_iload_n 105 dX2_allows_104 rfl rfl ?_
        refine ev_iconst 106 (nI 1) dX2_allows_105 (by decide) rfl ?_
        refine ev_icmp_ne 109 113 dX2_allows_106 (by decide) rfl (fun c106 => ?_) (fun c106 => ?_)
        · refine ev_iconst 114 (nI 0) dX2_allows_113 (by decide) rfl ?_
          exact ev_zret dX2_allows_114 rfl (Or.inl rfl) (⟨by rw [show alw n (nI 9) v = inB v 2 from rfl]; first | (rw [c101]; rfl) | (rw [inB_2 c101 c106]; rfl) | (rw [c106]; rfl), rfl⟩)
        · refine ev_iconst 110 (nI 1) dX2_allows_109 (by decide) rfl ?_
          refine ev_goto 114 dX2_allows_110 (by decide) ?_
          exact ev_zret dX2_allows_114 rfl (Or.inr rfl) (⟨by rw [show alw n (nI 9) v = inB v 2 from rfl]; first | (rw [c101]; rfl) | (rw [inB_2 c101 c106]; rfl) | (rw [c106]; rfl), rfl⟩)
  · refine ev_tabOut 148 dX2_allows_1 (outB hsw) (by decide) ?_
    refine ev_iconst 149 (nI 0) dX2_allows_148 (by decide) rfl ?_
    exact ev_zret dX2_allows_149 rfl (Or.inl rfl) (⟨by rw [alw_out hsw]; rfl, rfl⟩)
end
section
/-! Names -/
def nmAt (M : Mm) (w c p : Nat) (l : List Int32) : Prop := l.length ≤ 8 ∧ M c p = nI l.length ∧ ∀ i, i < l.length → M w (p * 8 + i) = l.getD i 0
def nmOK (M M' : Mm) (w c p : Nat) : Prop := (∀ k, k ≠ w → k ≠ c → M' k = M k) ∧ (∀ q, q ≠ p → M' c q = M c q) ∧ (∀ q i, q ≠ p → i < 8 → M' w (q * 8 + i) = M w (q * 8 + i))
theorem nmOK.rf (M : Mm) (w c p : Nat) : nmOK M M w c p := ⟨fun _ _ _ => rfl, fun _ _ => rfl, fun _ _ _ _ => rfl⟩
theorem nmOK.tr {M M1 M2 : Mm} {w c p : Nat} (h1 : nmOK M M1 w c p) (h2 : nmOK M1 M2 w c p) : nmOK M M2 w c p :=
  ⟨fun k a b => (h2.1 k a b).trans (h1.1 k a b), fun q a => (h2.2.1 q a).trans (h1.2.1 q a), fun q i a b => (h2.2.2 q i a b).trans (h1.2.2 q i a b)⟩
def addW (l : List Int32) (v : Int32) : List Int32 := if v = 0 then l else if l.length < 8 then l ++ [v] else l
theorem addW_le {l : List Int32} (v : Int32) (h : l.length ≤ 8) : (addW l v).length ≤ 8 := by
  unfold addW
  split
  · exact h
  · split
    · simp; omega
    · exact h
theorem nm_set0 {M : Mm} {w c p : Nat} (hwc : w ≠ c) : nmOK M (mst M c p (nI 0)) w c p ∧ nmAt (mst M c p (nI 0)) w c p [] := by
  refine ⟨⟨fun k a b => mst_other M _ _ b, fun q hq => by rw [mst_same, upd]; simp [hq], fun q i hq hi => by rw [mst_other M _ _ hwc]⟩, by simp, by rw [mst_same, upd]; simp, by simp⟩
theorem nm_put {M : Mm} {w c p : Nat} {l : List Int32} {v : Int32} (hwc : w ≠ c) (h : nmAt M w c p l) (hl : l.length < 8) :
    nmOK M (mst (mst M w (p * 8 + l.length) v) c p (nI (l.length + 1))) w c p ∧ nmAt (mst (mst M w (p * 8 + l.length) v) c p (nI (l.length + 1))) w c p (l ++ [v]) := by
  have hcw : c ≠ w := Ne.symm hwc
  refine ⟨⟨fun k a b => by rw [mst_other _ _ _ b, mst_other _ _ _ a], fun q hq => by rw [mst_same, upd, if_neg hq, mst_other _ _ _ hcw], fun q i hq hi => ?_⟩, by simp; omega, by rw [mst_same, upd]; simp, fun i hi => ?_⟩
  · rw [mst_other _ _ _ hwc, mst_same, upd, if_neg (by omega)]
  · rw [mst_other _ _ _ hwc, mst_same, upd]
    simp at hi
    by_cases e : i = l.length
    · subst e; simp
    · rw [if_neg (by omega), h.2.2 i (by omega)]
      simp [List.getElem?_append_left (show i < l.length by omega)]
def XNm (M M' : Mm) (p : Nat) (l : List Int32) : Prop := nmOK M M' 7 8 p ∧ nmAt M' 7 8 p l

theorem s_X1_add {M : Mm} {a : Nat} {l : List Int32} (v : Int32) (ha : a < 24) (hl : nmAt M 7 8 a l) : Ct XSh mX1_add [.ref 6, .int (nI a), .int v] M (fun r M2 => r = none ∧ XNm M M2 a (addW l v)) := by
  have hle := hl.1
  have hz : ∀ j, mst M 7 j v 8 a = nI l.length := fun j => by rw [mst_other _ _ _ (by decide)]; exact hl.2.1
  show Ev _ _ 0 [.ref 6, .int (nI a), .int v] [] M _
  refine ev_iload_n 1 dX1_add_0 rfl rfl ?_
  refine ev_if_eq 4 42 dX1_add_1 (by decide) rfl (fun c1 => ?_) (fun c1 => ?_)
  · exact ev_vret dX1_add_42 rfl (⟨rfl, nmOK.rf _ _ _ _, by rw [addW, if_pos c1]; exact hl⟩)
  · refine ev_aload_n 5 dX1_add_4 rfl rfl ?_
    refine ev_getR 8 dX1_add_5 rfl flX1_15 rfl rfl ?_
    refine ev_iload_n 9 dX1_add_8 rfl rfl ?_
    refine ev_iaN 10 _ dX1_add_9 rfl (by omega) (by decide) rfl hl.2.1 ?_
    refine ev_bipush 12 (nI 8) dX1_add_10 (by decide) rfl ?_
    refine ev_icmp_geN 15 42 dX1_add_12 (by decide) rfl (by omega) (by omega) (fun c12 => ?_) (fun c12 => ?_)
    · exact ev_vret dX1_add_42 rfl (⟨rfl, nmOK.rf _ _ _ _, by rw [addW, if_neg c1, if_neg (by omega)]; exact hl⟩)
    · refine ev_aload_n 16 dX1_add_15 rfl rfl ?_
      refine ev_getR 19 dX1_add_16 rfl flX1_9 rfl rfl ?_
      refine ev_iload_n 20 dX1_add_19 rfl rfl ?_
      refine ev_bipush 22 (nI 8) dX1_add_20 (by decide) rfl ?_
      refine ev_imulN 23 dX1_add_22 rfl ?_
      refine ev_aload_n 24 dX1_add_23 rfl rfl ?_
      refine ev_getR 27 dX1_add_24 rfl flX1_15 rfl rfl ?_
      refine ev_iload_n 28 dX1_add_27 rfl rfl ?_
      refine ev_iaN 29 _ dX1_add_28 rfl (by omega) (by decide) rfl hl.2.1 ?_
      refine ev_iaddN 30 dX1_add_29 rfl ?_
      refine ev_iload_n 31 dX1_add_30 rfl rfl ?_
      refine ev_iaS 32 dX1_add_31 rfl (by omega) (by decide) rfl ?_
      refine ev_aload_n 33 dX1_add_32 rfl rfl ?_
      refine ev_getR 36 dX1_add_33 rfl flX1_15 rfl rfl ?_
      refine ev_iload_n 37 dX1_add_36 rfl rfl ?_
      refine ev_dup2 38 dX1_add_37 rfl rfl rfl ?_
      refine ev_iaN 39 _ dX1_add_38 rfl (by omega) (by decide) rfl (hz _) ?_
      refine ev_iconst 40 (nI 1) dX1_add_39 (by decide) rfl ?_
      refine ev_iaddN 41 dX1_add_40 rfl ?_
      refine ev_iaS 42 dX1_add_41 rfl (by omega) (by decide) rfl ?_
      exact ev_vret dX1_add_42 rfl (⟨rfl, by rw [addW, if_neg c1, if_pos (by omega)]; exact nm_put (by decide) hl (by omega)⟩)
theorem s_X1_lengthOf {M : Mm} {a : Nat} (ha : a < 24) : Ct XSh mX1_lengthOf [.ref 6, .int (nI a)] M (RetI (M 8 a) M) := by
  show Ev _ _ 0 [.ref 6, .int (nI a)] [] M _
  refine ev_aload_n 1 dX1_lengthOf_0 rfl rfl ?_
  refine ev_getR 4 dX1_lengthOf_1 rfl flX1_15 rfl rfl ?_
  refine ev_iload_n 5 dX1_lengthOf_4 rfl rfl ?_
  refine ev_iaN 6 _ dX1_lengthOf_5 rfl (by omega) (by decide) rfl rfl ?_
  exact ev_iret dX1_lengthOf_6 rfl (⟨rfl, rfl⟩)
def wdF (l : List Int32) (k : Int32) : Int32 := if inB k l.length then l.getD k.toNatClampNeg 0 else 0
theorem s_X1_wordOf {M : Mm} {a : Nat} {l : List Int32} (k : Int32) (ha : a < 24) (hl : nmAt M 7 8 a l) : Ct XSh mX1_wordOf [.ref 6, .int (nI a), .int k] M (RetI (wdF l k) M) := by
  have hle := hl.1
  have hin : ¬ k < 0 → ¬ nI l.length ≤ k → inB k l.length = true := fun c1 c11 => decide_eq_true (by rw [int_lt0] at c1; rw [Int32.le_iff_toInt_le, nI_toInt (by omega)] at c11; omega)
  have hout : nI l.length ≤ k → inB k l.length = false := fun c11 => decide_eq_false (by rw [Int32.le_iff_toInt_le, nI_toInt (by omega)] at c11; omega)
  show Ev _ _ 0 [.ref 6, .int (nI a), .int k] [] M _
  refine ev_iload_n 1 dX1_wordOf_0 rfl rfl ?_
  refine ev_if_lt 4 28 dX1_wordOf_1 (by decide) rfl (fun c1 => ?_) (fun c1 => ?_)
  · refine ev_iconst 29 (nI 0) dX1_wordOf_28 (by decide) rfl ?_
    exact ev_iret dX1_wordOf_29 rfl (⟨by rw [wdF, if_neg (by rw [inB_lt c1]; decide)]; rfl, rfl⟩)
  · refine ev_iload_n 5 dX1_wordOf_4 rfl rfl ?_
    refine ev_aload_n 6 dX1_wordOf_5 rfl rfl ?_
    refine ev_getR 9 dX1_wordOf_6 rfl flX1_15 rfl rfl ?_
    refine ev_iload_n 10 dX1_wordOf_9 rfl rfl ?_
    refine ev_iaN 11 _ dX1_wordOf_10 rfl (by omega) (by decide) rfl hl.2.1 ?_
    refine ev_icmp_ge 14 28 dX1_wordOf_11 (by decide) rfl (fun c11 => ?_) (fun c11 => ?_)
    · refine ev_iconst 29 (nI 0) dX1_wordOf_28 (by decide) rfl ?_
      exact ev_iret dX1_wordOf_29 rfl (⟨by rw [wdF, if_neg (by rw [hout c11]; decide)]; rfl, rfl⟩)
    · obtain ⟨j, hj, rfl⟩ := inB_of (x := k) (n := l.length) (hin c1 c11) (by omega)
      refine ev_aload_n 15 dX1_wordOf_14 rfl rfl ?_
      refine ev_getR 18 dX1_wordOf_15 rfl flX1_9 rfl rfl ?_
      refine ev_iload_n 19 dX1_wordOf_18 rfl rfl ?_
      refine ev_bipush 21 (nI 8) dX1_wordOf_19 (by decide) rfl ?_
      refine ev_imulN 22 dX1_wordOf_21 rfl ?_
      refine ev_iload_n 23 dX1_wordOf_22 rfl rfl ?_
      refine ev_iaddN 24 dX1_wordOf_23 rfl ?_
      refine ev_iaN 25 _ dX1_wordOf_24 rfl (by omega) (by decide) rfl (hl.2.2 j hj) ?_
      refine ev_goto 29 dX1_wordOf_25 (by decide) ?_
      exact ev_iret dX1_wordOf_29 rfl (⟨by rw [wdF, inB_nI (by omega), if_pos (decide_eq_true hj), nI_clamp (by omega)], rfl⟩)
def alk (l1 l2 : List Int32) (k : Nat) : Bool := match k with
  | 0 => true
  | k + 1 => alk l1 l2 k && (l1.getD k 0 == l2.getD k 0)
theorem alk_no {l1 l2 : List Int32} {i : Nat} : ∀ {n : Nat}, i < n → ¬ l1.getD i 0 = l2.getD i 0 → alk l1 l2 n = false
  | 0, h, _ => by omega
  | n + 1, h, c => by
    by_cases e : i = n
    · subst e
      have : (l1.getD i 0 == l2.getD i 0) = false := by simpa using c
      rw [alk, this, Bool.and_false]
    · rw [alk, alk_no (by omega) c, Bool.false_and]
theorem s_X1_areAlike_k {M : Mm} {a b : Nat} {l1 l2 : List Int32} (ha : a < 24) (hb : b < 24) (h1 : nmAt M 7 8 a l1) (h2 : nmAt M 7 8 b l2) (he : l1.length = l2.length) : ∀ d i, i + d = l1.length → alk l1 l2 i = true → Ev XSh mX1_areAlike 19 [.ref 6, .int (nI a), .int (nI b), .int (nI i)] [] M (RetI (bI (alk l1 l2 l1.length)) M)
  | 0, i, h, hk => by
    have hle := h1.1
    have hi : l1.length = i := by omega
    rw [← hi] at hk ⊢
    refine ev_iload_n 20 dX1_areAlike_19 rfl rfl ?_
    refine ev_aload_n 21 dX1_areAlike_20 rfl rfl ?_
    refine ev_getR 24 dX1_areAlike_21 rfl flX1_15 rfl rfl ?_
    refine ev_iload_n 25 dX1_areAlike_24 rfl rfl ?_
    refine ev_iaN 26 _ dX1_areAlike_25 rfl (by omega) (by decide) rfl h1.2.1 ?_
    refine ev_icmp_geN 29 52 dX1_areAlike_26 (by decide) rfl (by omega) (by omega) (fun c26 => ?_) (fun c26 => ?_)
    · refine ev_iconst 53 (nI 1) dX1_areAlike_52 (by decide) rfl ?_
      exact ev_zret dX1_areAlike_53 rfl (Or.inr rfl) (⟨by rw [hk]; rfl, rfl⟩)
    · omega
  | d + 1, i, h, hk => by
    have hle := h1.1
    refine ev_iload_n 20 dX1_areAlike_19 rfl rfl ?_
    refine ev_aload_n 21 dX1_areAlike_20 rfl rfl ?_
    refine ev_getR 24 dX1_areAlike_21 rfl flX1_15 rfl rfl ?_
    refine ev_iload_n 25 dX1_areAlike_24 rfl rfl ?_
    refine ev_iaN 26 _ dX1_areAlike_25 rfl (by omega) (by decide) rfl h1.2.1 ?_
    refine ev_icmp_geN 29 52 dX1_areAlike_26 (by decide) rfl (by omega) (by omega) (fun c26 => ?_) (fun c26 => ?_)
    · omega
    · refine ev_aload_n 30 dX1_areAlike_29 rfl rfl ?_
      refine ev_iload_n 31 dX1_areAlike_30 rfl rfl ?_
      refine ev_iload_n 32 dX1_areAlike_31 rfl rfl ?_
      refine ev_cV2I (l1.getD i 0) M 35 dX1_areAlike_32 mlX1_59 moX1_wordOf rfl imX1_wordOf ⟨_, _, rfl, rfl, rfl⟩ (Nat.le_of_ble_eq_true rfl) (Nat.le_of_ble_eq_true rfl) rfl (by have := s_X1_wordOf (k := nI i) ha h1; rwa [wdF, inB_nI (by omega), if_pos (decide_eq_true (by omega)), nI_clamp (by omega)] at this) ?_
      refine ev_aload_n 36 dX1_areAlike_35 rfl rfl ?_
      refine ev_iload_n 37 dX1_areAlike_36 rfl rfl ?_
      refine ev_iload_n 38 dX1_areAlike_37 rfl rfl ?_
      refine ev_cV2I (l2.getD i 0) M 41 dX1_areAlike_38 mlX1_59 moX1_wordOf rfl imX1_wordOf ⟨_, _, rfl, rfl, rfl⟩ (Nat.le_of_ble_eq_true rfl) (Nat.le_of_ble_eq_true rfl) rfl (by have := s_X1_wordOf (k := nI i) hb h2; rwa [wdF, inB_nI (by omega), if_pos (decide_eq_true (by omega)), nI_clamp (by omega)] at this) ?_
      refine ev_icmp_eq 44 46 dX1_areAlike_41 (by decide) rfl (fun c41 => ?_) (fun c41 => ?_)
      · refine ev_iincN 49 _ dX1_areAlike_46 rfl (by decide) rfl rfl rfl ?_
        refine ev_goto 19 dX1_areAlike_49 (by decide) ?_
        exact s_X1_areAlike_k ha hb h1 h2 he d (i + 1) (by omega) (by rw [alk, hk, c41]; simp)
      · refine ev_iconst 45 (nI 0) dX1_areAlike_44 (by decide) rfl ?_
        exact ev_zret dX1_areAlike_45 rfl (Or.inl rfl) (⟨by rw [alk_no (by omega) c41]; rfl, rfl⟩)
theorem s_X1_areAlike {M : Mm} {a b : Nat} {l1 l2 : List Int32} (ha : a < 24) (hb : b < 24) (h1 : nmAt M 7 8 a l1) (h2 : nmAt M 7 8 b l2) : Ct XSh mX1_areAlike [.ref 6, .int (nI a), .int (nI b)] M (RetI (bI (decide (l1.length = l2.length) && alk l1 l2 l1.length)) M) := by
  have hle := h1.1
  have hle2 := h2.1
  show Ev _ _ 0 [.ref 6, .int (nI a), .int (nI b), .null] [] M _
  refine ev_aload_n 1 dX1_areAlike_0 rfl rfl ?_
  refine ev_getR 4 dX1_areAlike_1 rfl flX1_15 rfl rfl ?_
  refine ev_iload_n 5 dX1_areAlike_4 rfl rfl ?_
  refine ev_iaN 6 _ dX1_areAlike_5 rfl (by omega) (by decide) rfl h1.2.1 ?_
  refine ev_aload_n 7 dX1_areAlike_6 rfl rfl ?_
  refine ev_getR 10 dX1_areAlike_7 rfl flX1_15 rfl rfl ?_
  refine ev_iload_n 11 dX1_areAlike_10 rfl rfl ?_
  refine ev_iaN 12 _ dX1_areAlike_11 rfl (by omega) (by decide) rfl h2.2.1 ?_
  refine ev_icmp_eqN 15 17 dX1_areAlike_12 (by decide) rfl (by omega) (by omega) (fun c12 => ?_) (fun c12 => ?_)
  · refine ev_iconst 18 (nI 0) dX1_areAlike_17 (by decide) rfl ?_
    refine ev_istore_n 19 _ dX1_areAlike_18 (by decide) rfl rfl rfl ?_
    rw [decide_eq_true c12, Bool.true_and]
    exact s_X1_areAlike_k ha hb h1 h2 c12 l1.length 0 (by omega) rfl
  · refine ev_iconst 16 (nI 0) dX1_areAlike_15 (by decide) rfl ?_
    exact ev_zret dX1_areAlike_16 rfl (Or.inl rfl) (⟨by rw [decide_eq_false c12]; rfl, rfl⟩)
def ownW (M : Mm) (n : Nat) (l : List Int32) (s : Int32) : List Int32 := if inB s n then addW l (M 1 (s.toNatClampNeg * 18 + 0)) else l
theorem s_X1_addOwnOf {M : Mm} {a n : Nat} {l : List Int32} (s : Int32) (hn : n ≤ 24) (hsz : M 0 5 = nI n) (ha : a < 24) (hl : nmAt M 7 8 a l) : Ct XSh mX1_addOwnOf [.ref 6, .int (nI a), .int s] M (fun r M2 => r = none ∧ XNm M M2 a (ownW M n l s)) := by
  show Ev _ _ 0 [.ref 6, .int (nI a), .int s] [] M _
  refine ev_aload_n 1 dX1_addOwnOf_0 rfl rfl ?_
  refine ev_getR 4 dX1_addOwnOf_1 rfl flX1_18 rfl rfl ?_
  refine ev_iload_n 5 dX1_addOwnOf_4 rfl rfl ?_
  refine ev_cV1I _ M 8 dX1_addOwnOf_5 mlX1_55 moX2_has rfl imX2_has ⟨_, _, rfl, rfl, rfl⟩ (Nat.le_of_ble_eq_true rfl) (Nat.le_of_ble_eq_true rfl) rfl (s_X2_has hn hsz s) ?_
  refine ev_if_eqB 11 25 dX1_addOwnOf_8 (by decide) rfl (fun c8 => ?_) (fun c8 => ?_)
  · exact ev_vret dX1_addOwnOf_25 rfl (⟨rfl, nmOK.rf _ _ _ _, by rw [ownW, if_neg (by rw [c8]; decide)]; exact hl⟩)
  · obtain ⟨j, hj, rfl⟩ := inB_of c8 (by omega)
    refine ev_aload_n 12 dX1_addOwnOf_11 rfl rfl ?_
    refine ev_iload_n 13 dX1_addOwnOf_12 rfl rfl ?_
    refine ev_aload_n 14 dX1_addOwnOf_13 rfl rfl ?_
    refine ev_getR 17 dX1_addOwnOf_14 rfl flX1_18 rfl rfl ?_
    refine ev_iload_n 18 dX1_addOwnOf_17 rfl rfl ?_
    refine ev_iconst 19 (nI 0) dX1_addOwnOf_18 (by decide) rfl ?_
    refine ev_cV2I _ M 22 dX1_addOwnOf_19 mlX1_22 moX2_get rfl imX2_get ⟨_, _, rfl, rfl, rfl⟩ (Nat.le_of_ble_eq_true rfl) (Nat.le_of_ble_eq_true rfl) rfl (s_X2_get (a := j) (b := 0) (by omega) (by omega)) ?_
    refine ev_cV2 25 dX1_addOwnOf_22 mlX1_32 moX1_add rfl imX1_add ⟨_, _, rfl, rfl, rfl⟩ (Nat.le_of_ble_eq_true rfl) (Nat.le_of_ble_eq_true rfl) rfl (s_X1_add _ ha hl) ?_
    rintro r M2 ⟨rfl, h2⟩
    exact ev_vret dX1_addOwnOf_25 rfl (⟨rfl, by rw [ownW, if_pos c8, nI_clamp (by omega)]; exact h2⟩)
def txtF (M : Mm) (n : Nat) (tx : Int32) (l : List Int32) : Nat → List Int32
  | 0 => l
  | k + 1 => if hB tx (M 5 k) then ownW M n (txtF M n tx l k) (M 5 k) else txtF M n tx l k
theorem s_X1_addTextsIn_k {M : Mm} {a n : Nat} {l : List Int32} (hn : n ≤ 24) (hsz : M 0 5 = nI n) (ha : a < 24) (tx sh : Int32) : ∀ d i (M1 : Mm), i + d = n → XNm M M1 a (txtF M n tx l i) → Ev XSh mX1_addTextsIn 25 [.ref 6, .int (nI a), .int sh, .int tx, .int (nI i)] [] M1 (fun r M2 => r = none ∧ XNm M M2 a (txtF M n tx l n))
  | 0, i, M1, h, hx => by
    have hs1 : M1 0 5 = nI n := by rw [hx.1.1 0 (by decide) (by decide)]; exact hsz
    have hi : n = i := by omega
    subst hi
    refine ev_iload 27 dX1_addTextsIn_25 rfl rfl ?_
    refine ev_aload_n 28 dX1_addTextsIn_27 rfl rfl ?_
    refine ev_getR 31 dX1_addTextsIn_28 rfl flX1_18 rfl rfl ?_
    refine ev_getIv 34 (nI n) dX1_addTextsIn_31 rfl flX1_44 rfl rfl hs1 ?_
    refine ev_icmp_geN 37 75 dX1_addTextsIn_34 (by decide) rfl (by omega) (by omega) (fun c34 => ?_) (fun c34 => ?_)
    · exact ev_vret dX1_addTextsIn_75 rfl (⟨rfl, hx⟩)
    · omega
  | d + 1, i, M1, h, hx => by
    have hs1 : M1 0 5 = nI n := by rw [hx.1.1 0 (by decide) (by decide)]; exact hsz
    refine ev_iload 27 dX1_addTextsIn_25 rfl rfl ?_
    refine ev_aload_n 28 dX1_addTextsIn_27 rfl rfl ?_
    refine ev_getR 31 dX1_addTextsIn_28 rfl flX1_18 rfl rfl ?_
    refine ev_getIv 34 (nI n) dX1_addTextsIn_31 rfl flX1_44 rfl rfl hs1 ?_
    refine ev_icmp_geN 37 75 dX1_addTextsIn_34 (by decide) rfl (by omega) (by omega) (fun c34 => ?_) (fun c34 => ?_)
    · omega
    · refine ev_iload_n 38 dX1_addTextsIn_37 rfl rfl ?_
      refine ev_aload_n 39 dX1_addTextsIn_38 rfl rfl ?_
      refine ev_getR 42 dX1_addTextsIn_39 rfl flX1_18 rfl rfl ?_
      refine ev_getR 45 dX1_addTextsIn_42 rfl flX1_48 rfl rfl ?_
      refine ev_iload 47 dX1_addTextsIn_45 rfl rfl ?_
      refine ev_iaN 48 (M 5 i) dX1_addTextsIn_47 rfl (by omega) (by decide) rfl (by rw [hx.1.1 5 (by decide) (by decide)]) ?_
      refine ev_cS2I _ M1 51 dX1_addTextsIn_48 mlX1_51 moX7_holds rfl smX7_holds (Nat.le_of_ble_eq_true rfl) (Nat.le_of_ble_eq_true rfl) rfl (s_holds _ _) ?_
      refine ev_if_eqB 54 69 dX1_addTextsIn_51 (by decide) rfl (fun c51 => ?_) (fun c51 => ?_)
      · refine ev_iincN 72 _ dX1_addTextsIn_69 rfl (by decide) rfl rfl rfl ?_
        refine ev_goto 25 dX1_addTextsIn_72 (by decide) ?_
        exact s_X1_addTextsIn_k hn hsz ha tx sh d (i + 1) M1 (by omega) (by rw [txtF, if_neg (by rw [c51]; decide)]; exact hx)
      · refine ev_aload_n 55 dX1_addTextsIn_54 rfl rfl ?_
        refine ev_iload_n 56 dX1_addTextsIn_55 rfl rfl ?_
        refine ev_aload_n 57 dX1_addTextsIn_56 rfl rfl ?_
        refine ev_getR 60 dX1_addTextsIn_57 rfl flX1_18 rfl rfl ?_
        refine ev_getR 63 dX1_addTextsIn_60 rfl flX1_48 rfl rfl ?_
        refine ev_iload 65 dX1_addTextsIn_63 rfl rfl ?_
        refine ev_iaN 66 (M 5 i) dX1_addTextsIn_65 rfl (by omega) (by decide) rfl (by rw [hx.1.1 5 (by decide) (by decide)]) ?_
        refine ev_cV2 69 dX1_addTextsIn_66 mlX1_28 moX1_addOwnOf rfl imX1_addOwnOf ⟨_, _, rfl, rfl, rfl⟩ (Nat.le_of_ble_eq_true rfl) (Nat.le_of_ble_eq_true rfl) rfl (s_X1_addOwnOf (M 5 i) hn hs1 ha hx.2) ?_
        rintro r M2 ⟨rfl, h2⟩
        refine ev_iincN 72 _ dX1_addTextsIn_69 rfl (by decide) rfl rfl rfl ?_
        refine ev_goto 25 dX1_addTextsIn_72 (by decide) ?_
        exact s_X1_addTextsIn_k hn hsz ha tx sh d (i + 1) M2 (by omega) ⟨hx.1.tr h2.1, by rw [txtF, if_pos c51]; simpa only [ownW, hx.1.1 1 (by decide) (by decide)] using h2.2⟩
theorem s_X1_addTextsIn {M : Mm} {a n : Nat} {l : List Int32} (hn : n ≤ 24) (hsz : M 0 5 = nI n) (ha : a < 24) (sh : Int32) (hl : nmAt M 7 8 a l) : Ct XSh mX1_addTextsIn [.ref 6, .int (nI a), .int sh] M (fun r M2 => r = none ∧ XNm M M2 a (txtF M n ((M 3 a &&& M 4 1) &&& sh) l n)) := by
  show Ev _ _ 0 [.ref 6, .int (nI a), .int sh, .null, .null] [] M _
  refine ev_aload_n 1 dX1_addTextsIn_0 rfl rfl ?_
  refine ev_getR 4 dX1_addTextsIn_1 rfl flX1_18 rfl rfl ?_
  refine ev_getR 7 dX1_addTextsIn_4 rfl flX1_38 rfl rfl ?_
  refine ev_iload_n 8 dX1_addTextsIn_7 rfl rfl ?_
  refine ev_iaN 9 _ dX1_addTextsIn_8 rfl (by omega) (by decide) rfl rfl ?_
  refine ev_aload_n 10 dX1_addTextsIn_9 rfl rfl ?_
  refine ev_getR 13 dX1_addTextsIn_10 rfl flX1_18 rfl rfl ?_
  refine ev_getR 16 dX1_addTextsIn_13 rfl flX1_41 rfl rfl ?_
  refine ev_iconst 17 (nI 1) dX1_addTextsIn_16 (by decide) rfl ?_
  refine ev_iaN 18 _ dX1_addTextsIn_17 rfl (by decide) (by decide) rfl rfl ?_
  refine ev_iand 19 dX1_addTextsIn_18 rfl ?_
  refine ev_iload_n 20 dX1_addTextsIn_19 rfl rfl ?_
  refine ev_iand 21 dX1_addTextsIn_20 rfl ?_
  refine ev_istore_n 22 _ dX1_addTextsIn_21 (by decide) rfl rfl rfl ?_
  refine ev_iconst 23 (nI 0) dX1_addTextsIn_22 (by decide) rfl ?_
  refine ev_istore 25 _ dX1_addTextsIn_23 (by decide) rfl rfl rfl ?_
  exact s_X1_addTextsIn_k hn hsz ha _ sh n 0 M (by omega) ⟨nmOK.rf _ _ _ _, hl⟩
def nm1 (M : Mm) (n a : Nat) : List Int32 := ownW M n (ownW M n [] (M 1 (a * 18 + 3))) (M 1 (a * 18 + 4))
def nmE (l l2 : List Int32) : List Int32 := if l.length = 0 then l2 else l
def nm3 (M : Mm) (n a : Nat) : List Int32 := nmE (nmE (nm1 M n a) (addW (nm1 M n a) (M 1 (a * 18 + 1)))) (addW (nmE (nm1 M n a) (addW (nm1 M n a) (M 1 (a * 18 + 1)))) (M 1 (a * 18 + 0)))
def nm4 (M : Mm) (n a : Nat) (sh : Int32) : List Int32 := if (nm3 M n a).length = 0 ∧ M 1 (a * 18 + 10) = nI 2 then txtF M n ((M 3 a &&& M 4 1) &&& sh) (nm3 M n a) n else nm3 M n a
def nmF (M : Mm) (n a : Nat) (sh : Int32) : List Int32 := nmE (nm4 M n a sh) (addW (nm4 M n a sh) (M 1 (a * 18 + 2)))
theorem XNm.len {M M' : Mm} {p : Nat} {l : List Int32} (h : XNm M M' p l) : l.length ≤ 8 := h.2.1
theorem XNm.add {M M1 M2 : Mm} {p : Nat} {l l2 : List Int32} (h : XNm M M1 p l) (h2 : XNm M1 M2 p l2) : XNm M M2 p l2 := ⟨h.1.tr h2.1, h2.2⟩
theorem txtF_congr {M M1 : Mm} (h1 : M1 1 = M 1) (h5 : M1 5 = M 5) (n : Nat) (tx : Int32) (l : List Int32) : ∀ k, txtF M1 n tx l k = txtF M n tx l k
  | 0 => rfl
  | k + 1 => by rw [txtF, txtF, txtF_congr h1 h5 n tx l k, h5]; simp only [ownW, h1]
theorem s_X1_compose_110 {M M1 : Mm} {a : Nat} {l : List Int32} (sh : Int32) (ha : a < 24) (hx : XNm M M1 a l) : Ev XSh mX1_compose 110 [.ref 6, .int (nI a), .int sh] [] M1 (fun r M2 => r = none ∧ XNm M M2 a (nmE l (addW l (M 1 (a * 18 + 2))))) := by
  have hle := hx.len
  refine ev_aload_n 111 dX1_compose_110 rfl rfl ?_
  refine ev_getR 114 dX1_compose_111 rfl flX1_15 rfl rfl ?_
  refine ev_iload_n 115 dX1_compose_114 rfl rfl ?_
  refine ev_iaN 116 _ dX1_compose_115 rfl (by omega) (by decide) rfl hx.2.2.1 ?_
  refine ev_if_neN 119 133 dX1_compose_116 (by decide) rfl (by omega) (fun c116 => ?_) (fun c116 => ?_)
  · exact ev_vret dX1_compose_133 rfl (⟨rfl, by first | (rw [nmE, if_neg c116]; exact hx) | (rw [nmE, if_pos c116]; exact hx.add h2)⟩)
  · refine ev_aload_n 120 dX1_compose_119 rfl rfl ?_
    refine ev_iload_n 121 dX1_compose_120 rfl rfl ?_
    refine ev_aload_n 122 dX1_compose_121 rfl rfl ?_
    refine ev_getR 125 dX1_compose_122 rfl flX1_18 rfl rfl ?_
    refine ev_iload_n 126 dX1_compose_125 rfl rfl ?_
    refine ev_iconst 127 (nI 2) dX1_compose_126 (by decide) rfl ?_
    refine ev_cV2I (M 1 (a * 18 + 2)) M1 130 dX1_compose_127 mlX1_22 moX2_get rfl imX2_get ⟨_, _, rfl, rfl, rfl⟩ (Nat.le_of_ble_eq_true rfl) (Nat.le_of_ble_eq_true rfl) rfl (by rw [← hx.1.1 1 (by decide) (by decide)]; exact s_X2_get (a := a) (b := 2) ha (by omega)) ?_
    refine ev_cV2 133 dX1_compose_130 mlX1_32 moX1_add rfl imX1_add ⟨_, _, rfl, rfl, rfl⟩ (Nat.le_of_ble_eq_true rfl) (Nat.le_of_ble_eq_true rfl) rfl (s_X1_add _ ha hx.2) ?_
    rintro r M2 ⟨rfl, h2⟩
    exact ev_vret dX1_compose_133 rfl (⟨rfl, by first | (rw [nmE, if_neg c116]; exact hx) | (rw [nmE, if_pos c116]; exact hx.add h2)⟩)
theorem s_X1_compose_81 {M M1 : Mm} {a n : Nat} {l : List Int32} (sh : Int32) (hn : n ≤ 24) (hsz : M 0 5 = nI n) (ha : a < 24) (hx : XNm M M1 a l) : Ev XSh mX1_compose 81 [.ref 6, .int (nI a), .int sh] [] M1 (fun r M2 => r = none ∧ XNm M M2 a (nmE (if l.length = 0 ∧ M 1 (a * 18 + 10) = nI 2 then txtF M n ((M 3 a &&& M 4 1) &&& sh) l n else l) (addW (if l.length = 0 ∧ M 1 (a * 18 + 10) = nI 2 then txtF M n ((M 3 a &&& M 4 1) &&& sh) l n else l) (M 1 (a * 18 + 2))))) := by
  have hle := hx.len
  have hs1 : M1 0 5 = nI n := by rw [hx.1.1 0 (by decide) (by decide)]; exact hsz
  refine ev_aload_n 82 dX1_compose_81 rfl rfl ?_
  refine ev_getR 85 dX1_compose_82 rfl flX1_15 rfl rfl ?_
  refine ev_iload_n 86 dX1_compose_85 rfl rfl ?_
  refine ev_iaN 87 _ dX1_compose_86 rfl (by omega) (by decide) rfl hx.2.2.1 ?_
  refine ev_if_neN 90 110 dX1_compose_87 (by decide) rfl (by omega) (fun c87 => ?_) (fun c87 => ?_)
  · rw [if_neg (fun z => c87 z.1)]
    exact s_X1_compose_110 sh ha hx
  · refine ev_aload_n 91 dX1_compose_90 rfl rfl ?_
    refine ev_getR 94 dX1_compose_91 rfl flX1_18 rfl rfl ?_
    refine ev_iload_n 95 dX1_compose_94 rfl rfl ?_
    refine ev_bipush 97 (nI 10) dX1_compose_95 (by decide) rfl ?_
    refine ev_cV2I (M 1 (a * 18 + 10)) M1 100 dX1_compose_97 mlX1_22 moX2_get rfl imX2_get ⟨_, _, rfl, rfl, rfl⟩ (Nat.le_of_ble_eq_true rfl) (Nat.le_of_ble_eq_true rfl) rfl (by rw [← hx.1.1 1 (by decide) (by decide)]; exact s_X2_get (a := a) (b := 10) ha (by omega)) ?_
    refine ev_iconst 101 (nI 2) dX1_compose_100 (by decide) rfl ?_
    refine ev_icmp_ne 104 110 dX1_compose_101 (by decide) rfl (fun c101 => ?_) (fun c101 => ?_)
    · rw [if_neg (fun z => c101 z.2)]
      exact s_X1_compose_110 sh ha hx
    · refine ev_aload_n 105 dX1_compose_104 rfl rfl ?_
      refine ev_iload_n 106 dX1_compose_105 rfl rfl ?_
      refine ev_iload_n 107 dX1_compose_106 rfl rfl ?_
      refine ev_cV2 110 dX1_compose_107 mlX1_35 moX1_addTextsIn rfl imX1_addTextsIn ⟨_, _, rfl, rfl, rfl⟩ (Nat.le_of_ble_eq_true rfl) (Nat.le_of_ble_eq_true rfl) rfl (s_X1_addTextsIn hn hs1 ha sh hx.2) ?_
      rintro r M2 ⟨rfl, h2⟩
      rw [if_pos ⟨c87, c101⟩]
      refine s_X1_compose_110 sh ha (hx.add ?_)
      have e := txtF_congr (hx.1.1 1 (by decide) (by decide)) (hx.1.1 5 (by decide) (by decide)) n ((M 3 a &&& M 4 1) &&& sh) l n
      rw [hx.1.1 3 (by decide) (by decide), hx.1.1 4 (by decide) (by decide), e] at h2
      exact h2
theorem s_X1_compose_58 {M M1 : Mm} {a n : Nat} {l : List Int32} (sh : Int32) {Q : Pst} (hn : n ≤ 24) (hsz : M 0 5 = nI n) (ha : a < 24) (hx : XNm M M1 a l) (k : ∀ M2, XNm M M2 a (nmE l (addW l (M 1 (a * 18 + 0)))) → Ev XSh mX1_compose 81 [.ref 6, .int (nI a), .int sh] [] M2 Q) : Ev XSh mX1_compose 58 [.ref 6, .int (nI a), .int sh] [] M1 Q := by
  have hle := hx.len
  refine ev_aload_n 59 dX1_compose_58 rfl rfl ?_
  refine ev_getR 62 dX1_compose_59 rfl flX1_15 rfl rfl ?_
  refine ev_iload_n 63 dX1_compose_62 rfl rfl ?_
  refine ev_iaN 64 _ dX1_compose_63 rfl (by omega) (by decide) rfl hx.2.2.1 ?_
  refine ev_if_neN 67 81 dX1_compose_64 (by decide) rfl (by omega) (fun c64 => ?_) (fun c64 => ?_)
  · exact k _ (by rw [nmE, if_neg c64]; exact hx)
  · refine ev_aload_n 68 dX1_compose_67 rfl rfl ?_
    refine ev_iload_n 69 dX1_compose_68 rfl rfl ?_
    refine ev_aload_n 70 dX1_compose_69 rfl rfl ?_
    refine ev_getR 73 dX1_compose_70 rfl flX1_18 rfl rfl ?_
    refine ev_iload_n 74 dX1_compose_73 rfl rfl ?_
    refine ev_iconst 75 (nI 0) dX1_compose_74 (by decide) rfl ?_
    refine ev_cV2I (M 1 (a * 18 + 0)) M1 78 dX1_compose_75 mlX1_22 moX2_get rfl imX2_get ⟨_, _, rfl, rfl, rfl⟩ (Nat.le_of_ble_eq_true rfl) (Nat.le_of_ble_eq_true rfl) rfl (by rw [← hx.1.1 1 (by decide) (by decide)]; exact s_X2_get (a := a) (b := 0) ha (by omega)) ?_
    refine ev_cV2 81 dX1_compose_78 mlX1_32 moX1_add rfl imX1_add ⟨_, _, rfl, rfl, rfl⟩ (Nat.le_of_ble_eq_true rfl) (Nat.le_of_ble_eq_true rfl) rfl (s_X1_add _ ha hx.2) ?_
    rintro r M2 ⟨rfl, h2⟩
    exact k _ (by rw [nmE, if_pos c64]; exact hx.add h2)
theorem s_X1_compose_35 {M M1 : Mm} {a n : Nat} {l : List Int32} (sh : Int32) {Q : Pst} (hn : n ≤ 24) (hsz : M 0 5 = nI n) (ha : a < 24) (hx : XNm M M1 a l) (k : ∀ M2, XNm M M2 a (nmE l (addW l (M 1 (a * 18 + 1)))) → Ev XSh mX1_compose 58 [.ref 6, .int (nI a), .int sh] [] M2 Q) : Ev XSh mX1_compose 35 [.ref 6, .int (nI a), .int sh] [] M1 Q := by
  have hle := hx.len
  refine ev_aload_n 36 dX1_compose_35 rfl rfl ?_
  refine ev_getR 39 dX1_compose_36 rfl flX1_15 rfl rfl ?_
  refine ev_iload_n 40 dX1_compose_39 rfl rfl ?_
  refine ev_iaN 41 _ dX1_compose_40 rfl (by omega) (by decide) rfl hx.2.2.1 ?_
  refine ev_if_neN 44 58 dX1_compose_41 (by decide) rfl (by omega) (fun c41 => ?_) (fun c41 => ?_)
  · exact k _ (by rw [nmE, if_neg c41]; exact hx)
  · refine ev_aload_n 45 dX1_compose_44 rfl rfl ?_
    refine ev_iload_n 46 dX1_compose_45 rfl rfl ?_
    refine ev_aload_n 47 dX1_compose_46 rfl rfl ?_
    refine ev_getR 50 dX1_compose_47 rfl flX1_18 rfl rfl ?_
    refine ev_iload_n 51 dX1_compose_50 rfl rfl ?_
    refine ev_iconst 52 (nI 1) dX1_compose_51 (by decide) rfl ?_
    refine ev_cV2I (M 1 (a * 18 + 1)) M1 55 dX1_compose_52 mlX1_22 moX2_get rfl imX2_get ⟨_, _, rfl, rfl, rfl⟩ (Nat.le_of_ble_eq_true rfl) (Nat.le_of_ble_eq_true rfl) rfl (by rw [← hx.1.1 1 (by decide) (by decide)]; exact s_X2_get (a := a) (b := 1) ha (by omega)) ?_
    refine ev_cV2 58 dX1_compose_55 mlX1_32 moX1_add rfl imX1_add ⟨_, _, rfl, rfl, rfl⟩ (Nat.le_of_ble_eq_true rfl) (Nat.le_of_ble_eq_true rfl) rfl (s_X1_add _ ha hx.2) ?_
    rintro r M2 ⟨rfl, h2⟩
    exact k _ (by rw [nmE, if_pos c41]; exact hx.add h2)
theorem s_X1_compose {M : Mm} {a n : Nat} (sh : Int32) (hn : n ≤ 24) (hsz : M 0 5 = nI n) (ha : a < 24) : Ct XSh mX1_compose [.ref 6, .int (nI a), .int sh] M (fun r M2 => r = none ∧ XNm M M2 a (nmF M n a sh)) := by
  show Ev _ _ 0 [.ref 6, .int (nI a), .int sh] [] M _
  refine ev_aload_n 1 dX1_compose_0 rfl rfl ?_
  refine ev_getR 4 dX1_compose_1 rfl flX1_15 rfl rfl ?_
  refine ev_iload_n 5 dX1_compose_4 rfl rfl ?_
  refine ev_iconst 6 (nI 0) dX1_compose_5 (by decide) rfl ?_
  refine ev_iaS 7 dX1_compose_6 rfl (by omega) (by decide) rfl ?_
  obtain ⟨M1, hM1⟩ : ∃ y, y = mst M 8 a (nI 0) := ⟨_, rfl⟩
  refine ev_eqM hM1.symm ?_
  have hx : XNm M M1 a [] := by rw [hM1]; exact nm_set0 (by decide)
  have hs1 : M1 0 5 = nI n := by rw [hx.1.1 0 (by decide) (by decide)]; exact hsz
  refine ev_aload_n 8 dX1_compose_7 rfl rfl ?_
  refine ev_iload_n 9 dX1_compose_8 rfl rfl ?_
  refine ev_aload_n 10 dX1_compose_9 rfl rfl ?_
  refine ev_getR 13 dX1_compose_10 rfl flX1_18 rfl rfl ?_
  refine ev_iload_n 14 dX1_compose_13 rfl rfl ?_
  refine ev_iconst 15 (nI 3) dX1_compose_14 (by decide) rfl ?_
  refine ev_cV2I (M 1 (a * 18 + 3)) M1 18 dX1_compose_15 mlX1_22 moX2_get rfl imX2_get ⟨_, _, rfl, rfl, rfl⟩ (Nat.le_of_ble_eq_true rfl) (Nat.le_of_ble_eq_true rfl) rfl (by rw [← hx.1.1 1 (by decide) (by decide)]; exact s_X2_get (a := a) (b := 3) ha (by omega)) ?_
  refine ev_cV2 21 dX1_compose_18 mlX1_28 moX1_addOwnOf rfl imX1_addOwnOf ⟨_, _, rfl, rfl, rfl⟩ (Nat.le_of_ble_eq_true rfl) (Nat.le_of_ble_eq_true rfl) rfl (s_X1_addOwnOf _ hn hs1 ha hx.2) ?_
  rintro r M3 ⟨rfl, h3⟩
  replace hx : XNm M M3 a (ownW M n [] (M 1 (a * 18 + 3))) := by
    have := hx.add h3
    simpa only [ownW, hx.1.1 1 (by decide) (by decide)] using this
  have hs3 : M3 0 5 = nI n := by rw [hx.1.1 0 (by decide) (by decide)]; exact hsz
  refine ev_aload_n 22 dX1_compose_21 rfl rfl ?_
  refine ev_iload_n 23 dX1_compose_22 rfl rfl ?_
  refine ev_aload_n 24 dX1_compose_23 rfl rfl ?_
  refine ev_getR 27 dX1_compose_24 rfl flX1_18 rfl rfl ?_
  refine ev_iload_n 28 dX1_compose_27 rfl rfl ?_
  refine ev_iconst 29 (nI 4) dX1_compose_28 (by decide) rfl ?_
  refine ev_cV2I (M 1 (a * 18 + 4)) M3 32 dX1_compose_29 mlX1_22 moX2_get rfl imX2_get ⟨_, _, rfl, rfl, rfl⟩ (Nat.le_of_ble_eq_true rfl) (Nat.le_of_ble_eq_true rfl) rfl (by rw [← hx.1.1 1 (by decide) (by decide)]; exact s_X2_get (a := a) (b := 4) ha (by omega)) ?_
  refine ev_cV2 35 dX1_compose_32 mlX1_28 moX1_addOwnOf rfl imX1_addOwnOf ⟨_, _, rfl, rfl, rfl⟩ (Nat.le_of_ble_eq_true rfl) (Nat.le_of_ble_eq_true rfl) rfl (s_X1_addOwnOf _ hn hs3 ha hx.2) ?_
  rintro r M5 ⟨rfl, h5⟩
  replace hx : XNm M M5 a (nm1 M n a) := by
    have := hx.add h5
    simpa only [nm1, ownW, hx.1.1 1 (by decide) (by decide)] using this
  exact s_X1_compose_35 sh hn hsz ha hx (fun M6 h6 => s_X1_compose_58 sh hn hsz ha h6 (fun M7 h7 => s_X1_compose_81 sh hn hsz ha h7))
end
section
/-! Reading and Spoken -/
def hArea (h : Nat → Int32) (a : Nat) : Bool := decide (0 < h (a * 18 + 14)) && decide (0 < h (a * 18 + 15))
def isAbv (h : Nat → Int32) (p q : Nat) : Bool := decide (h (p * 18 + 13) + h (p * 18 + 15) ≤ h (q * 18 + 13))
def isLft (h : Nat → Int32) (p q : Nat) : Bool := decide (h (p * 18 + 12) + h (p * 18 + 14) ≤ h (q * 18 + 12))
def astr (h : Nat → Int32) (p q : Nat) : Bool := hArea h p && hArea h q && (isAbv h q p || (isLft h q p && !isAbv h p q))
theorem i_le0 {x : Int32} (h : x ≤ 0) : ¬ 0 < x := by
  rw [Int32.le_iff_toInt_le] at h
  rw [Int32.lt_iff_toInt_lt]
  omega
theorem i_nle0 {x : Int32} (h : ¬ x ≤ 0) : 0 < x := by
  rw [Int32.le_iff_toInt_le] at h
  rw [Int32.lt_iff_toInt_lt]
  omega
theorem i_lt_nle {x y : Int32} (h : x < y) : ¬ y ≤ x := by
  rw [Int32.lt_iff_toInt_lt] at h
  rw [Int32.le_iff_toInt_le]
  omega
theorem i_nlt_le {x y : Int32} (h : ¬ x < y) : y ≤ x := by
  rw [Int32.lt_iff_toInt_lt] at h
  rw [Int32.le_iff_toInt_le]
  omega
def nth (l : List Nat) (i : Nat) : Nat := l.getD i 0
theorem nth_app {l : List Nat} {x i : Nat} (h : i < l.length) : nth (l ++ [x]) i = nth l i := by simp [nth, List.getElem?_append_left h]
theorem nth_last (l : List Nat) (x : Nat) : nth (l ++ [x]) l.length = x := by simp [nth]
def rowAt (M : Mm) (c so sj : Nat) (l : List Nat) : Prop := M so sj = nI l.length ∧ l.length ≤ 24 ∧ ∀ i, i < l.length → M c i = nI (nth l i)
theorem rowAt.push {M : Mm} {c so sj : Nat} {l : List Nat} {x : Nat} (hc : c ≠ so) (h : rowAt M c so sj l) (hl : l.length < 24) : rowAt (mst (mst M c l.length (nI x)) so sj (nI (l.length + 1))) c so sj (l ++ [x]) := by
  refine ⟨by rw [mst_same, upd]; simp, by simp; omega, fun i hi => ?_⟩
  rw [mst_other _ _ _ hc, mst_same, upd]
  simp at hi
  by_cases e : i = l.length
  · subst e; simp [nth_last]
  · rw [if_neg e, h.2.2 i (by omega), nth_app (by omega)]
theorem rowAt.of {M M' : Mm} {c so sj : Nat} {l : List Nat} (h : rowAt M c so sj l) (hc : M' c = M c) (hs : M' so sj = M so sj) : rowAt M' c so sj l := ⟨hs.trans h.1, h.2.1, fun i hi => by rw [hc]; exact h.2.2 i hi⟩
theorem take_snoc {l : List Nat} {i : Nat} (h : i < l.length) : l.take (i + 1) = l.take i ++ [nth l i] := by
  rw [List.take_succ]
  simp [nth, List.getElem?_eq_getElem h]
theorem getD_mem {l : List Nat} {i : Nat} (h : i < l.length) : nth l i ∈ l := by
  simp [nth, List.getElem?_eq_getElem h]
def tbs (M : Mm) (a : Nat) : Bool := if M 1 (a * 18 + 10) = nI 1 then (M 1 (a * 18 + 0) != 0 && ((M 2 a &&& M 4 2) == 0)) else (M 1 (a * 18 + 10) == nI 2 || M 1 (a * 18 + 10) == nI 3 || M 1 (a * 18 + 10) == nI 4)

theorem s_X3_hasArea {M : Mm} {a : Nat} (ha : a < 24) : Ct XSh mX3_hasArea [.ref 9, .int (nI a)] M (RetI (bI (hArea (M 1) a)) M) := by
  show Ev _ _ 0 [.ref 9, .int (nI a)] [] M _
  refine ev_aload_n 1 dX3_hasArea_0 rfl rfl ?_
  refine ev_getR 4 dX3_hasArea_1 rfl flX3_15 rfl rfl ?_
  refine ev_iload_n 5 dX3_hasArea_4 rfl rfl ?_
  refine ev_bipush 7 (nI 14) dX3_hasArea_5 (by decide) rfl ?_
  refine ev_cV2I (M 1 (a * 18 + 14)) M 10 dX3_hasArea_7 mlX3_43 moX2_get rfl imX2_get ⟨_, _, rfl, rfl, rfl⟩ (Nat.le_of_ble_eq_true rfl) (Nat.le_of_ble_eq_true rfl) rfl (s_X2_get (a := a) (b := 14) ha (by omega)) ?_
  refine ev_if_le 13 30 dX3_hasArea_10 (by decide) rfl (fun c10 => ?_) (fun c10 => ?_)
  · refine ev_iconst 31 (nI 0) dX3_hasArea_30 (by decide) rfl ?_
    exact ev_zret dX3_hasArea_31 rfl (Or.inl rfl) (⟨by rw [hArea, decide_eq_false (i_le0 c10)]; rfl, rfl⟩)
  · refine ev_aload_n 14 dX3_hasArea_13 rfl rfl ?_
    refine ev_getR 17 dX3_hasArea_14 rfl flX3_15 rfl rfl ?_
    refine ev_iload_n 18 dX3_hasArea_17 rfl rfl ?_
    refine ev_bipush 20 (nI 15) dX3_hasArea_18 (by decide) rfl ?_
    refine ev_cV2I (M 1 (a * 18 + 15)) M 23 dX3_hasArea_20 mlX3_43 moX2_get rfl imX2_get ⟨_, _, rfl, rfl, rfl⟩ (Nat.le_of_ble_eq_true rfl) (Nat.le_of_ble_eq_true rfl) rfl (s_X2_get (a := a) (b := 15) ha (by omega)) ?_
    refine ev_if_le 26 30 dX3_hasArea_23 (by decide) rfl (fun c23 => ?_) (fun c23 => ?_)
    · refine ev_iconst 31 (nI 0) dX3_hasArea_30 (by decide) rfl ?_
      exact ev_zret dX3_hasArea_31 rfl (Or.inl rfl) (⟨by rw [hArea, decide_eq_false (i_le0 c23), Bool.and_false]; rfl, rfl⟩)
    · refine ev_iconst 27 (nI 1) dX3_hasArea_26 (by decide) rfl ?_
      refine ev_goto 31 dX3_hasArea_27 (by decide) ?_
      exact ev_zret dX3_hasArea_31 rfl (Or.inr rfl) (⟨by rw [hArea, decide_eq_true (i_nle0 c10), decide_eq_true (i_nle0 c23)]; rfl, rfl⟩)
theorem s_X3_isAbove {M : Mm} {a b : Nat} (ha : a < 24) (hb : b < 24) : Ct XSh mX3_isAbove [.ref 9, .int (nI a), .int (nI b)] M (RetI (bI (isAbv (M 1) a b)) M) := by
  show Ev _ _ 0 [.ref 9, .int (nI a), .int (nI b)] [] M _
  refine ev_aload_n 1 dX3_isAbove_0 rfl rfl ?_
  refine ev_getR 4 dX3_isAbove_1 rfl flX3_15 rfl rfl ?_
  refine ev_iload_n 5 dX3_isAbove_4 rfl rfl ?_
  refine ev_bipush 7 (nI 13) dX3_isAbove_5 (by decide) rfl ?_
  refine ev_cV2I (M 1 (a * 18 + 13)) M 10 dX3_isAbove_7 mlX3_43 moX2_get rfl imX2_get ⟨_, _, rfl, rfl, rfl⟩ (Nat.le_of_ble_eq_true rfl) (Nat.le_of_ble_eq_true rfl) rfl (s_X2_get (a := a) (b := 13) ha (by omega)) ?_
  refine ev_aload_n 11 dX3_isAbove_10 rfl rfl ?_
  refine ev_getR 14 dX3_isAbove_11 rfl flX3_15 rfl rfl ?_
  refine ev_iload_n 15 dX3_isAbove_14 rfl rfl ?_
  refine ev_bipush 17 (nI 15) dX3_isAbove_15 (by decide) rfl ?_
  refine ev_cV2I (M 1 (a * 18 + 15)) M 20 dX3_isAbove_17 mlX3_43 moX2_get rfl imX2_get ⟨_, _, rfl, rfl, rfl⟩ (Nat.le_of_ble_eq_true rfl) (Nat.le_of_ble_eq_true rfl) rfl (s_X2_get (a := a) (b := 15) ha (by omega)) ?_
  refine ev_iadd 21 dX3_isAbove_20 rfl ?_
  refine ev_aload_n 22 dX3_isAbove_21 rfl rfl ?_
  refine ev_getR 25 dX3_isAbove_22 rfl flX3_15 rfl rfl ?_
  refine ev_iload_n 26 dX3_isAbove_25 rfl rfl ?_
  refine ev_bipush 28 (nI 13) dX3_isAbove_26 (by decide) rfl ?_
  refine ev_cV2I (M 1 (b * 18 + 13)) M 31 dX3_isAbove_28 mlX3_43 moX2_get rfl imX2_get ⟨_, _, rfl, rfl, rfl⟩ (Nat.le_of_ble_eq_true rfl) (Nat.le_of_ble_eq_true rfl) rfl (s_X2_get (a := b) (b := 13) hb (by omega)) ?_
  refine ev_icmp_gt 34 38 dX3_isAbove_31 (by decide) rfl (fun c31 => ?_) (fun c31 => ?_)
  · refine ev_iconst 39 (nI 0) dX3_isAbove_38 (by decide) rfl ?_
    exact ev_zret dX3_isAbove_39 rfl (Or.inl rfl) (⟨by rw [isAbv, decide_eq_false (i_lt_nle c31)]; rfl, rfl⟩)
  · refine ev_iconst 35 (nI 1) dX3_isAbove_34 (by decide) rfl ?_
    refine ev_goto 39 dX3_isAbove_35 (by decide) ?_
    exact ev_zret dX3_isAbove_39 rfl (Or.inr rfl) (⟨by rw [isAbv, decide_eq_true (i_nlt_le c31)]; rfl, rfl⟩)
theorem s_X3_isLeftOf {M : Mm} {a b : Nat} (ha : a < 24) (hb : b < 24) : Ct XSh mX3_isLeftOf [.ref 9, .int (nI a), .int (nI b)] M (RetI (bI (isLft (M 1) a b)) M) := by
  show Ev _ _ 0 [.ref 9, .int (nI a), .int (nI b)] [] M _
  refine ev_aload_n 1 dX3_isLeftOf_0 rfl rfl ?_
  refine ev_getR 4 dX3_isLeftOf_1 rfl flX3_15 rfl rfl ?_
  refine ev_iload_n 5 dX3_isLeftOf_4 rfl rfl ?_
  refine ev_bipush 7 (nI 12) dX3_isLeftOf_5 (by decide) rfl ?_
  refine ev_cV2I (M 1 (a * 18 + 12)) M 10 dX3_isLeftOf_7 mlX3_43 moX2_get rfl imX2_get ⟨_, _, rfl, rfl, rfl⟩ (Nat.le_of_ble_eq_true rfl) (Nat.le_of_ble_eq_true rfl) rfl (s_X2_get (a := a) (b := 12) ha (by omega)) ?_
  refine ev_aload_n 11 dX3_isLeftOf_10 rfl rfl ?_
  refine ev_getR 14 dX3_isLeftOf_11 rfl flX3_15 rfl rfl ?_
  refine ev_iload_n 15 dX3_isLeftOf_14 rfl rfl ?_
  refine ev_bipush 17 (nI 14) dX3_isLeftOf_15 (by decide) rfl ?_
  refine ev_cV2I (M 1 (a * 18 + 14)) M 20 dX3_isLeftOf_17 mlX3_43 moX2_get rfl imX2_get ⟨_, _, rfl, rfl, rfl⟩ (Nat.le_of_ble_eq_true rfl) (Nat.le_of_ble_eq_true rfl) rfl (s_X2_get (a := a) (b := 14) ha (by omega)) ?_
  refine ev_iadd 21 dX3_isLeftOf_20 rfl ?_
  refine ev_aload_n 22 dX3_isLeftOf_21 rfl rfl ?_
  refine ev_getR 25 dX3_isLeftOf_22 rfl flX3_15 rfl rfl ?_
  refine ev_iload_n 26 dX3_isLeftOf_25 rfl rfl ?_
  refine ev_bipush 28 (nI 12) dX3_isLeftOf_26 (by decide) rfl ?_
  refine ev_cV2I (M 1 (b * 18 + 12)) M 31 dX3_isLeftOf_28 mlX3_43 moX2_get rfl imX2_get ⟨_, _, rfl, rfl, rfl⟩ (Nat.le_of_ble_eq_true rfl) (Nat.le_of_ble_eq_true rfl) rfl (s_X2_get (a := b) (b := 12) hb (by omega)) ?_
  refine ev_icmp_gt 34 38 dX3_isLeftOf_31 (by decide) rfl (fun c31 => ?_) (fun c31 => ?_)
  · refine ev_iconst 39 (nI 0) dX3_isLeftOf_38 (by decide) rfl ?_
    exact ev_zret dX3_isLeftOf_39 rfl (Or.inl rfl) (⟨by rw [isLft, decide_eq_false (i_lt_nle c31)]; rfl, rfl⟩)
  · refine ev_iconst 35 (nI 1) dX3_isLeftOf_34 (by decide) rfl ?_
    refine ev_goto 39 dX3_isLeftOf_35 (by decide) ?_
    exact ev_zret dX3_isLeftOf_39 rfl (Or.inr rfl) (⟨by rw [isLft, decide_eq_true (i_nlt_le c31)]; rfl, rfl⟩)
theorem s_X3_isAstray {M : Mm} {a b : Nat} (ha : a < 24) (hb : b < 24) : Ct XSh mX3_isAstray [.ref 9, .int (nI a), .int (nI b)] M (RetI (bI (astr (M 1) a b)) M) := by
  show Ev _ _ 0 [.ref 9, .int (nI a), .int (nI b)] [] M _
  refine ev_aload_n 1 dX3_isAstray_0 rfl rfl ?_
  refine ev_iload_n 2 dX3_isAstray_1 rfl rfl ?_
  refine ev_cV1I _ M 5 dX3_isAstray_2 mlX3_56 moX3_hasArea rfl imX3_hasArea ⟨_, _, rfl, rfl, rfl⟩ (Nat.le_of_ble_eq_true rfl) (Nat.le_of_ble_eq_true rfl) rfl (s_X3_hasArea ha) ?_
  refine ev_if_eqB 8 16 dX3_isAstray_5 (by decide) rfl (fun c5 => ?_) (fun c5 => ?_)
  · refine ev_iconst 17 (nI 0) dX3_isAstray_16 (by decide) rfl ?_
    exact ev_zret dX3_isAstray_17 rfl (Or.inl rfl) (⟨by simp only [astr, *]; rfl, rfl⟩)
  · refine ev_aload_n 9 dX3_isAstray_8 rfl rfl ?_
    refine ev_iload_n 10 dX3_isAstray_9 rfl rfl ?_
    refine ev_cV1I _ M 13 dX3_isAstray_10 mlX3_56 moX3_hasArea rfl imX3_hasArea ⟨_, _, rfl, rfl, rfl⟩ (Nat.le_of_ble_eq_true rfl) (Nat.le_of_ble_eq_true rfl) rfl (s_X3_hasArea hb) ?_
    refine ev_if_neB 16 18 dX3_isAstray_13 (by decide) rfl (fun c13 => ?_) (fun c13 => ?_)
    · refine ev_aload_n 19 dX3_isAstray_18 rfl rfl ?_
      refine ev_iload_n 20 dX3_isAstray_19 rfl rfl ?_
      refine ev_iload_n 21 dX3_isAstray_20 rfl rfl ?_
      refine ev_cV2I _ M 24 dX3_isAstray_21 mlX3_59 moX3_isAbove rfl imX3_isAbove ⟨_, _, rfl, rfl, rfl⟩ (Nat.le_of_ble_eq_true rfl) (Nat.le_of_ble_eq_true rfl) rfl (s_X3_isAbove hb ha) ?_
      refine ev_if_neB 27 45 dX3_isAstray_24 (by decide) rfl (fun c24 => ?_) (fun c24 => ?_)
      · refine ev_iconst 46 (nI 1) dX3_isAstray_45 (by decide) rfl ?_
        refine ev_goto 50 dX3_isAstray_46 (by decide) ?_
        exact ev_zret dX3_isAstray_50 rfl (Or.inr rfl) (⟨by simp only [astr, *]; rfl, rfl⟩)
      · refine ev_aload_n 28 dX3_isAstray_27 rfl rfl ?_
        refine ev_iload_n 29 dX3_isAstray_28 rfl rfl ?_
        refine ev_iload_n 30 dX3_isAstray_29 rfl rfl ?_
        refine ev_cV2I _ M 33 dX3_isAstray_30 mlX3_62 moX3_isLeftOf rfl imX3_isLeftOf ⟨_, _, rfl, rfl, rfl⟩ (Nat.le_of_ble_eq_true rfl) (Nat.le_of_ble_eq_true rfl) rfl (s_X3_isLeftOf hb ha) ?_
        refine ev_if_eqB 36 49 dX3_isAstray_33 (by decide) rfl (fun c33 => ?_) (fun c33 => ?_)
        · refine ev_iconst 50 (nI 0) dX3_isAstray_49 (by decide) rfl ?_
          exact ev_zret dX3_isAstray_50 rfl (Or.inl rfl) (⟨by simp only [astr, *]; rfl, rfl⟩)
        · refine ev_aload_n 37 dX3_isAstray_36 rfl rfl ?_
          refine ev_iload_n 38 dX3_isAstray_37 rfl rfl ?_
          refine ev_iload_n 39 dX3_isAstray_38 rfl rfl ?_
          refine ev_cV2I _ M 42 dX3_isAstray_39 mlX3_59 moX3_isAbove rfl imX3_isAbove ⟨_, _, rfl, rfl, rfl⟩ (Nat.le_of_ble_eq_true rfl) (Nat.le_of_ble_eq_true rfl) rfl (s_X3_isAbove ha hb) ?_
          refine ev_if_neB 45 49 dX3_isAstray_42 (by decide) rfl (fun c42 => ?_) (fun c42 => ?_)
          · refine ev_iconst 50 (nI 0) dX3_isAstray_49 (by decide) rfl ?_
            exact ev_zret dX3_isAstray_50 rfl (Or.inl rfl) (⟨by simp only [astr, *]; rfl, rfl⟩)
          · refine ev_iconst 46 (nI 1) dX3_isAstray_45 (by decide) rfl ?_
            refine ev_goto 50 dX3_isAstray_46 (by decide) ?_
            exact ev_zret dX3_isAstray_50 rfl (Or.inr rfl) (⟨by simp only [astr, *]; rfl, rfl⟩)
    · refine ev_iconst 17 (nI 0) dX3_isAstray_16 (by decide) rfl ?_
      exact ev_zret dX3_isAstray_17 rfl (Or.inl rfl) (⟨by simp only [astr, *]; rfl, rfl⟩)
theorem s_X3_isToBeSaid {M : Mm} {a : Nat} (ha : a < 24) : Ct XSh mX3_isToBeSaid [.ref 9, .int (nI a)] M (RetI (bI (tbs M a)) M) := by
  show Ev _ _ 0 [.ref 9, .int (nI a), .null] [] M _
  refine ev_aload_n 1 dX3_isToBeSaid_0 rfl rfl ?_
  refine ev_getR 4 dX3_isToBeSaid_1 rfl flX3_15 rfl rfl ?_
  refine ev_iload_n 5 dX3_isToBeSaid_4 rfl rfl ?_
  refine ev_bipush 7 (nI 10) dX3_isToBeSaid_5 (by decide) rfl ?_
  refine ev_cV2I (M 1 (a * 18 + 10)) M 10 dX3_isToBeSaid_7 mlX3_43 moX2_get rfl imX2_get ⟨_, _, rfl, rfl, rfl⟩ (Nat.le_of_ble_eq_true rfl) (Nat.le_of_ble_eq_true rfl) rfl (s_X2_get (a := a) (b := 10) ha (by omega)) ?_
  refine ev_istore_n 11 _ dX3_isToBeSaid_10 (by decide) rfl rfl rfl ?_
  refine ev_iload_n 12 dX3_isToBeSaid_11 rfl rfl ?_
  refine ev_iconst 13 (nI 1) dX3_isToBeSaid_12 (by decide) rfl ?_
  refine ev_icmp_ne 16 56 dX3_isToBeSaid_13 (by decide) rfl (fun c13 => ?_) (fun c13 => ?_)
  · refine ev_iload_n 57 dX3_isToBeSaid_56 rfl rfl ?_
    refine ev_iconst 58 (nI 2) dX3_isToBeSaid_57 (by decide) rfl ?_
    refine ev_icmp_eq 61 71 dX3_isToBeSaid_58 (by decide) rfl (fun c58 => ?_) (fun c58 => ?_)
    · refine ev_iconst 72 (nI 1) dX3_isToBeSaid_71 (by decide) rfl ?_
      refine ev_goto 76 dX3_isToBeSaid_72 (by decide) ?_
      exact ev_zret dX3_isToBeSaid_76 rfl (Or.inr rfl) (⟨by rw [tbs, if_neg c13, beq_iff_eq.mpr c58]; rfl, rfl⟩)
    · refine ev_iload_n 62 dX3_isToBeSaid_61 rfl rfl ?_
      refine ev_iconst 63 (nI 3) dX3_isToBeSaid_62 (by decide) rfl ?_
      refine ev_icmp_eq 66 71 dX3_isToBeSaid_63 (by decide) rfl (fun c63 => ?_) (fun c63 => ?_)
      · refine ev_iconst 72 (nI 1) dX3_isToBeSaid_71 (by decide) rfl ?_
        refine ev_goto 76 dX3_isToBeSaid_72 (by decide) ?_
        exact ev_zret dX3_isToBeSaid_76 rfl (Or.inr rfl) (⟨by rw [tbs, if_neg c13, beq_eq_false_iff_ne.mpr c58, beq_iff_eq.mpr c63]; rfl, rfl⟩)
      · refine ev_iload_n 67 dX3_isToBeSaid_66 rfl rfl ?_
        refine ev_iconst 68 (nI 4) dX3_isToBeSaid_67 (by decide) rfl ?_
        refine ev_icmp_ne 71 75 dX3_isToBeSaid_68 (by decide) rfl (fun c68 => ?_) (fun c68 => ?_)
        · refine ev_iconst 76 (nI 0) dX3_isToBeSaid_75 (by decide) rfl ?_
          exact ev_zret dX3_isToBeSaid_76 rfl (Or.inl rfl) (⟨by rw [tbs, if_neg c13, beq_eq_false_iff_ne.mpr c58, beq_eq_false_iff_ne.mpr c63, beq_eq_false_iff_ne.mpr c68]; rfl, rfl⟩)
        · refine ev_iconst 72 (nI 1) dX3_isToBeSaid_71 (by decide) rfl ?_
          refine ev_goto 76 dX3_isToBeSaid_72 (by decide) ?_
          exact ev_zret dX3_isToBeSaid_76 rfl (Or.inr rfl) (⟨by rw [tbs, if_neg c13, beq_eq_false_iff_ne.mpr c58, beq_eq_false_iff_ne.mpr c63, beq_iff_eq.mpr c68]; rfl, rfl⟩)
  · refine ev_aload_n 17 dX3_isToBeSaid_16 rfl rfl ?_
    refine ev_getR 20 dX3_isToBeSaid_17 rfl flX3_15 rfl rfl ?_
    refine ev_iload_n 21 dX3_isToBeSaid_20 rfl rfl ?_
    refine ev_iconst 22 (nI 0) dX3_isToBeSaid_21 (by decide) rfl ?_
    refine ev_cV2I (M 1 (a * 18 + 0)) M 25 dX3_isToBeSaid_22 mlX3_43 moX2_get rfl imX2_get ⟨_, _, rfl, rfl, rfl⟩ (Nat.le_of_ble_eq_true rfl) (Nat.le_of_ble_eq_true rfl) rfl (s_X2_get (a := a) (b := 0) ha (by omega)) ?_
    refine ev_if_eq 28 54 dX3_isToBeSaid_25 (by decide) rfl (fun c25 => ?_) (fun c25 => ?_)
    · refine ev_iconst 55 (nI 0) dX3_isToBeSaid_54 (by decide) rfl ?_
      exact ev_zret dX3_isToBeSaid_55 rfl (Or.inl rfl) (⟨by rw [tbs, if_pos c13, show (M 1 (a * 18 + 0) != 0) = false from by rw [c25]; rfl]; rfl, rfl⟩)
    · refine ev_aload_n 29 dX3_isToBeSaid_28 rfl rfl ?_
      refine ev_getR 32 dX3_isToBeSaid_29 rfl flX3_15 rfl rfl ?_
      refine ev_getR 35 dX3_isToBeSaid_32 rfl flX3_47 rfl rfl ?_
      refine ev_iload_n 36 dX3_isToBeSaid_35 rfl rfl ?_
      refine ev_iaN 37 _ dX3_isToBeSaid_36 rfl (by omega) (by decide) rfl rfl ?_
      refine ev_aload_n 38 dX3_isToBeSaid_37 rfl rfl ?_
      refine ev_getR 41 dX3_isToBeSaid_38 rfl flX3_15 rfl rfl ?_
      refine ev_getR 44 dX3_isToBeSaid_41 rfl flX3_50 rfl rfl ?_
      refine ev_iconst 45 (nI 2) dX3_isToBeSaid_44 (by decide) rfl ?_
      refine ev_iaN 46 _ dX3_isToBeSaid_45 rfl (by decide) (by decide) rfl rfl ?_
      refine ev_iand 47 dX3_isToBeSaid_46 rfl ?_
      refine ev_if_ne 50 54 dX3_isToBeSaid_47 (by decide) rfl (fun c47 => ?_) (fun c47 => ?_)
      · refine ev_iconst 55 (nI 0) dX3_isToBeSaid_54 (by decide) rfl ?_
        exact ev_zret dX3_isToBeSaid_55 rfl (Or.inl rfl) (⟨by rw [tbs, if_pos c13, beq_eq_false_iff_ne.mpr c47, Bool.and_false]; rfl, rfl⟩)
      · refine ev_iconst 51 (nI 1) dX3_isToBeSaid_50 (by decide) rfl ?_
        refine ev_goto 55 dX3_isToBeSaid_51 (by decide) ?_
        exact ev_zret dX3_isToBeSaid_55 rfl (Or.inr rfl) (⟨by rw [tbs, if_pos c13, beq_iff_eq.mpr c47, bne_iff_ne.mpr c25]; rfl, rfl⟩)
def rowF (l : List Nat) (k : Int32) : Int32 := if inB k l.length then nI (nth l k.toNatClampNeg) else -1
theorem s_X3_at {M : Mm} {l : List Nat} (k : Int32) (hl : rowAt M 10 9 2 l) : Ct XSh mX3_at [.ref 9, .int k] M (RetI (rowF l k) M) := by
  have hle := hl.2.1
  have hin : ¬ k < 0 → ¬ nI l.length ≤ k → inB k l.length = true := fun c1 c11 => decide_eq_true (by rw [int_lt0] at c1; rw [Int32.le_iff_toInt_le, nI_toInt (by omega)] at c11; omega)
  have hout : nI l.length ≤ k → inB k l.length = false := fun c11 => decide_eq_false (by rw [Int32.le_iff_toInt_le, nI_toInt (by omega)] at c11; omega)
  show Ev _ _ 0 [.ref 9, .int k] [] M _
  refine ev_iload_n 1 dX3_at_0 rfl rfl ?_
  refine ev_if_lt 4 21 dX3_at_1 (by decide) rfl (fun c1 => ?_) (fun c1 => ?_)
  · refine ev_iconst 22 (-1) dX3_at_21 (by decide) rfl ?_
    exact ev_iret dX3_at_22 rfl (⟨by rw [rowF, if_neg (by rw [inB_lt c1]; decide)], rfl⟩)
  · refine ev_iload_n 5 dX3_at_4 rfl rfl ?_
    refine ev_aload_n 6 dX3_at_5 rfl rfl ?_
    refine ev_getIv 9 _ dX3_at_6 rfl flX3_19 rfl rfl hl.1 ?_
    refine ev_icmp_ge 12 21 dX3_at_9 (by decide) rfl (fun c9 => ?_) (fun c9 => ?_)
    · refine ev_iconst 22 (-1) dX3_at_21 (by decide) rfl ?_
      exact ev_iret dX3_at_22 rfl (⟨by rw [rowF, if_neg (by rw [hout c9]; decide)], rfl⟩)
    · obtain ⟨j, hj, rfl⟩ := inB_of (x := k) (n := l.length) (hin c1 c9) (by omega)
      refine ev_aload_n 13 dX3_at_12 rfl rfl ?_
      refine ev_getR 16 dX3_at_13 rfl flX3_9 rfl rfl ?_
      refine ev_iload_n 17 dX3_at_16 rfl rfl ?_
      refine ev_iaN 18 _ dX3_at_17 rfl (by omega) (by decide) rfl (hl.2.2 j hj) ?_
      refine ev_goto 22 dX3_at_18 (by decide) ?_
      exact ev_iret dX3_at_22 rfl (⟨by rw [rowF, inB_nI (by omega), if_pos (decide_eq_true hj), nI_clamp (by omega)], rfl⟩)
def gthF (M : Mm) (sh : Int32) (ol : List Nat) : List Nat := ol.filter (fun p => bt sh p && tbs M p)
theorem tbs_congr {M M1 : Mm} (h : ∀ k, k ≠ 9 → k ≠ 10 → M1 k = M k) (a : Nat) : tbs M1 a = tbs M a := by
  simp only [tbs, h 1 (by decide) (by decide), h 2 (by decide) (by decide), h 4 (by decide) (by decide)]
theorem gthF_snoc {M : Mm} {sh : Int32} {ol : List Nat} {i : Nat} (h : i < ol.length) : gthF M sh (ol.take (i + 1)) = if bt sh (nth ol i) && tbs M (nth ol i) then gthF M sh (ol.take i) ++ [nth ol i] else gthF M sh (ol.take i) := by
  rw [take_snoc h, gthF, List.filter_append, ← gthF]
  cases hb : (bt sh (nth ol i) && tbs M (nth ol i)) <;> simp [List.filter, hb]
def Sm9 (M M1 : Mm) : Prop := (∀ k, k ≠ 9 → k ≠ 10 → M1 k = M k)

theorem s_X3_gather_k {M : Mm} (sh : Int32) {ol : List Nat} (ho : rowAt M 5 0 5 ol) (hb : ∀ x ∈ ol, x < 24) : ∀ d i (M1 : Mm) (v : Value), i + d = ol.length → Sm9 M M1 → rowAt M1 10 9 2 (gthF M sh (ol.take i)) → Ev XSh mX3_gather 7 [.ref 9, .int sh, .int (nI i), v] [] M1 (fun r M2 => r = none ∧ Sm9 M M2 ∧ rowAt M2 10 9 2 (gthF M sh ol))
  | 0, i, M1, v, h, hm, hr => by
    have hs1 : M1 0 5 = nI ol.length := by rw [hm 0 (by decide) (by decide)]; exact ho.1
    have hol := ho.2.1
    refine ev_iload_n 8 dX3_gather_7 rfl rfl ?_
    refine ev_aload_n 9 dX3_gather_8 rfl rfl ?_
    refine ev_getR 12 dX3_gather_9 rfl flX3_15 rfl rfl ?_
    refine ev_getIv 15 (nI ol.length) dX3_gather_12 rfl flX3_29 rfl rfl hs1 ?_
    refine ev_icmp_geN 18 70 dX3_gather_15 (by decide) rfl (by omega) (by omega) (fun c15 => ?_) (fun c15 => ?_)
    · exact ev_vret dX3_gather_70 rfl (⟨rfl, hm, by rw [List.take_of_length_le (by omega)] at hr; exact hr⟩)
    · omega
  | d + 1, i, M1, v, h, hm, hr => by
    have hs1 : M1 0 5 = nI ol.length := by rw [hm 0 (by decide) (by decide)]; exact ho.1
    have hol := ho.2.1
    have hx : nth ol i < 24 := hb _ (getD_mem (by omega))
    have hlen : (gthF M sh (ol.take i)).length ≤ i := Nat.le_trans (List.length_filter_le _ _) (by simp; omega)
    refine ev_iload_n 8 dX3_gather_7 rfl rfl ?_
    refine ev_aload_n 9 dX3_gather_8 rfl rfl ?_
    refine ev_getR 12 dX3_gather_9 rfl flX3_15 rfl rfl ?_
    refine ev_getIv 15 (nI ol.length) dX3_gather_12 rfl flX3_29 rfl rfl hs1 ?_
    refine ev_icmp_geN 18 70 dX3_gather_15 (by decide) rfl (by omega) (by omega) (fun c15 => ?_) (fun c15 => ?_)
    · omega
    · refine ev_aload_n 19 dX3_gather_18 rfl rfl ?_
      refine ev_getR 22 dX3_gather_19 rfl flX3_15 rfl rfl ?_
      refine ev_getR 25 dX3_gather_22 rfl flX3_32 rfl rfl ?_
      refine ev_iload_n 26 dX3_gather_25 rfl rfl ?_
      refine ev_iaN 27 (nI (nth ol i)) dX3_gather_26 rfl (by omega) (by decide) rfl (by rw [hm 5 (by decide) (by decide)]; exact ho.2.2 i (by omega)) ?_
      refine ev_istore_n 28 _ dX3_gather_27 (by decide) rfl rfl rfl ?_
      refine ev_iload_n 29 dX3_gather_28 rfl rfl ?_
      refine ev_iload_n 30 dX3_gather_29 rfl rfl ?_
      refine ev_cS2I _ M1 33 dX3_gather_30 mlX3_35 moX7_holds rfl smX7_holds (Nat.le_of_ble_eq_true rfl) (Nat.le_of_ble_eq_true rfl) rfl (s_holds _ _) ?_
      refine ev_if_eqB 36 64 dX3_gather_33 (by decide) rfl (fun c33 => ?_) (fun c33 => ?_)
      · have hbt : bt sh (nth ol i) = false := by rw [hB_nI hx] at c33; exact c33
        refine ev_iincN 67 _ dX3_gather_64 rfl (by decide) rfl rfl rfl ?_
        refine ev_goto 7 dX3_gather_67 (by decide) ?_
        exact s_X3_gather_k sh ho hb d (i + 1) M1 _ (by omega) hm (by rw [gthF_snoc (by omega), if_neg (by simp [hbt])]; exact hr)
      · have hbt : bt sh (nth ol i) = true := by rw [hB_nI hx] at c33; exact c33
        refine ev_aload_n 37 dX3_gather_36 rfl rfl ?_
        refine ev_iload_n 38 dX3_gather_37 rfl rfl ?_
        refine ev_cV1I _ M1 41 dX3_gather_38 mlX3_39 moX3_isToBeSaid rfl imX3_isToBeSaid ⟨_, _, rfl, rfl, rfl⟩ (Nat.le_of_ble_eq_true rfl) (Nat.le_of_ble_eq_true rfl) rfl (s_X3_isToBeSaid hx) ?_
        refine ev_if_eqB 44 64 dX3_gather_41 (by decide) rfl (fun c41 => ?_) (fun c41 => ?_)
        · have htb : tbs M (nth ol i) = false := by rw [tbs_congr hm] at c41; exact c41
          refine ev_iincN 67 _ dX3_gather_64 rfl (by decide) rfl rfl rfl ?_
          refine ev_goto 7 dX3_gather_67 (by decide) ?_
          exact s_X3_gather_k sh ho hb d (i + 1) M1 _ (by omega) hm (by rw [gthF_snoc (by omega), if_neg (by simp [htb])]; exact hr)
        · have htb : tbs M (nth ol i) = true := by rw [tbs_congr hm] at c41; exact c41
          refine ev_aload_n 45 dX3_gather_44 rfl rfl ?_
          refine ev_getR 48 dX3_gather_45 rfl flX3_9 rfl rfl ?_
          refine ev_aload_n 49 dX3_gather_48 rfl rfl ?_
          refine ev_getIv 52 _ dX3_gather_49 rfl flX3_19 rfl rfl hr.1 ?_
          refine ev_iload_n 53 dX3_gather_52 rfl rfl ?_
          refine ev_iaS 54 dX3_gather_53 rfl (by omega) (by decide) rfl ?_
          refine ev_aload_n 55 dX3_gather_54 rfl rfl ?_
          refine ev_dup 56 dX3_gather_55 rfl rfl ?_
          refine ev_getIv 59 (nI (gthF M sh (ol.take i)).length) dX3_gather_56 rfl flX3_19 rfl rfl (by rw [mst_other _ _ _ (by decide)]; exact hr.1) ?_
          refine ev_iconst 60 (nI 1) dX3_gather_59 (by decide) rfl ?_
          refine ev_iaddN 61 dX3_gather_60 rfl ?_
          refine ev_putI 64 dX3_gather_61 rfl flX3_19 fiX3_2 rfl rfl ?_
          refine ev_iincN 67 _ dX3_gather_64 rfl (by decide) rfl rfl rfl ?_
          refine ev_goto 7 dX3_gather_67 (by decide) ?_
          refine s_X3_gather_k sh ho hb d (i + 1) _ _ (by omega) (fun k h9 h10 => by rw [mst_other _ _ _ h9, mst_other _ _ _ h10]; exact hm k h9 h10) ?_
          rw [gthF_snoc (by omega), if_pos (by simp only [hbt, htb]; rfl)]
          exact hr.push (by decide) (by omega)
theorem s_X3_gather {M : Mm} (sh : Int32) {ol : List Nat} (ho : rowAt M 5 0 5 ol) (hb : ∀ x ∈ ol, x < 24) : Ct XSh mX3_gather [.ref 9, .int sh] M (fun r M2 => r = none ∧ Sm9 M M2 ∧ rowAt M2 10 9 2 (gthF M sh ol)) := by
  show Ev _ _ 0 [.ref 9, .int sh, .null, .null] [] M _
  refine ev_aload_n 1 dX3_gather_0 rfl rfl ?_
  refine ev_iconst 2 (nI 0) dX3_gather_1 (by decide) rfl ?_
  refine ev_putI 5 dX3_gather_2 rfl flX3_19 fiX3_2 rfl rfl ?_
  refine ev_iconst 6 (nI 0) dX3_gather_5 (by decide) rfl ?_
  refine ev_istore_n 7 _ dX3_gather_6 (by decide) rfl rfl rfl ?_
  exact s_X3_gather_k sh ho hb ol.length 0 _ _ (by omega) (fun k h9 h10 => mst_other _ _ _ h9) ⟨by rw [mst_same, upd]; rfl, by simp [gthF], fun i hi => by simp [gthF] at hi⟩
end
section
/-! Reading.compare, Spoken -/
def cmpI (h : Nat → Int32) (x : Nat) : List Nat → Int32 × Nat → Int32 × Nat
  | [], s => s
  | y :: t, s => cmpI h x t (if astr h x y then (s.1 ||| (nI 1 <<< (nI x &&& 31)), s.2 + 1) else s)
def cmpO (h : Nat → Int32) : List Nat → Int32 × Nat → Int32 × Nat
  | [], s => s
  | x :: t, s => cmpO h t (cmpI h x t s)
def CmpS (M M1 : Mm) (s : Int32 × Nat) : Prop := (∀ k, k ≠ 9 → M1 k = M k) ∧ M1 9 2 = M 9 2 ∧ M1 9 3 = s.1 ∧ M1 9 4 = nI s.2
theorem drop_nth {l : List Nat} {j : Nat} (h : j < l.length) : l.drop j = nth l j :: l.drop (j + 1) := by
  rw [List.drop_eq_getElem_cons h]
  simp [nth, List.getElem?_eq_getElem h]
theorem CmpS.row {M M1 : Mm} {s : Int32 × Nat} {l : List Nat} (h : CmpS M M1 s) (hl : rowAt M 10 9 2 l) : rowAt M1 10 9 2 l := hl.of (h.1 10 (by decide)) h.2.1
theorem CmpS.step {M M1 : Mm} {s : Int32 × Nat} (h : CmpS M M1 s) (v : Int32) : CmpS M (mst (mst M1 9 3 v) 9 4 (nI (s.2 + 1))) (v, s.2 + 1) := by
  refine ⟨fun k hk => by rw [mst_other _ _ _ hk, mst_other _ _ _ hk]; exact h.1 k hk, ?_, ?_, ?_⟩
  · rw [mst_same, upd, if_neg (by decide), mst_same, upd, if_neg (by decide)]; exact h.2.1
  · rw [mst_same, upd, if_neg (by decide), mst_same, upd, if_pos rfl]
  · rw [mst_same, upd, if_pos rfl]

theorem s_X3_compare_in {M : Mm} {l : List Nat} (hl : rowAt M 10 9 2 l) (hb : ∀ x ∈ l, x < 24) {i : Nat} (hi : i < l.length) {Q : Pst} : ∀ d j (M1 : Mm) (s : Int32 × Nat), j + d = l.length → CmpS M M1 s → (∀ M2 s2, CmpS M M2 s2 → s2 = cmpI (M 1) (nth l i) (l.drop j) s → Ev XSh mX3_compare 84 [.ref 9, .int (nI i), .int (nI l.length)] [] M2 Q) → Ev XSh mX3_compare 24 [.ref 9, .int (nI i), .int (nI j)] [] M1 Q
  | 0, j, M1, s, h, hs, k => by
    have hr := hs.row hl
    have hle := hl.2.1
    have hj : j = l.length := by omega
    subst hj
    refine ev_iload_n 25 dX3_compare_24 rfl rfl ?_
    refine ev_aload_n 26 dX3_compare_25 rfl rfl ?_
    refine ev_getIv 29 (nI l.length) dX3_compare_26 rfl flX3_19 rfl rfl hr.1 ?_
    refine ev_icmp_geN 32 84 dX3_compare_29 (by decide) rfl (by omega) (by omega) (fun c29 => ?_) (fun c29 => ?_)
    · rw [List.drop_of_length_le (by omega)] at k
      exact k M1 s hs rfl
    · omega
  | d + 1, j, M1, s, h, hs, k => by
    have hr := hs.row hl
    have hle := hl.2.1
    refine ev_iload_n 25 dX3_compare_24 rfl rfl ?_
    refine ev_aload_n 26 dX3_compare_25 rfl rfl ?_
    refine ev_getIv 29 (nI l.length) dX3_compare_26 rfl flX3_19 rfl rfl hr.1 ?_
    refine ev_icmp_geN 32 84 dX3_compare_29 (by decide) rfl (by omega) (by omega) (fun c29 => ?_) (fun c29 => ?_)
    · omega
    · refine ev_aload_n 33 dX3_compare_32 rfl rfl ?_
      refine ev_aload_n 34 dX3_compare_33 rfl rfl ?_
      refine ev_getR 37 dX3_compare_34 rfl flX3_9 rfl rfl ?_
      refine ev_iload_n 38 dX3_compare_37 rfl rfl ?_
      refine ev_iaN 39 (nI (nth l i)) dX3_compare_38 rfl (by omega) (by decide) rfl (hr.2.2 i hi) ?_
      refine ev_aload_n 40 dX3_compare_39 rfl rfl ?_
      refine ev_getR 43 dX3_compare_40 rfl flX3_9 rfl rfl ?_
      refine ev_iload_n 44 dX3_compare_43 rfl rfl ?_
      refine ev_iaN 45 (nI (nth l j)) dX3_compare_44 rfl (by omega) (by decide) rfl (hr.2.2 j (by omega)) ?_
      refine ev_cV2I (bI (astr (M 1) (nth l i) (nth l j))) M1 48 dX3_compare_45 mlX3_53 moX3_isAstray rfl imX3_isAstray ⟨_, _, rfl, rfl, rfl⟩ (Nat.le_of_ble_eq_true rfl) (Nat.le_of_ble_eq_true rfl) rfl (by rw [← hs.1 1 (by decide)]; exact s_X3_isAstray (hb _ (getD_mem hi)) (hb _ (getD_mem (by omega)))) ?_
      refine ev_if_eqB 51 78 dX3_compare_48 (by decide) rfl (fun c48 => ?_) (fun c48 => ?_)
      · refine ev_iincN 81 _ dX3_compare_78 rfl (by decide) rfl rfl rfl ?_
        refine ev_goto 24 dX3_compare_81 (by decide) ?_
        exact s_X3_compare_in hl hb hi d (j + 1) M1 s (by omega) hs (fun M2 s2 h2 e => k M2 s2 h2 (by rw [drop_nth (by omega), cmpI, if_neg (by rw [c48]; decide)]; exact e))
      · refine ev_aload_n 52 dX3_compare_51 rfl rfl ?_
        refine ev_dup 53 dX3_compare_52 rfl rfl ?_
        refine ev_getIv 56 s.1 dX3_compare_53 rfl flX3_23 rfl rfl hs.2.2.1 ?_
        refine ev_iconst 57 (nI 1) dX3_compare_56 (by decide) rfl ?_
        refine ev_aload_n 58 dX3_compare_57 rfl rfl ?_
        refine ev_getR 61 dX3_compare_58 rfl flX3_9 rfl rfl ?_
        refine ev_iload_n 62 dX3_compare_61 rfl rfl ?_
        refine ev_iaN 63 (nI (nth l i)) dX3_compare_62 rfl (by omega) (by decide) rfl (hr.2.2 i hi) ?_
        refine ev_ishl 64 dX3_compare_63 rfl ?_
        refine ev_ior 65 dX3_compare_64 rfl ?_
        refine ev_putI 68 dX3_compare_65 rfl flX3_23 fiX3_3 rfl rfl ?_
        refine ev_aload_n 69 dX3_compare_68 rfl rfl ?_
        refine ev_dup 70 dX3_compare_69 rfl rfl ?_
        refine ev_getIv 73 (nI s.2) dX3_compare_70 rfl flX3_26 rfl rfl (by rw [mst_same, upd, if_neg (by decide)]; exact hs.2.2.2) ?_
        refine ev_iconst 74 (nI 1) dX3_compare_73 (by decide) rfl ?_
        refine ev_iaddN 75 dX3_compare_74 rfl ?_
        refine ev_putI 78 dX3_compare_75 rfl flX3_26 fiX3_4 rfl rfl ?_
        refine ev_iincN 81 _ dX3_compare_78 rfl (by decide) rfl rfl rfl ?_
        refine ev_goto 24 dX3_compare_81 (by decide) ?_
        refine s_X3_compare_in hl hb hi d (j + 1) _ _ (by omega) (hs.step (s.1 ||| (nI 1 <<< (nI (nth l i) &&& 31)))) (fun M2 s2 h2 e => k M2 s2 h2 (by rw [drop_nth (by omega), cmpI, if_pos c48]; exact e))
theorem s_X3_compare_k {M : Mm} {l : List Nat} (hl : rowAt M 10 9 2 l) (hb : ∀ x ∈ l, x < 24) : ∀ d i (M1 : Mm) (s : Int32 × Nat) (v : Value), i + d = l.length → CmpS M M1 s → Ev XSh mX3_compare 12 [.ref 9, .int (nI i), v] [] M1 (fun r M2 => r = none ∧ CmpS M M2 (cmpO (M 1) (l.drop i) s))
  | 0, i, M1, s, v, h, hs => by
    have hr := hs.row hl
    have hle := hl.2.1
    refine ev_iload_n 13 dX3_compare_12 rfl rfl ?_
    refine ev_aload_n 14 dX3_compare_13 rfl rfl ?_
    refine ev_getIv 17 (nI l.length) dX3_compare_14 rfl flX3_19 rfl rfl hr.1 ?_
    refine ev_icmp_geN 20 90 dX3_compare_17 (by decide) rfl (by omega) (by omega) (fun c17 => ?_) (fun c17 => ?_)
    · exact ev_vret dX3_compare_90 rfl (⟨rfl, by rw [List.drop_of_length_le (by omega)]; exact hs⟩)
    · omega
  | d + 1, i, M1, s, v, h, hs => by
    have hr := hs.row hl
    have hle := hl.2.1
    refine ev_iload_n 13 dX3_compare_12 rfl rfl ?_
    refine ev_aload_n 14 dX3_compare_13 rfl rfl ?_
    refine ev_getIv 17 (nI l.length) dX3_compare_14 rfl flX3_19 rfl rfl hr.1 ?_
    refine ev_icmp_geN 20 90 dX3_compare_17 (by decide) rfl (by omega) (by omega) (fun c17 => ?_) (fun c17 => ?_)
    · omega
    · refine ev_iload_n 21 dX3_compare_20 rfl rfl ?_
      refine ev_iconst 22 (nI 1) dX3_compare_21 (by decide) rfl ?_
      refine ev_iaddN 23 dX3_compare_22 rfl ?_
      refine ev_istore_n 24 _ dX3_compare_23 (by decide) rfl rfl rfl ?_
      refine s_X3_compare_in hl hb (by omega) (l.length - (i + 1)) (i + 1) M1 s (by omega) hs (fun M2 s2 h2 e => ?_)
      refine ev_iincN 87 _ dX3_compare_84 rfl (by decide) rfl rfl rfl ?_
      refine ev_goto 12 dX3_compare_87 (by decide) ?_
      rw [drop_nth (show i < l.length by omega), cmpO, ← e]
      exact s_X3_compare_k hl hb d (i + 1) M2 s2 _ (by omega) h2
theorem s_X3_compare {M : Mm} {l : List Nat} (hl : rowAt M 10 9 2 l) (hb : ∀ x ∈ l, x < 24) : Ct XSh mX3_compare [.ref 9] M (fun r M2 => r = none ∧ CmpS M M2 (cmpO (M 1) l (0, 0))) := by
  show Ev _ _ 0 [.ref 9, .null, .null] [] M _
  refine ev_aload_n 1 dX3_compare_0 rfl rfl ?_
  refine ev_iconst 2 (nI 0) dX3_compare_1 (by decide) rfl ?_
  refine ev_putI 5 dX3_compare_2 rfl flX3_23 fiX3_3 rfl rfl ?_
  refine ev_aload_n 6 dX3_compare_5 rfl rfl ?_
  refine ev_iconst 7 (nI 0) dX3_compare_6 (by decide) rfl ?_
  refine ev_putI 10 dX3_compare_7 rfl flX3_26 fiX3_4 rfl rfl ?_
  refine ev_iconst 11 (nI 0) dX3_compare_10 (by decide) rfl ?_
  refine ev_istore_n 12 _ dX3_compare_11 (by decide) rfl rfl rfl ?_
  have hs : CmpS M (mst (mst M 9 3 (nI 0)) 9 4 (nI 0)) (0, 0) := by
    refine ⟨fun k hk => by rw [mst_other _ _ _ hk, mst_other _ _ _ hk], ?_, ?_, ?_⟩
    · rw [mst_same, upd, if_neg (by decide), mst_same, upd, if_neg (by decide)]
    · rw [mst_same, upd, if_neg (by decide), mst_same, upd, if_pos rfl]; rfl
    · rw [mst_same, upd, if_pos rfl]
  have := s_X3_compare_k hl hb l.length 0 _ _ .null (by omega) hs
  rw [List.drop_zero] at this
  exact this
def Sm22 (M M1 : Mm) : Prop := ∀ k, k ≠ 22 → k ≠ 23 → M1 k = M k
def spkF (l : List Nat) (x : Nat) : List Nat := if x ∈ l then l else if l.length < 24 then l ++ [x] else l
theorem mem_nth {l : List Nat} {x : Nat} : x ∈ l ↔ ∃ i, i < l.length ∧ nth l i = x := by
  constructor
  · intro h
    obtain ⟨i, hi, e⟩ := List.mem_iff_getElem.mp h
    exact ⟨i, hi, by simp [nth, List.getElem?_eq_getElem hi, e]⟩
  · rintro ⟨i, hi, rfl⟩
    exact getD_mem hi
theorem s_X4_add_k {M : Mm} {l : List Nat} {x : Nat} (hl : rowAt M 23 22 1 l) (hx : x < 24) (hbl : ∀ y ∈ l, y < 24) : ∀ d i, i + d = l.length → (∀ j, j < i → nth l j ≠ x) → Ev XSh mX4_add 2 [.ref 22, .int (nI x), .int (nI i)] [] M (fun r M2 => r = none ∧ Sm22 M M2 ∧ rowAt M2 23 22 1 (spkF l x))
  | 0, i, h, hk => by
    have hle := hl.2.1
    refine ev_iload_n 3 dX4_add_2 rfl rfl ?_
    refine ev_aload_n 4 dX4_add_3 rfl rfl ?_
    refine ev_getIv 7 (nI l.length) dX4_add_4 rfl flX4_15 rfl rfl hl.1 ?_
    refine ev_icmp_geN 10 27 dX4_add_7 (by decide) rfl (by omega) (by omega) (fun c7 => ?_) (fun c7 => ?_)
    · have hno : x ∉ l := fun z => by
        obtain ⟨j, hj, e⟩ := mem_nth.mp z
        exact hk j (by omega) e
      refine ev_aload_n 28 dX4_add_27 rfl rfl ?_
      refine ev_getIv 31 (nI l.length) dX4_add_28 rfl flX4_15 rfl rfl hl.1 ?_
      refine ev_bipush 33 (nI 24) dX4_add_31 (by decide) rfl ?_
      refine ev_icmp_geN 36 56 dX4_add_33 (by decide) rfl (by omega) (by omega) (fun c33 => ?_) (fun c33 => ?_)
      · exact ev_vret dX4_add_56 rfl (⟨rfl, fun _ _ _ => rfl, by rw [spkF, if_neg hno, if_neg (by omega)]; exact hl⟩)
      · refine ev_aload_n 37 dX4_add_36 rfl rfl ?_
        refine ev_getR 40 dX4_add_37 rfl flX4_9 rfl rfl ?_
        refine ev_aload_n 41 dX4_add_40 rfl rfl ?_
        refine ev_getIv 44 (nI l.length) dX4_add_41 rfl flX4_15 rfl rfl hl.1 ?_
        refine ev_iload_n 45 dX4_add_44 rfl rfl ?_
        refine ev_iaS 46 dX4_add_45 rfl (by omega) (by decide) rfl ?_
        refine ev_aload_n 47 dX4_add_46 rfl rfl ?_
        refine ev_dup 48 dX4_add_47 rfl rfl ?_
        refine ev_getIv 51 (nI l.length) dX4_add_48 rfl flX4_15 rfl rfl (by rw [mst_other _ _ _ (by decide)]; exact hl.1) ?_
        refine ev_iconst 52 (nI 1) dX4_add_51 (by decide) rfl ?_
        refine ev_iaddN 53 dX4_add_52 rfl ?_
        refine ev_putI 56 dX4_add_53 rfl flX4_15 fiX4_1 rfl rfl ?_
        exact ev_vret dX4_add_56 rfl (⟨rfl, fun k h1 h2 => by rw [mst_other _ _ _ h1, mst_other _ _ _ h2], by rw [spkF, if_neg hno, if_pos (by omega)]; exact hl.push (by decide) (by omega)⟩)
    · omega
  | d + 1, i, h, hk => by
    have hle := hl.2.1
    refine ev_iload_n 3 dX4_add_2 rfl rfl ?_
    refine ev_aload_n 4 dX4_add_3 rfl rfl ?_
    refine ev_getIv 7 (nI l.length) dX4_add_4 rfl flX4_15 rfl rfl hl.1 ?_
    refine ev_icmp_geN 10 27 dX4_add_7 (by decide) rfl (by omega) (by omega) (fun c7 => ?_) (fun c7 => ?_)
    · omega
    · refine ev_aload_n 11 dX4_add_10 rfl rfl ?_
      refine ev_getR 14 dX4_add_11 rfl flX4_9 rfl rfl ?_
      refine ev_iload_n 15 dX4_add_14 rfl rfl ?_
      refine ev_iaN 16 (nI (nth l i)) dX4_add_15 rfl (by omega) (by decide) rfl (hl.2.2 i (by omega)) ?_
      refine ev_iload_n 17 dX4_add_16 rfl rfl ?_
      refine ev_icmp_neN 20 21 dX4_add_17 (by decide) rfl (Nat.lt_trans (hbl _ (getD_mem (by omega))) (by omega)) (by omega) (fun c17 => ?_) (fun c17 => ?_)
      · refine ev_iincN 24 _ dX4_add_21 rfl (by decide) rfl rfl rfl ?_
        refine ev_goto 2 dX4_add_24 (by decide) ?_
        exact s_X4_add_k hl hx hbl d (i + 1) (by omega) (fun j hj => by
          by_cases e : j = i
          · rw [e]; exact c17
          · exact hk j (by omega))
      · exact ev_vret dX4_add_20 rfl (⟨rfl, fun _ _ _ => rfl, by rw [spkF, if_pos (by rw [← c17]; exact getD_mem (by omega))]; exact hl⟩)
theorem s_X4_add {M : Mm} {l : List Nat} {x : Nat} (hl : rowAt M 23 22 1 l) (hx : x < 24) (hbl : ∀ y ∈ l, y < 24) : Ct XSh mX4_add [.ref 22, .int (nI x)] M (fun r M2 => r = none ∧ Sm22 M M2 ∧ rowAt M2 23 22 1 (spkF l x)) := by
  show Ev _ _ 0 [.ref 22, .int (nI x), .null] [] M _
  refine ev_iconst 1 (nI 0) dX4_add_0 (by decide) rfl ?_
  refine ev_istore_n 2 _ dX4_add_1 (by decide) rfl rfl rfl ?_
  exact s_X4_add_k hl hx hbl l.length 0 (by omega) (fun j hj => by omega)
def hdF (l : List Nat) : Int32 := match l with
  | [] => -1
  | x :: _ => nI x
def ShF (M M1 : Mm) (l : List Nat) (i : Nat) : Prop := Sm22 M M1 ∧ M1 22 1 = nI (l.length - 1) ∧ (∀ j, j < i → M1 23 j = nI (nth l (j + 1))) ∧ ∀ j, i ≤ j → M1 23 j = M 23 j
theorem s_X4_takeFirst_k {M : Mm} {l : List Nat} (hl : rowAt M 23 22 1 l) (hne : l.length ≠ 0) (y : Int32) : ∀ d i (M1 : Mm), i + d = l.length - 1 → ShF M M1 l i → Ev XSh mX4_takeFirst 28 [.ref 22, .int y, .int (nI i)] [] M1 (fun r M2 => r = some (.int y) ∧ Sm22 M M2 ∧ rowAt M2 23 22 1 l.tail)
  | 0, i, M1, h, hs => by
    have hle := hl.2.1
    have hi : i = l.length - 1 := by omega
    subst hi
    refine ev_iload_n 29 dX4_takeFirst_28 rfl rfl ?_
    refine ev_aload_n 30 dX4_takeFirst_29 rfl rfl ?_
    refine ev_getIv 33 (nI (l.length - 1)) dX4_takeFirst_30 rfl flX4_15 rfl rfl hs.2.1 ?_
    refine ev_icmp_geN 36 56 dX4_takeFirst_33 (by decide) rfl (by omega) (by omega) (fun c33 => ?_) (fun c33 => ?_)
    · refine ev_iload_n 57 dX4_takeFirst_56 rfl rfl ?_
      exact ev_iret dX4_takeFirst_57 rfl (⟨rfl, hs.1, by rw [show l.tail.length = l.length - 1 from List.length_tail]; exact hs.2.1, by rw [List.length_tail]; omega, fun j hj => by rw [List.length_tail] at hj; rw [hs.2.2.1 j (by omega)]; simp [nth]⟩)
    · omega
  | d + 1, i, M1, h, hs => by
    have hle := hl.2.1
    refine ev_iload_n 29 dX4_takeFirst_28 rfl rfl ?_
    refine ev_aload_n 30 dX4_takeFirst_29 rfl rfl ?_
    refine ev_getIv 33 (nI (l.length - 1)) dX4_takeFirst_30 rfl flX4_15 rfl rfl hs.2.1 ?_
    refine ev_icmp_geN 36 56 dX4_takeFirst_33 (by decide) rfl (by omega) (by omega) (fun c33 => ?_) (fun c33 => ?_)
    · omega
    · refine ev_aload_n 37 dX4_takeFirst_36 rfl rfl ?_
      refine ev_getR 40 dX4_takeFirst_37 rfl flX4_9 rfl rfl ?_
      refine ev_iload_n 41 dX4_takeFirst_40 rfl rfl ?_
      refine ev_aload_n 42 dX4_takeFirst_41 rfl rfl ?_
      refine ev_getR 45 dX4_takeFirst_42 rfl flX4_9 rfl rfl ?_
      refine ev_iload_n 46 dX4_takeFirst_45 rfl rfl ?_
      refine ev_iconst 47 (nI 1) dX4_takeFirst_46 (by decide) rfl ?_
      refine ev_iaddN 48 dX4_takeFirst_47 rfl ?_
      refine ev_iaN 49 (nI (nth l (i + 1))) dX4_takeFirst_48 rfl (by omega) (by decide) rfl (by rw [hs.2.2.2 (i + 1) (by omega)]; exact hl.2.2 (i + 1) (by omega)) ?_
      refine ev_iaS 50 dX4_takeFirst_49 rfl (by omega) (by decide) rfl ?_
      refine ev_iincN 53 _ dX4_takeFirst_50 rfl (by decide) rfl rfl rfl ?_
      refine ev_goto 28 dX4_takeFirst_53 (by decide) ?_
      refine s_X4_takeFirst_k hl hne y d (i + 1) _ (by omega) ⟨fun k h1 h2 => by rw [mst_other _ _ _ h2]; exact hs.1 k h1 h2, by rw [mst_other _ _ _ (by decide)]; exact hs.2.1, fun j hj => ?_, fun j hj => ?_⟩
      · rw [mst_same, upd]
        by_cases e : j = i
        · rw [if_pos e, e]
        · rw [if_neg e]; exact hs.2.2.1 j (by omega)
      · rw [mst_same, upd, if_neg (by omega)]; exact hs.2.2.2 j (by omega)
theorem s_X4_takeFirst {M : Mm} {l : List Nat} (hl : rowAt M 23 22 1 l) : Ct XSh mX4_takeFirst [.ref 22] M (fun r M2 => r = some (.int (hdF l)) ∧ Sm22 M M2 ∧ rowAt M2 23 22 1 l.tail) := by
  have hle := hl.2.1
  show Ev _ _ 0 [.ref 22, .null, .null] [] M _
  refine ev_aload_n 1 dX4_takeFirst_0 rfl rfl ?_
  refine ev_getIv 4 (nI l.length) dX4_takeFirst_1 rfl flX4_15 rfl rfl hl.1 ?_
  refine ev_if_neN 7 9 dX4_takeFirst_4 (by decide) rfl (by omega) (fun c4 => ?_) (fun c4 => ?_)
  · refine ev_aload_n 10 dX4_takeFirst_9 rfl rfl ?_
    refine ev_getR 13 dX4_takeFirst_10 rfl flX4_9 rfl rfl ?_
    refine ev_iconst 14 (nI 0) dX4_takeFirst_13 (by decide) rfl ?_
    refine ev_iaN 15 (nI (nth l 0)) dX4_takeFirst_14 rfl (by decide) (by decide) rfl (hl.2.2 0 (by omega)) ?_
    refine ev_istore_n 16 _ dX4_takeFirst_15 (by decide) rfl rfl rfl ?_
    refine ev_aload_n 17 dX4_takeFirst_16 rfl rfl ?_
    refine ev_dup 18 dX4_takeFirst_17 rfl rfl ?_
    refine ev_getIv 21 (nI l.length) dX4_takeFirst_18 rfl flX4_15 rfl rfl hl.1 ?_
    refine ev_iconst 22 (nI 1) dX4_takeFirst_21 (by decide) rfl ?_
    refine ev_isubN 23 dX4_takeFirst_22 (by omega) rfl ?_
    refine ev_putI 26 dX4_takeFirst_23 rfl flX4_15 fiX4_1 rfl rfl ?_
    refine ev_iconst 27 (nI 0) dX4_takeFirst_26 (by decide) rfl ?_
    refine ev_istore_n 28 _ dX4_takeFirst_27 (by decide) rfl rfl rfl ?_
    have e : hdF l = nI (nth l 0) := by
      cases l with
      | nil => exact absurd rfl c4
      | cons a t => rfl
    rw [e]
    exact s_X4_takeFirst_k hl c4 _ (l.length - 1) 0 _ (by omega) ⟨fun k h1 h2 => mst_other _ _ _ h1, by rw [mst_same, upd, if_pos rfl], fun j hj => by omega, fun j hj => by rw [mst_other _ _ _ (by decide)]⟩
  · refine ev_iconst 8 (-1) dX4_takeFirst_7 (by decide) rfl ?_
    exact ev_iret dX4_takeFirst_8 rfl (⟨by rw [List.length_eq_zero_iff.mp c4]; rfl, fun _ _ _ => rfl, by rw [List.length_eq_zero_iff.mp c4] at hl ⊢; exact hl⟩)
end
section
/-! Stops -/
def rkN (h : Nat → Int32) (a : Nat) : Nat := if (h (a * 18 + 6)).toNatClampNeg = 0 then 101 else (h (a * 18 + 6)).toNatClampNeg
def plOK (h : Nat → Int32) (a : Nat) : Prop := ∃ v, v ≤ 100 ∧ h (a * 18 + 6) = nI v
theorem rkN_le {h : Nat → Int32} {a : Nat} (hp : plOK h a) : rkN h a ≤ 101 := by
  obtain ⟨v, hv, e⟩ := hp
  rw [rkN, e, nI_clamp (by omega)]
  split <;> omega
def insAt (h : Nat → Int32) (x : Nat) (l : List Nat) : Nat → Nat
  | 0 => 0
  | k + 1 => if rkN h x < rkN h (nth l k) then insAt h x l k else k + 1
theorem insAt_le (h : Nat → Int32) (x : Nat) (l : List Nat) : ∀ k, insAt h x l k ≤ k
  | 0 => Nat.le_refl _
  | k + 1 => by
    have := insAt_le h x l k
    unfold insAt
    split <;> omega
def insL (h : Nat → Int32) (l : List Nat) (x : Nat) : List Nat := l.take (insAt h x l l.length) ++ x :: l.drop (insAt h x l l.length)
theorem insL_len (h : Nat → Int32) (l : List Nat) (x : Nat) : (insL h l x).length = l.length + 1 := by
  have := insAt_le h x l l.length
  simp [insL]
  omega
theorem nth_ins {l : List Nat} {x k i : Nat} (hk : k ≤ l.length) : nth (l.take k ++ x :: l.drop k) i = if i < k then nth l i else if i = k then x else nth l (i - 1) := by
  unfold nth
  rcases Nat.lt_trichotomy i k with q | q | q
  · rw [if_pos q, List.getD_eq_getElem?_getD, List.getD_eq_getElem?_getD, List.getElem?_append_left (by simp; omega), List.getElem?_take_of_lt q]
  · subst q
    simp [List.getElem?_append_right, Nat.min_eq_left hk]
  · rw [if_neg (by omega), if_neg (by omega), List.getD_eq_getElem?_getD, List.getD_eq_getElem?_getD, List.getElem?_append_right (by simp; omega)]
    have e1 : i - (l.take k).length = (i - k - 1) + 1 := by simp; omega
    rw [e1, List.getElem?_cons_succ, List.getElem?_drop]
    congr 2
    omega
theorem ins_len {l : List Nat} {x k : Nat} (hk : k ≤ l.length) : (l.take k ++ x :: l.drop k).length = l.length + 1 := by
  simp
  omega
def Sm11 (M M1 : Mm) : Prop := ∀ k, k ≠ 11 → k ≠ 12 → M1 k = M k

theorem s_X5_rank {M : Mm} {a : Nat} (ha : a < 24) (hp : plOK (M 1) a) : Ct XSh mX5_rank [.ref 11, .int (nI a)] M (RetI (nI (rkN (M 1) a)) M) := by
  obtain ⟨v, hv, e⟩ := hp
  show Ev _ _ 0 [.ref 11, .int (nI a), .null] [] M _
  refine ev_aload_n 1 dX5_rank_0 rfl rfl ?_
  refine ev_getR 4 dX5_rank_1 rfl flX5_15 rfl rfl ?_
  refine ev_iload_n 5 dX5_rank_4 rfl rfl ?_
  refine ev_bipush 7 (nI 6) dX5_rank_5 (by decide) rfl ?_
  refine ev_cV2I (nI v) M 10 dX5_rank_7 mlX5_29 moX2_get rfl imX2_get ⟨_, _, rfl, rfl, rfl⟩ (Nat.le_of_ble_eq_true rfl) (Nat.le_of_ble_eq_true rfl) rfl (by rw [← e]; exact s_X2_get (a := a) (b := 6) ha (by omega)) ?_
  refine ev_istore_n 11 _ dX5_rank_10 (by decide) rfl rfl rfl ?_
  refine ev_iload_n 12 dX5_rank_11 rfl rfl ?_
  refine ev_if_neN 15 20 dX5_rank_12 (by decide) rfl (by omega) (fun c12 => ?_) (fun c12 => ?_)
  · refine ev_iload_n 21 dX5_rank_20 rfl rfl ?_
    exact ev_iret dX5_rank_21 rfl (⟨by rw [rkN, e, nI_clamp (by omega), if_neg c12], rfl⟩)
  · refine ev_bipush 17 (nI 101) dX5_rank_15 (by decide) rfl ?_
    refine ev_goto 21 dX5_rank_17 (by decide) ?_
    exact ev_iret dX5_rank_21 rfl (⟨by rw [rkN, e, nI_clamp (by omega), if_pos c12], rfl⟩)
def InsS (M M1 : Mm) (l : List Nat) (k : Nat) : Prop := Sm11 M M1 ∧ M1 11 2 = M 11 2 ∧ (∀ j, j < k → M1 12 j = nI (nth l j)) ∧ ∀ j, k ≤ j → j < l.length → M1 12 (j + 1) = nI (nth l j)
theorem s_X5_insert_fin {M M1 : Mm} {l : List Nat} {x k : Nat} (hl : rowAt M 12 11 2 l) (hlen : l.length < 24) (hk : k ≤ l.length) (hs : InsS M M1 l k) : Ev XSh mX5_insert 49 [.ref 11, .int (nI x), .int (nI k)] [] M1 (fun r M2 => r = none ∧ Sm11 M M2 ∧ rowAt M2 12 11 2 (l.take k ++ x :: l.drop k)) := by
  refine ev_aload_n 50 dX5_insert_49 rfl rfl ?_
  refine ev_getR 53 dX5_insert_50 rfl flX5_9 rfl rfl ?_
  refine ev_iload_n 54 dX5_insert_53 rfl rfl ?_
  refine ev_iload_n 55 dX5_insert_54 rfl rfl ?_
  refine ev_iaS 56 dX5_insert_55 rfl (by omega) (by decide) rfl ?_
  refine ev_aload_n 57 dX5_insert_56 rfl rfl ?_
  refine ev_dup 58 dX5_insert_57 rfl rfl ?_
  refine ev_getIv 61 (nI l.length) dX5_insert_58 rfl flX5_19 rfl rfl (by rw [mst_other _ _ _ (by decide), hs.2.1]; exact hl.1) ?_
  refine ev_iconst 62 (nI 1) dX5_insert_61 (by decide) rfl ?_
  refine ev_iaddN 63 dX5_insert_62 rfl ?_
  refine ev_putI 66 dX5_insert_63 rfl flX5_19 fiX5_2 rfl rfl ?_
  exact ev_vret dX5_insert_66 rfl (⟨rfl, fun q h1 h2 => by rw [mst_other _ _ _ h1, mst_other _ _ _ h2]; exact hs.1 q h1 h2, by rw [mst_same, upd, if_pos rfl, ins_len hk], by rw [ins_len hk]; omega, fun i hi => by
    rw [mst_other _ _ _ (by decide), mst_same, upd, nth_ins hk]
    rw [ins_len hk] at hi
    rcases Nat.lt_trichotomy i k with q | q | q
    · rw [if_neg (by omega), if_pos q]; exact hs.2.2.1 i q
    · rw [if_pos q, if_neg (by omega), if_pos q]
    · rw [if_neg (by omega), if_neg (by omega), if_neg (by omega)]
      have := hs.2.2.2 (i - 1) (by omega) (by omega)
      rwa [show i - 1 + 1 = i by omega] at this⟩)
theorem s_X5_insert_k {M : Mm} {l : List Nat} {x : Nat} (hl : rowAt M 12 11 2 l) (hlen : l.length < 24) (hb : ∀ y ∈ l, y < 24) (hp : ∀ y ∈ l, plOK (M 1) y) (hx : x < 24) (hpx : plOK (M 1) x) : ∀ k (M1 : Mm), k ≤ l.length → InsS M M1 l k → Ev XSh mX5_insert 5 [.ref 11, .int (nI x), .int (nI k)] [] M1 (fun r M2 => r = none ∧ Sm11 M M2 ∧ rowAt M2 12 11 2 (l.take (insAt (M 1) x l k) ++ x :: l.drop (insAt (M 1) x l k)))
  | 0, M1, hk, hs => by
    refine ev_iload_n 6 dX5_insert_5 rfl rfl ?_
    refine ev_if_leN 9 49 dX5_insert_6 (by decide) rfl (by omega) (fun c6 => ?_) (fun c6 => ?_)
    · exact s_X5_insert_fin hl hlen (by omega) hs
    · exact absurd rfl c6
  | k + 1, M1, hk, hs => by
    have hr1 := rkN_le hpx
    have hr2 := rkN_le (hp _ (getD_mem (show k < l.length by omega)))
    refine ev_iload_n 6 dX5_insert_5 rfl rfl ?_
    refine ev_if_leN 9 49 dX5_insert_6 (by decide) rfl (by omega) (fun c6 => ?_) (fun c6 => ?_)
    · exact absurd c6 (by omega)
    · refine ev_aload_n 10 dX5_insert_9 rfl rfl ?_
      refine ev_iload_n 11 dX5_insert_10 rfl rfl ?_
      refine ev_cV1I (nI (rkN (M 1) x)) M1 14 dX5_insert_11 mlX5_37 moX5_rank rfl imX5_rank ⟨_, _, rfl, rfl, rfl⟩ (Nat.le_of_ble_eq_true rfl) (Nat.le_of_ble_eq_true rfl) rfl (by have e1 := hs.1 1 (by decide) (by decide); rw [← e1]; exact s_X5_rank hx (by rw [e1]; exact hpx)) ?_
      refine ev_aload_n 15 dX5_insert_14 rfl rfl ?_
      refine ev_aload_n 16 dX5_insert_15 rfl rfl ?_
      refine ev_getR 19 dX5_insert_16 rfl flX5_9 rfl rfl ?_
      refine ev_iload_n 20 dX5_insert_19 rfl rfl ?_
      refine ev_iconst 21 (nI 1) dX5_insert_20 (by decide) rfl ?_
      refine ev_isubN 22 dX5_insert_21 (by omega) rfl ?_
      refine ev_iaN 23 (nI (nth l k)) dX5_insert_22 rfl (by omega) (by decide) rfl (hs.2.2.1 k (by omega)) ?_
      refine ev_cV1I (nI (rkN (M 1) (nth l k))) M1 26 dX5_insert_23 mlX5_37 moX5_rank rfl imX5_rank ⟨_, _, rfl, rfl, rfl⟩ (Nat.le_of_ble_eq_true rfl) (Nat.le_of_ble_eq_true rfl) rfl (by have e1 := hs.1 1 (by decide) (by decide); rw [← e1]; exact s_X5_rank (hb _ (getD_mem (by omega))) (by rw [e1]; exact (hp _ (getD_mem (by omega))))) ?_
      refine ev_icmp_geN 29 49 dX5_insert_26 (by decide) rfl (by omega) (by omega) (fun c26 => ?_) (fun c26 => ?_)
      · rw [show insAt (M 1) x l (k + 1) = k + 1 from by rw [insAt, if_neg (by omega)]]
        exact s_X5_insert_fin hl hlen hk hs
      · refine ev_aload_n 30 dX5_insert_29 rfl rfl ?_
        refine ev_getR 33 dX5_insert_30 rfl flX5_9 rfl rfl ?_
        refine ev_iload_n 34 dX5_insert_33 rfl rfl ?_
        refine ev_aload_n 35 dX5_insert_34 rfl rfl ?_
        refine ev_getR 38 dX5_insert_35 rfl flX5_9 rfl rfl ?_
        refine ev_iload_n 39 dX5_insert_38 rfl rfl ?_
        refine ev_iconst 40 (nI 1) dX5_insert_39 (by decide) rfl ?_
        refine ev_isubN 41 dX5_insert_40 (by omega) rfl ?_
        refine ev_iaN 42 (nI (nth l k)) dX5_insert_41 rfl (by omega) (by decide) rfl (hs.2.2.1 k (by omega)) ?_
        refine ev_iaS 43 dX5_insert_42 rfl (by omega) (by decide) rfl ?_
        refine ev_iincD 46 _ dX5_insert_43 rfl (by decide) rfl rfl rfl ?_
        refine ev_goto 5 dX5_insert_46 (by decide) ?_
        rw [show insAt (M 1) x l (k + 1) = insAt (M 1) x l k from by rw [insAt, if_pos (by omega)]]
        refine s_X5_insert_k hl hlen hb hp hx hpx k _ (by omega) ⟨fun q h1 h2 => by rw [mst_other _ _ _ h2]; exact hs.1 q h1 h2, by rw [mst_other _ _ _ (by decide)]; exact hs.2.1, fun j hj => ?_, fun j h1 h2 => ?_⟩
        · rw [mst_same, upd, if_neg (by omega)]; exact hs.2.2.1 j (by omega)
        · rw [mst_same, upd]
          by_cases e : j = k
          · rw [if_pos (by omega), e]
          · rw [if_neg (by omega)]; exact hs.2.2.2 j (by omega) h2
theorem s_X5_insert {M : Mm} {l : List Nat} {x : Nat} (hl : rowAt M 12 11 2 l) (hlen : l.length < 24) (hb : ∀ y ∈ l, y < 24) (hp : ∀ y ∈ l, plOK (M 1) y) (hx : x < 24) (hpx : plOK (M 1) x) : Ct XSh mX5_insert [.ref 11, .int (nI x)] M (fun r M2 => r = none ∧ Sm11 M M2 ∧ rowAt M2 12 11 2 (insL (M 1) l x)) := by
  show Ev _ _ 0 [.ref 11, .int (nI x), .null] [] M _
  refine ev_aload_n 1 dX5_insert_0 rfl rfl ?_
  refine ev_getIv 4 (nI l.length) dX5_insert_1 rfl flX5_19 rfl rfl hl.1 ?_
  refine ev_istore_n 5 _ dX5_insert_4 (by decide) rfl rfl rfl ?_
  exact s_X5_insert_k hl hlen hb hp hx hpx l.length M (Nat.le_refl _) ⟨fun _ _ _ => rfl, rfl, fun j hj => hl.2.2 j hj, fun j h1 h2 => by omega⟩
def stK (h : Nat → Int32) (a : Nat) : Bool := (h (a * 18 + 10) == nI 2) || (h (a * 18 + 10) == nI 3)
def arrF (h : Nat → Int32) (ol : List Nat) : List Nat := (ol.filter (stK h)).foldl (insL h) []
theorem arrF_snoc {h : Nat → Int32} {ol : List Nat} {i : Nat} (hi : i < ol.length) : arrF h (ol.take (i + 1)) = if stK h (nth ol i) then insL h (arrF h (ol.take i)) (nth ol i) else arrF h (ol.take i) := by
  rw [take_snoc hi, arrF, List.filter_append, List.foldl_append, ← arrF]
  cases hb : stK h (nth ol i) <;> simp [List.filter, hb]
theorem insL_mem {h : Nat → Int32} {l : List Nat} {x y : Nat} : y ∈ insL h l x ↔ y = x ∨ y ∈ l := by
  unfold insL
  rw [List.mem_append, List.mem_cons]
  constructor
  · rintro (z | z | z)
    · exact Or.inr (List.mem_of_mem_take z)
    · exact Or.inl z
    · exact Or.inr (List.mem_of_mem_drop z)
  · rintro (z | z)
    · exact Or.inr (Or.inl z)
    · rw [← List.take_append_drop (insAt h x l l.length) l, List.mem_append] at z
      exact z.elim Or.inl (fun q => Or.inr (Or.inr q))
theorem foldl_ins_mem {h : Nat → Int32} {y : Nat} : ∀ (s l : List Nat), y ∈ s.foldl (insL h) l ↔ y ∈ s ∨ y ∈ l
  | [], l => by simp
  | x :: s, l => by
    rw [List.foldl_cons, foldl_ins_mem s, insL_mem, List.mem_cons]
    constructor
    · rintro (z | z | z)
      · exact Or.inl (Or.inr z)
      · exact Or.inl (Or.inl z)
      · exact Or.inr z
    · rintro ((z | z) | z)
      · exact Or.inr (Or.inl z)
      · exact Or.inl z
      · exact Or.inr (Or.inr z)
theorem foldl_ins_len {h : Nat → Int32} : ∀ (s l : List Nat), (s.foldl (insL h) l).length = s.length + l.length
  | [], l => by simp
  | x :: s, l => by rw [List.foldl_cons, foldl_ins_len s, insL_len, List.length_cons]; omega
theorem arrF_mem {h : Nat → Int32} {ol : List Nat} {y : Nat} : y ∈ arrF h ol ↔ y ∈ ol ∧ stK h y = true := by
  rw [arrF, foldl_ins_mem, List.mem_filter]; simp
theorem arrF_len (h : Nat → Int32) (ol : List Nat) : (arrF h ol).length ≤ ol.length := by
  rw [arrF, foldl_ins_len]
  simpa using List.length_filter_le _ _

theorem s_X5_arrange_k {M : Mm} {ol : List Nat} (ho : rowAt M 5 0 5 ol) (hb : ∀ x ∈ ol, x < 24) (hp : ∀ x ∈ ol, plOK (M 1) x) : ∀ d i (M1 : Mm) (v w : Value), i + d = ol.length → Sm11 M M1 → rowAt M1 12 11 2 (arrF (M 1) (ol.take i)) → Ev XSh mX5_arrange 7 [.ref 11, .int (nI i), v, w] [] M1 (fun r M2 => r = none ∧ Sm11 M M2 ∧ rowAt M2 12 11 2 (arrF (M 1) ol))
  | 0, i, M1, v, w, h, hm, hr => by
    have hs1 : M1 0 5 = nI ol.length := by rw [hm 0 (by decide) (by decide)]; exact ho.1
    have hol := ho.2.1
    refine ev_iload_n 8 dX5_arrange_7 rfl rfl ?_
    refine ev_aload_n 9 dX5_arrange_8 rfl rfl ?_
    refine ev_getR 12 dX5_arrange_9 rfl flX5_15 rfl rfl ?_
    refine ev_getIv 15 (nI ol.length) dX5_arrange_12 rfl flX5_23 rfl rfl hs1 ?_
    refine ev_icmp_geN 18 60 dX5_arrange_15 (by decide) rfl (by omega) (by omega) (fun c15 => ?_) (fun c15 => ?_)
    · exact ev_vret dX5_arrange_60 rfl (⟨rfl, hm, by rw [List.take_of_length_le (by omega)] at hr; exact hr⟩)
    · omega
  | d + 1, i, M1, v, w, h, hm, hr => by
    have hs1 : M1 0 5 = nI ol.length := by rw [hm 0 (by decide) (by decide)]; exact ho.1
    have hol := ho.2.1
    have hx : nth ol i < 24 := hb _ (getD_mem (by omega))
    have e1 : M1 1 = M 1 := hm 1 (by decide) (by decide)
    have hlen : (arrF (M 1) (ol.take i)).length ≤ i := Nat.le_trans (arrF_len _ _) (by simp; omega)
    refine ev_iload_n 8 dX5_arrange_7 rfl rfl ?_
    refine ev_aload_n 9 dX5_arrange_8 rfl rfl ?_
    refine ev_getR 12 dX5_arrange_9 rfl flX5_15 rfl rfl ?_
    refine ev_getIv 15 (nI ol.length) dX5_arrange_12 rfl flX5_23 rfl rfl hs1 ?_
    refine ev_icmp_geN 18 60 dX5_arrange_15 (by decide) rfl (by omega) (by omega) (fun c15 => ?_) (fun c15 => ?_)
    · omega
    · refine ev_aload_n 19 dX5_arrange_18 rfl rfl ?_
      refine ev_getR 22 dX5_arrange_19 rfl flX5_15 rfl rfl ?_
      refine ev_getR 25 dX5_arrange_22 rfl flX5_26 rfl rfl ?_
      refine ev_iload_n 26 dX5_arrange_25 rfl rfl ?_
      refine ev_iaN 27 (nI (nth ol i)) dX5_arrange_26 rfl (by omega) (by decide) rfl (by rw [hm 5 (by decide) (by decide)]; exact ho.2.2 i (by omega)) ?_
      refine ev_istore_n 28 _ dX5_arrange_27 (by decide) rfl rfl rfl ?_
      refine ev_aload_n 29 dX5_arrange_28 rfl rfl ?_
      refine ev_getR 32 dX5_arrange_29 rfl flX5_15 rfl rfl ?_
      refine ev_iload_n 33 dX5_arrange_32 rfl rfl ?_
      refine ev_bipush 35 (nI 10) dX5_arrange_33 (by decide) rfl ?_
      refine ev_cV2I (M 1 (nth ol i * 18 + 10)) M1 38 dX5_arrange_35 mlX5_29 moX2_get rfl imX2_get ⟨_, _, rfl, rfl, rfl⟩ (Nat.le_of_ble_eq_true rfl) (Nat.le_of_ble_eq_true rfl) rfl (by rw [← e1]; exact s_X2_get hx (by omega)) ?_
      refine ev_istore_n 39 _ dX5_arrange_38 (by decide) rfl rfl rfl ?_
      refine ev_iload_n 40 dX5_arrange_39 rfl rfl ?_
      refine ev_iconst 41 (nI 2) dX5_arrange_40 (by decide) rfl ?_
      refine ev_icmp_eq 44 49 dX5_arrange_41 (by decide) rfl (fun c41 => ?_) (fun c41 => ?_)
      · refine ev_aload_n 50 dX5_arrange_49 rfl rfl ?_
        refine ev_iload_n 51 dX5_arrange_50 rfl rfl ?_
        refine ev_cV1 54 dX5_arrange_51 mlX5_33 moX5_insert rfl imX5_insert ⟨_, _, rfl, rfl, rfl⟩ (Nat.le_of_ble_eq_true rfl) (Nat.le_of_ble_eq_true rfl) rfl (s_X5_insert hr (by omega) (fun y hy => hb _ (List.mem_of_mem_take (arrF_mem.mp hy).1)) (fun y hy => by rw [e1]; exact hp _ (List.mem_of_mem_take (arrF_mem.mp hy).1)) hx (by rw [e1]; exact hp _ (getD_mem (by omega)))) ?_
        rintro r M2 ⟨rfl, hm2, hr2⟩
        refine ev_iincN 57 _ dX5_arrange_54 rfl (by decide) rfl rfl rfl ?_
        refine ev_goto 7 dX5_arrange_57 (by decide) ?_
        refine s_X5_arrange_k ho hb hp d (i + 1) M2 _ _ (by omega) (fun q h1 h2 => by rw [hm2 q h1 h2]; exact hm q h1 h2) ?_
        rw [arrF_snoc (by omega), if_pos (by first | (rw [stK, beq_iff_eq.mpr c41]; rfl) | (rw [stK, beq_iff_eq.mpr c46, Bool.or_true]))]
        rw [e1] at hr2
        exact hr2
      · refine ev_iload_n 45 dX5_arrange_44 rfl rfl ?_
        refine ev_iconst 46 (nI 3) dX5_arrange_45 (by decide) rfl ?_
        refine ev_icmp_ne 49 54 dX5_arrange_46 (by decide) rfl (fun c46 => ?_) (fun c46 => ?_)
        · refine ev_iincN 57 _ dX5_arrange_54 rfl (by decide) rfl rfl rfl ?_
          refine ev_goto 7 dX5_arrange_57 (by decide) ?_
          exact s_X5_arrange_k ho hb hp d (i + 1) M1 _ _ (by omega) hm (by rw [arrF_snoc (by omega), if_neg (by rw [stK, beq_eq_false_iff_ne.mpr c41, beq_eq_false_iff_ne.mpr c46]; decide)]; exact hr)
        · refine ev_aload_n 50 dX5_arrange_49 rfl rfl ?_
          refine ev_iload_n 51 dX5_arrange_50 rfl rfl ?_
          refine ev_cV1 54 dX5_arrange_51 mlX5_33 moX5_insert rfl imX5_insert ⟨_, _, rfl, rfl, rfl⟩ (Nat.le_of_ble_eq_true rfl) (Nat.le_of_ble_eq_true rfl) rfl (s_X5_insert hr (by omega) (fun y hy => hb _ (List.mem_of_mem_take (arrF_mem.mp hy).1)) (fun y hy => by rw [e1]; exact hp _ (List.mem_of_mem_take (arrF_mem.mp hy).1)) hx (by rw [e1]; exact hp _ (getD_mem (by omega)))) ?_
          rintro r M2 ⟨rfl, hm2, hr2⟩
          refine ev_iincN 57 _ dX5_arrange_54 rfl (by decide) rfl rfl rfl ?_
          refine ev_goto 7 dX5_arrange_57 (by decide) ?_
          refine s_X5_arrange_k ho hb hp d (i + 1) M2 _ _ (by omega) (fun q h1 h2 => by rw [hm2 q h1 h2]; exact hm q h1 h2) ?_
          rw [arrF_snoc (by omega), if_pos (by first | (rw [stK, beq_iff_eq.mpr c41]; rfl) | (rw [stK, beq_iff_eq.mpr c46, Bool.or_true]))]
          rw [e1] at hr2
          exact hr2
theorem s_X5_arrange {M : Mm} {ol : List Nat} (ho : rowAt M 5 0 5 ol) (hb : ∀ x ∈ ol, x < 24) (hp : ∀ x ∈ ol, plOK (M 1) x) : Ct XSh mX5_arrange [.ref 11] M (fun r M2 => r = none ∧ Sm11 M M2 ∧ rowAt M2 12 11 2 (arrF (M 1) ol)) := by
  show Ev _ _ 0 [.ref 11, .null, .null, .null] [] M _
  refine ev_aload_n 1 dX5_arrange_0 rfl rfl ?_
  refine ev_iconst 2 (nI 0) dX5_arrange_1 (by decide) rfl ?_
  refine ev_putI 5 dX5_arrange_2 rfl flX5_19 fiX5_2 rfl rfl ?_
  refine ev_iconst 6 (nI 0) dX5_arrange_5 (by decide) rfl ?_
  refine ev_istore_n 7 _ dX5_arrange_6 (by decide) rfl rfl rfl ?_
  exact s_X5_arrange_k ho hb hp ol.length 0 _ _ _ (by omega) (fun k h1 h2 => mst_other _ _ _ h1) ⟨by rw [mst_same, upd]; rfl, by simp [arrF], fun i hi => by simp [arrF] at hi⟩
def optI (x : Option Nat) : Int32 := match x with
  | some a => nI a
  | none => -1
def fAt (l : List Nat) (sh : Int32) (k : Int32) : Int32 := if k < 0 then -1 else optI ((l.filter (bt sh))[k.toNatClampNeg]?)
theorem s_X5_at_k {M : Mm} {l : List Nat} (hl : rowAt M 12 11 2 l) (hb : ∀ x ∈ l, x < 24) (sh k : Int32) : ∀ d i q, i + d = l.length → q < 2 ^ 31 → Ev XSh mX5_at 11 [.ref 11, .int k, .int sh, .int (nI q), .int (nI i)] [] M (RetI (optI (((l.drop i).filter (bt sh))[q]?)) M)
  | 0, i, q, h, hq => by
    have hle := hl.2.1
    refine ev_iload 13 dX5_at_11 rfl rfl ?_
    refine ev_aload_n 14 dX5_at_13 rfl rfl ?_
    refine ev_getIv 17 (nI l.length) dX5_at_14 rfl flX5_19 rfl rfl hl.1 ?_
    refine ev_icmp_geN 20 55 dX5_at_17 (by decide) rfl (by omega) (by omega) (fun c17 => ?_) (fun c17 => ?_)
    · refine ev_iconst 56 (-1) dX5_at_55 (by decide) rfl ?_
      exact ev_iret dX5_at_56 rfl (⟨by rw [List.drop_of_length_le (by omega)]; rfl, rfl⟩)
    · omega
  | d + 1, i, q, h, hq => by
    have hle := hl.2.1
    have hx : nth l i < 24 := hb _ (getD_mem (by omega))
    refine ev_iload 13 dX5_at_11 rfl rfl ?_
    refine ev_aload_n 14 dX5_at_13 rfl rfl ?_
    refine ev_getIv 17 (nI l.length) dX5_at_14 rfl flX5_19 rfl rfl hl.1 ?_
    refine ev_icmp_geN 20 55 dX5_at_17 (by decide) rfl (by omega) (by omega) (fun c17 => ?_) (fun c17 => ?_)
    · omega
    · refine ev_iload_n 21 dX5_at_20 rfl rfl ?_
      refine ev_aload_n 22 dX5_at_21 rfl rfl ?_
      refine ev_getR 25 dX5_at_22 rfl flX5_9 rfl rfl ?_
      refine ev_iload 27 dX5_at_25 rfl rfl ?_
      refine ev_iaN 28 (nI (nth l i)) dX5_at_27 rfl (by omega) (by decide) rfl (hl.2.2 i (by omega)) ?_
      refine ev_cS2I (bI (bt sh (nth l i))) M 31 dX5_at_28 mlX5_41 moX7_holds rfl smX7_holds (Nat.le_of_ble_eq_true rfl) (Nat.le_of_ble_eq_true rfl) rfl (by have := s_holds (Sh := XSh) (M := M) sh (nI (nth l i)); rwa [hB_nI hx] at this) ?_
      refine ev_if_eqB 34 49 dX5_at_31 (by decide) rfl (fun c31 => ?_) (fun c31 => ?_)
      · refine ev_iincN 52 _ dX5_at_49 rfl (by decide) rfl rfl rfl ?_
        refine ev_goto 11 dX5_at_52 (by decide) ?_
        rw [drop_nth (show i < l.length by omega), List.filter_cons, if_neg (by rw [c31]; decide)]
        exact s_X5_at_k hl hb sh k d (i + 1) q (by omega) hq
      · refine ev_iload_n 35 dX5_at_34 rfl rfl ?_
        refine ev_if_neN 38 46 dX5_at_35 (by decide) rfl hq (fun c35 => ?_) (fun c35 => ?_)
        · obtain ⟨q', rfl⟩ : ∃ q', q = q' + 1 := ⟨q - 1, by omega⟩
          refine ev_iincD 49 _ dX5_at_46 rfl (by decide) rfl rfl rfl ?_
          refine ev_iincN 52 _ dX5_at_49 rfl (by decide) rfl rfl rfl ?_
          refine ev_goto 11 dX5_at_52 (by decide) ?_
          rw [drop_nth (show i < l.length by omega), List.filter_cons, if_pos c31, List.getElem?_cons_succ]
          exact s_X5_at_k hl hb sh k d (i + 1) q' (by omega) (by omega)
        · refine ev_aload_n 39 dX5_at_38 rfl rfl ?_
          refine ev_getR 42 dX5_at_39 rfl flX5_9 rfl rfl ?_
          refine ev_iload 44 dX5_at_42 rfl rfl ?_
          refine ev_iaN 45 (nI (nth l i)) dX5_at_44 rfl (by omega) (by decide) rfl (hl.2.2 i (by omega)) ?_
          exact ev_iret dX5_at_45 rfl (⟨by rw [drop_nth (show i < l.length by omega), List.filter_cons, if_pos c31, c35]; rfl, rfl⟩)
theorem s_X5_at {M : Mm} {l : List Nat} (hl : rowAt M 12 11 2 l) (hb : ∀ x ∈ l, x < 24) (sh k : Int32) : Ct XSh mX5_at [.ref 11, .int k, .int sh] M (RetI (fAt l sh k) M) := by
  show Ev _ _ 0 [.ref 11, .int k, .int sh, .null, .null] [] M _
  refine ev_iload_n 1 dX5_at_0 rfl rfl ?_
  refine ev_if_ge 4 6 dX5_at_1 (by decide) rfl (fun c1 => ?_) (fun c1 => ?_)
  · have hk0 : ¬ k < 0 := fun z => (i_lt_nle z) c1
    rw [fAt, if_neg hk0]
    obtain ⟨q, hq, rfl⟩ := nI_of hk0
    rw [nI_clamp hq]
    refine ev_iload_n 7 dX5_at_6 rfl rfl ?_
    refine ev_istore_n 8 _ dX5_at_7 (by decide) rfl rfl rfl ?_
    refine ev_iconst 9 (nI 0) dX5_at_8 (by decide) rfl ?_
    refine ev_istore 11 _ dX5_at_9 (by decide) rfl rfl rfl ?_
    have := s_X5_at_k hl hb sh (nI q) l.length 0 q (by omega) hq
    rw [List.drop_zero] at this
    exact this
  · refine ev_iconst 5 (-1) dX5_at_4 (by decide) rfl ?_
    exact ev_iret dX5_at_5 rfl (⟨by rw [fAt, if_pos (Classical.byContradiction fun z => c1 (i_nlt_le z))], rfl⟩)
def spF (l : List Nat) (x : Int32) : Nat → Int32
  | 0 => -1
  | d + 1 => if nI (nth l (l.length - (d + 1))) = x then nI (l.length - (d + 1)) else spF l x d
theorem s_X5_spotOf_k {M : Mm} {l : List Nat} (hl : rowAt M 12 11 2 l) (x : Int32) : ∀ d i, i + d = l.length → Ev XSh mX5_spotOf 2 [.ref 11, .int x, .int (nI i)] [] M (RetI (spF l x d) M)
  | 0, i, h => by
    have hle := hl.2.1
    refine ev_iload_n 3 dX5_spotOf_2 rfl rfl ?_
    refine ev_aload_n 4 dX5_spotOf_3 rfl rfl ?_
    refine ev_getIv 7 (nI l.length) dX5_spotOf_4 rfl flX5_19 rfl rfl hl.1 ?_
    refine ev_icmp_geN 10 28 dX5_spotOf_7 (by decide) rfl (by omega) (by omega) (fun c7 => ?_) (fun c7 => ?_)
    · refine ev_iconst 29 (-1) dX5_spotOf_28 (by decide) rfl ?_
      exact ev_iret dX5_spotOf_29 rfl (⟨rfl, rfl⟩)
    · omega
  | d + 1, i, h => by
    have hle := hl.2.1
    refine ev_iload_n 3 dX5_spotOf_2 rfl rfl ?_
    refine ev_aload_n 4 dX5_spotOf_3 rfl rfl ?_
    refine ev_getIv 7 (nI l.length) dX5_spotOf_4 rfl flX5_19 rfl rfl hl.1 ?_
    refine ev_icmp_geN 10 28 dX5_spotOf_7 (by decide) rfl (by omega) (by omega) (fun c7 => ?_) (fun c7 => ?_)
    · omega
    · refine ev_aload_n 11 dX5_spotOf_10 rfl rfl ?_
      refine ev_getR 14 dX5_spotOf_11 rfl flX5_9 rfl rfl ?_
      refine ev_iload_n 15 dX5_spotOf_14 rfl rfl ?_
      refine ev_iaN 16 (nI (nth l i)) dX5_spotOf_15 rfl (by omega) (by decide) rfl (hl.2.2 i (by omega)) ?_
      refine ev_iload_n 17 dX5_spotOf_16 rfl rfl ?_
      refine ev_icmp_ne 20 22 dX5_spotOf_17 (by decide) rfl (fun c17 => ?_) (fun c17 => ?_)
      · refine ev_iincN 25 _ dX5_spotOf_22 rfl (by decide) rfl rfl rfl ?_
        refine ev_goto 2 dX5_spotOf_25 (by decide) ?_
        rw [spF, if_neg (by rw [show l.length - (d + 1) = i by omega]; exact c17)]
        exact s_X5_spotOf_k hl x d (i + 1) (by omega)
      · refine ev_iload_n 21 dX5_spotOf_20 rfl rfl ?_
        exact ev_iret dX5_spotOf_21 rfl (⟨by rw [spF, show l.length - (d + 1) = i by omega, if_pos c17], rfl⟩)
theorem s_X5_spotOf {M : Mm} {l : List Nat} (hl : rowAt M 12 11 2 l) (x : Int32) : Ct XSh mX5_spotOf [.ref 11, .int x] M (RetI (spF l x l.length) M) := by
  show Ev _ _ 0 [.ref 11, .int x, .null] [] M _
  refine ev_iconst 1 (nI 0) dX5_spotOf_0 (by decide) rfl ?_
  refine ev_istore_n 2 _ dX5_spotOf_1 (by decide) rfl rfl rfl ?_
  exact s_X5_spotOf_k hl x l.length 0 (by omega)
def nxB (len k : Nat) : Nat := if k < len then k else 0
def nxA (len k : Nat) : Nat := if 2 ≤ k then k - 2 else len - 1
theorem pm_1 (k : Nat) : pm k + nI 1 = nI k := by
  cases k with
  | zero => decide +kernel
  | succ k => rw [pm_s, nI_add]
theorem pm_pos {k : Nat} (hk : k ≤ 24) : pm k ≤ 0 ↔ k < 2 := by
  cases k with
  | zero => rw [pm_0]; exact ⟨fun _ => by omega, fun _ => by decide⟩
  | succ k =>
    rw [pm_s, show (0 : Int32) = nI 0 from rfl, nI_leI (by omega) (by omega)]
    omega
theorem s_X5_spotBehind {M : Mm} {l : List Nat} (hl : rowAt M 12 11 2 l) {k : Nat} (hk : k ≤ 24) : Ct XSh mX5_spotBehind [.ref 11, .int (pm k)] M (RetI (nI (nxB l.length k)) M) := by
  have hle := hl.2.1
  show Ev _ _ 0 [.ref 11, .int (pm k)] [] M _
  refine ev_iload_n 1 dX5_spotBehind_0 rfl rfl ?_
  refine ev_iconst 2 (nI 1) dX5_spotBehind_1 (by decide) rfl ?_
  refine ev_iadd 3 dX5_spotBehind_2 rfl ?_
  refine ev_eqI (pm_1 k) ?_
  refine ev_aload_n 4 dX5_spotBehind_3 rfl rfl ?_
  refine ev_getIv 7 (nI l.length) dX5_spotBehind_4 rfl flX5_19 rfl rfl hl.1 ?_
  refine ev_icmp_geN 10 16 dX5_spotBehind_7 (by decide) rfl (by omega) (by omega) (fun c7 => ?_) (fun c7 => ?_)
  · refine ev_iconst 17 (nI 0) dX5_spotBehind_16 (by decide) rfl ?_
    exact ev_iret dX5_spotBehind_17 rfl (⟨by rw [nxB, if_neg (by omega)], rfl⟩)
  · refine ev_iload_n 11 dX5_spotBehind_10 rfl rfl ?_
    refine ev_iconst 12 (nI 1) dX5_spotBehind_11 (by decide) rfl ?_
    refine ev_iadd 13 dX5_spotBehind_12 rfl ?_
    refine ev_eqI (pm_1 k) ?_
    refine ev_goto 17 dX5_spotBehind_13 (by decide) ?_
    exact ev_iret dX5_spotBehind_17 rfl (⟨by rw [nxB, if_pos (by omega)], rfl⟩)
theorem s_X5_spotAhead {M : Mm} {l : List Nat} (hl : rowAt M 12 11 2 l) (hlen : 0 < l.length) {k : Nat} (hk : k ≤ 24) : Ct XSh mX5_spotAhead [.ref 11, .int (pm k)] M (RetI (nI (nxA l.length k)) M) := by
  have hle := hl.2.1
  show Ev _ _ 0 [.ref 11, .int (pm k)] [] M _
  refine ev_iload_n 1 dX5_spotAhead_0 rfl rfl ?_
  refine ev_if_le 4 10 dX5_spotAhead_1 (by decide) rfl (fun c1 => ?_) (fun c1 => ?_)
  · refine ev_aload_n 11 dX5_spotAhead_10 rfl rfl ?_
    refine ev_getIv 14 (nI l.length) dX5_spotAhead_11 rfl flX5_19 rfl rfl hl.1 ?_
    refine ev_iconst 15 (nI 1) dX5_spotAhead_14 (by decide) rfl ?_
    refine ev_isubN 16 dX5_spotAhead_15 (by omega) rfl ?_
    exact ev_iret dX5_spotAhead_16 rfl (⟨by rw [nxA, if_neg (by have := (pm_pos hk).mp c1; omega)], rfl⟩)
  · refine ev_iload_n 5 dX5_spotAhead_4 rfl rfl ?_
    refine ev_iconst 6 (nI 1) dX5_spotAhead_5 (by decide) rfl ?_
    refine ev_isub 7 dX5_spotAhead_6 rfl ?_
    refine ev_eqI (show pm k - nI 1 = nI (k - 2) from by
      obtain ⟨q, rfl⟩ : ∃ q, k = q + 2 := ⟨k - 2, by have := mt (pm_pos hk).mpr c1; omega⟩
      rw [show q + 2 = (q + 1) + 1 from rfl, pm_s]; exact nI_pred q) ?_
    refine ev_goto 16 dX5_spotAhead_7 (by decide) ?_
    exact ev_iret dX5_spotAhead_16 rfl (⟨by rw [nxA, if_pos (by have := mt (pm_pos hk).mpr c1; omega)], rfl⟩)
end
