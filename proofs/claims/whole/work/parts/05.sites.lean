/-! methods, their links, fields and constants -/
def mX0_init : MI := (yX0_init, cX0_init, 4, none, 1, 12)
def mX0_gather : MI := (yX0_gather, cX0_gather, 4, none, 6, 134)
def mX0_hasFault : MI := (yX0_hasFault, cX0_hasFault, 4, some .boolean, 5, 111)
def mX0_isNameless : MI := (yX0_isNameless, cX0_isNameless, 3, some .boolean, 2, 42)
def mX0_isTwin : MI := (yX0_isTwin, cX0_isTwin, 5, some .boolean, 4, 87)
def mX0_isPale : MI := (yX0_isPale, cX0_isPale, 3, some .boolean, 3, 67)
def mX0_isClosed : MI := (yX0_isClosed, cX0_isClosed, 6, some .boolean, 2, 44)
def mX0_isShort : MI := (yX0_isShort, cX0_isShort, 3, some .boolean, 1, 23)
def mX0_partAt : MI := (yX0_partAt, cX0_partAt, 2, some .int, 0, 0)
def mX0_sortAt : MI := (yX0_sortAt, cX0_sortAt, 2, some .int, 0, 0)
def mX0_mendAt : MI := (yX0_mendAt, cX0_mendAt, 5, none, 2, 46)
def mX1_init : MI := (yX1_init, cX1_init, 2, none, 1, 12)
def mX1_compose : MI := (yX1_compose, cX1_compose, 3, none, 4, 89)
def mX1_addTextsIn : MI := (yX1_addTextsIn, cX1_addTextsIn, 5, none, 3, 65)
def mX1_addOwnOf : MI := (yX1_addOwnOf, cX1_addOwnOf, 3, none, 2, 43)
def mX1_add : MI := (yX1_add, cX1_add, 3, none, 1, 21)
def mX1_lengthOf : MI := (yX1_lengthOf, cX1_lengthOf, 2, some .int, 1, 21)
def mX1_wordOf : MI := (yX1_wordOf, cX1_wordOf, 3, some .int, 2, 42)
def mX1_areAlike : MI := (yX1_areAlike, cX1_areAlike, 4, some .boolean, 3, 64)
def mX2_init : MI := (yX2_init, cX2_init, 1, none, 3, 71)
def mX2_has : MI := (yX2_has, cX2_has, 2, some .boolean, 0, 0)
def mX2_isFull : MI := (yX2_isFull, cX2_isFull, 1, some .boolean, 0, 0)
def mX2_get : MI := (yX2_get, cX2_get, 4, some .int, 0, 0)
def mX2_put : MI := (yX2_put, cX2_put, 5, none, 0, 0)
def mX2_aroundOf : MI := (yX2_aroundOf, cX2_aroundOf, 2, some .int, 0, 0)
def mX2_withinOf : MI := (yX2_withinOf, cX2_withinOf, 2, some .int, 0, 0)
def mX2_add : MI := (yX2_add, cX2_add, 5, some .int, 2, 47)
def mX2_insertInOrder : MI := (yX2_insertInOrder, cX2_insertInOrder, 4, none, 1, 23)
def mX2_spotInOrder : MI := (yX2_spotInOrder, cX2_spotInOrder, 4, some .int, 0, 0)
def mX2_putFirstValues : MI := (yX2_putFirstValues, cX2_putFirstValues, 4, none, 1, 24)
def mX2_allows : MI := (yX2_allows, cX2_allows, 3, some .boolean, 1, 21)
def mX2_hiddenNow : MI := (yX2_hiddenNow, cX2_hiddenNow, 3, some .int, 1, 23)
def mX2_shownNow : MI := (yX2_shownNow, cX2_shownNow, 1, some .int, 2, 45)
def mX2_shownUnder : MI := (yX2_shownUnder, cX2_shownUnder, 5, some .int, 0, 0)
def mX2_stopsAmong : MI := (yX2_stopsAmong, cX2_stopsAmong, 2, some .int, 0, 0)
def mX2_openedBesides : MI := (yX2_openedBesides, cX2_openedBesides, 5, some .int, 1, 23)
def mX2_openedByButton : MI := (yX2_openedByButton, cX2_openedByButton, 2, some .int, 1, 23)
def mX2_trapAround : MI := (yX2_trapAround, cX2_trapAround, 3, some .int, 1, 21)
def mX2_liveAround : MI := (yX2_liveAround, cX2_liveAround, 2, some .int, 1, 21)
def mX2_contrastOf : MI := (yX2_contrastOf, cX2_contrastOf, 2, some .int, 2, 46)
def mX3_init : MI := (yX3_init, cX3_init, 2, none, 1, 12)
def mX3_gather : MI := (yX3_gather, cX3_gather, 4, none, 2, 45)
def mX3_isToBeSaid : MI := (yX3_isToBeSaid, cX3_isToBeSaid, 3, some .boolean, 1, 23)
def mX3_at : MI := (yX3_at, cX3_at, 2, some .int, 0, 0)
def mX3_compare : MI := (yX3_compare, cX3_compare, 3, none, 3, 67)
def mX3_isAstray : MI := (yX3_isAstray, cX3_isAstray, 3, some .boolean, 2, 45)
def mX3_hasArea : MI := (yX3_hasArea, cX3_hasArea, 2, some .boolean, 1, 23)
def mX3_isAbove : MI := (yX3_isAbove, cX3_isAbove, 3, some .boolean, 1, 23)
def mX3_isLeftOf : MI := (yX3_isLeftOf, cX3_isLeftOf, 3, some .boolean, 1, 23)
def mX4_init : MI := (yX4_init, cX4_init, 1, none, 1, 12)
def mX4_add : MI := (yX4_add, cX4_add, 3, none, 0, 0)
def mX4_takeFirst : MI := (yX4_takeFirst, cX4_takeFirst, 3, some .int, 0, 0)
def mX5_init : MI := (yX5_init, cX5_init, 2, none, 1, 12)
def mX5_arrange : MI := (yX5_arrange, cX5_arrange, 4, none, 3, 67)
def mX5_insert : MI := (yX5_insert, cX5_insert, 3, none, 2, 45)
def mX5_rank : MI := (yX5_rank, cX5_rank, 3, some .int, 1, 23)
def mX5_at : MI := (yX5_at, cX5_at, 5, some .int, 1, 21)
def mX5_turn : MI := (yX5_turn, cX5_turn, 8, some .int, 2, 43)
def mX5_spotBehind : MI := (yX5_spotBehind, cX5_spotBehind, 2, some .int, 0, 0)
def mX5_spotAhead : MI := (yX5_spotAhead, cX5_spotAhead, 2, some .int, 0, 0)
def mX5_spotOf : MI := (yX5_spotOf, cX5_spotOf, 3, some .int, 0, 0)
def mX6_init : MI := (yX6_init, cX6_init, 3, none, 1, 12)
def mX6_lengthTo : MI := (yX6_lengthTo, cX6_lengthTo, 4, some .int, 5, 119)
def mX6_firstKeyTo : MI := (yX6_firstKeyTo, cX6_firstKeyTo, 4, some .int, 5, 119)
def mX6_leadOutOf : MI := (yX6_leadOutOf, cX6_leadOutOf, 3, some .boolean, 5, 119)
def mX6_find : MI := (yX6_find, cX6_find, 4, some .int, 4, 96)
def mX6_takeDoors : MI := (yX6_takeDoors, cX6_takeDoors, 3, none, 2, 47)
def mX6_doorsShutNow : MI := (yX6_doorsShutNow, cX6_doorsShutNow, 3, some .int, 1, 23)
def mX6_shownIf : MI := (yX6_shownIf, cX6_shownIf, 4, some .int, 1, 24)
def mX6_focusIn : MI := (yX6_focusIn, cX6_focusIn, 1, some .int, 0, 0)
def mX6_pressAllKeys : MI := (yX6_pressAllKeys, cX6_pressAllKeys, 7, none, 3, 70)
def mX6_doorOf : MI := (yX6_doorOf, cX6_doorOf, 4, some .int, 2, 44)
def mX6_comeFrom : MI := (yX6_comeFrom, cX6_comeFrom, 5, none, 1, 25)
def mX6_come : MI := (yX6_come, cX6_come, 6, none, 0, 0)
def mX7_init : MI := (yX7_init, cX7_init, 1, none, 4, 91)
def mX7_part : MI := (yX7_part, cX7_part, 4, some .int, 4, 90)
def mX7_set : MI := (yX7_set, cX7_set, 4, some .int, 5, 114)
def mX7_told : MI := (yX7_told, cX7_told, 3, some .int, 3, 65)
def mX7_box : MI := (yX7_box, cX7_box, 6, some .int, 1, 24)
def mX7_colours : MI := (yX7_colours, cX7_colours, 4, some .int, 3, 67)
def mX7_contrast : MI := (yX7_contrast, cX7_contrast, 2, some .int, 3, 67)
def mX7_name : MI := (yX7_name, cX7_name, 2, some .int, 5, 111)
def mX7_word : MI := (yX7_word, cX7_word, 3, some .int, 5, 111)
def mX7_said : MI := (yX7_said, cX7_said, 2, some .int, 3, 68)
def mX7_pairs : MI := (yX7_pairs, cX7_pairs, 1, some .int, 4, 89)
def mX7_stop : MI := (yX7_stop, cX7_stop, 2, some .int, 3, 65)
def mX7_press : MI := (yX7_press, cX7_press, 2, some .int, 6, 135)
def mX7_focus : MI := (yX7_focus, cX7_focus, 1, some .int, 0, 0)
def mX7_caught : MI := (yX7_caught, cX7_caught, 1, some .int, 3, 65)
def mX7_leave : MI := (yX7_leave, cX7_leave, 2, some .int, 0, 0)
def mX7_walk : MI := (yX7_walk, cX7_walk, 2, some .int, 6, 142)
def mX7_key : MI := (yX7_key, cX7_key, 2, some .int, 6, 142)
def mX7_keeper : MI := (yX7_keeper, cX7_keeper, 2, some .int, 6, 141)
def mX7_hear : MI := (yX7_hear, cX7_hear, 1, some .int, 1, 22)
def mX7_wrongs : MI := (yX7_wrongs, cX7_wrongs, 1, some .int, 7, 157)
def mX7_wrong : MI := (yX7_wrong, cX7_wrong, 3, some .int, 7, 157)
def mX7_mend : MI := (yX7_mend, cX7_mend, 4, some .int, 7, 157)
def mX7_count : MI := (yX7_count, cX7_count, 2, some .int, 3, 68)
def mX7_digest : MI := (yX7_digest, cX7_digest, 5, some .long, 7, 157)
def mX7_opensTooMany : MI := (yX7_opensTooMany, cX7_opensTooMany, 4, some .boolean, 2, 47)
def mX7_change : MI := (yX7_change, cX7_change, 5, some .int, 4, 90)
def mX7_enter : MI := (yX7_enter, cX7_enter, 2, none, 5, 114)
def mX7_speakOf : MI := (yX7_speakOf, cX7_speakOf, 3, none, 3, 65)
def mX7_isLength : MI := (yX7_isLength, cX7_isLength, 1, some .boolean, 0, 0)
def mX7_isColour : MI := (yX7_isColour, cX7_isColour, 1, some .boolean, 0, 0)
def mX7_holds : MI := (yX7_holds, cX7_holds, 2, some .boolean, 0, 0)
def mX7_lastOf : MI := (yX7_lastOf, cX7_lastOf, 2, some .int, 0, 0)
def mX7_light : MI := (yX7_light, cX7_light, 1, some .int, 0, 0)
def mX7_contrastBetween : MI := (yX7_contrastBetween, cX7_contrastBetween, 6, some .int, 1, 21)
def mX8_init : MI := (yX8_init, cX8_init, 1, none, 2, 47)
def mX8_in : MI := (yX8_in, cX8_in, 6, some .boolean, 0, 0)
def mX8_get : MI := (yX8_get, cX8_get, 3, some .int, 0, 0)
def mX8_put : MI := (yX8_put, cX8_put, 4, none, 0, 0)
def mX8_begin : MI := (yX8_begin, cX8_begin, 5, none, 1, 23)
def mX8_isPart : MI := (yX8_isPart, cX8_isPart, 2, some .boolean, 1, 25)
def mX8_part : MI := (yX8_part, cX8_part, 3, some .int, 2, 47)
def mX8_isShown : MI := (yX8_isShown, cX8_isShown, 3, some .boolean, 1, 22)
def mX8_lies : MI := (yX8_lies, cX8_lies, 4, some .boolean, 1, 22)
def mX8_innermost : MI := (yX8_innermost, cX8_innermost, 4, some .int, 1, 22)
def mX8_line : MI := (yX8_line, cX8_line, 5, none, 1, 22)
def mX8_opened : MI := (yX8_opened, cX8_opened, 3, some .int, 2, 46)
def mX8_isOpenedBy : MI := (yX8_isOpenedBy, cX8_isOpenedBy, 5, some .boolean, 1, 22)
def mX8_isFor : MI := (yX8_isFor, cX8_isFor, 3, some .boolean, 2, 46)
def mX8_speak : MI := (yX8_speak, cX8_speak, 5, none, 2, 45)
def mX8_lookAtFocus : MI := (yX8_lookAtFocus, cX8_lookAtFocus, 1, none, 2, 44)
def mX8_set : MI := (yX8_set, cX8_set, 6, some .int, 3, 69)
def mX8_told : MI := (yX8_told, cX8_told, 3, some .int, 2, 46)
def mX8_box : MI := (yX8_box, cX8_box, 6, some .int, 2, 46)
def mX8_light : MI := (yX8_light, cX8_light, 1, some .long, 0, 0)
def mX8_contrastOf : MI := (yX8_contrastOf, cX8_contrastOf, 6, some .int, 1, 20)
def mX8_colours : MI := (yX8_colours, cX8_colours, 4, some .int, 2, 46)
def mX8_contrast : MI := (yX8_contrast, cX8_contrast, 2, some .int, 2, 46)
def mX8_addWord : MI := (yX8_addWord, cX8_addWord, 3, none, 0, 0)
def mX8_findName : MI := (yX8_findName, cX8_findName, 4, none, 2, 46)
def mX8_name : MI := (yX8_name, cX8_name, 2, some .int, 3, 69)
def mX8_word : MI := (yX8_word, cX8_word, 3, some .int, 3, 69)
def mX8_findSaid : MI := (yX8_findSaid, cX8_findSaid, 5, none, 2, 46)
def mX8_said : MI := (yX8_said, cX8_said, 2, some .int, 3, 70)
def mX8_hasBox : MI := (yX8_hasBox, cX8_hasBox, 2, some .boolean, 1, 22)
def mX8_isAbove : MI := (yX8_isAbove, cX8_isAbove, 3, some .boolean, 1, 22)
def mX8_isAstray : MI := (yX8_isAstray, cX8_isAstray, 3, some .boolean, 2, 44)
def mX8_pairs : MI := (yX8_pairs, cX8_pairs, 4, some .int, 3, 70)
def mX8_isStop : MI := (yX8_isStop, cX8_isStop, 2, some .boolean, 2, 44)
def mX8_findStops : MI := (yX8_findStops, cX8_findStops, 6, none, 3, 65)
def mX8_stop : MI := (yX8_stop, cX8_stop, 2, some .int, 4, 90)
def mX8_trapOf : MI := (yX8_trapOf, cX8_trapOf, 2, some .int, 2, 45)
def mX8_pressed : MI := (yX8_pressed, cX8_pressed, 4, none, 4, 90)
def mX8_press : MI := (yX8_press, cX8_press, 2, some .int, 5, 113)
def mX8_focus : MI := (yX8_focus, cX8_focus, 1, some .int, 0, 0)
def mX8_caught : MI := (yX8_caught, cX8_caught, 1, some .int, 3, 66)
def mX8_leave : MI := (yX8_leave, cX8_leave, 2, some .int, 0, 0)
def mX8_findDoors : MI := (yX8_findDoors, cX8_findDoors, 2, none, 2, 46)
def mX8_state : MI := (yX8_state, cX8_state, 3, some .int, 1, 22)
def mX8_come : MI := (yX8_come, cX8_come, 3, none, 1, 23)
def mX8_spread : MI := (yX8_spread, cX8_spread, 5, none, 5, 113)
def mX8_leastTo : MI := (yX8_leastTo, cX8_leastTo, 5, some .int, 0, 0)
def mX8_walk : MI := (yX8_walk, cX8_walk, 2, some .int, 6, 137)
def mX8_key : MI := (yX8_key, cX8_key, 6, some .int, 6, 137)
def mX8_keeper : MI := (yX8_keeper, cX8_keeper, 4, some .int, 6, 137)
def mX8_hear : MI := (yX8_hear, cX8_hear, 3, some .int, 0, 0)
def mX8_isTwin : MI := (yX8_isTwin, cX8_isTwin, 6, some .boolean, 3, 65)
def mX8_isClosed : MI := (yX8_isClosed, cX8_isClosed, 5, some .boolean, 3, 65)
def mX8_isAhead : MI := (yX8_isAhead, cX8_isAhead, 5, some .boolean, 3, 66)
def mX8_isWrong : MI := (yX8_isWrong, cX8_isWrong, 5, some .boolean, 4, 90)
def mX8_findWrongs : MI := (yX8_findWrongs, cX8_findWrongs, 3, none, 5, 114)
def mX8_wrongs : MI := (yX8_wrongs, cX8_wrongs, 1, some .int, 6, 136)
def mX8_wrong : MI := (yX8_wrong, cX8_wrong, 3, some .int, 6, 136)
def mX8_mend : MI := (yX8_mend, cX8_mend, 3, some .int, 7, 156)
def mX8_count : MI := (yX8_count, cX8_count, 4, some .int, 4, 90)
def mX8_digest : MI := (yX8_digest, cX8_digest, 5, some .long, 7, 156)
def mJ6_bitCount_0f7a4 : MI := (yJ6_bitCount_0f7a4, cJ6_bitCount_0f7a4, 1, some .int, 0, 0)
def mJ9_max_7cf53 : MI := (yJ9_max_7cf53, cJ9_max_7cf53, 2, some .int, 0, 0)
def mJ9_min_7cf53 : MI := (yJ9_min_7cf53, cJ9_min_7cf53, 2, some .int, 0, 0)
theorem flX7_10 : ab_FL RX7 10 7 0 := ⟨RX7, TX7, 8, tyX7, rfl, by decide, inlX7, tyX7_ok, nmX7, Or.inl (wT1 237 rfl rfl)⟩
theorem flX7_21 : ab_FL RX7 21 7 1 := ⟨RX7, TX7, 8, tyX7, rfl, by decide, inlX7, tyX7_ok, nmX7, Or.inl (wT1 238 rfl rfl)⟩
theorem flX7_28 : ab_FL RX7 28 7 2 := ⟨RX7, TX7, 8, tyX7, rfl, by decide, inlX7, tyX7_ok, nmX7, Or.inl (wT1 239 rfl rfl)⟩
theorem flX7_35 : ab_FL RX7 35 7 3 := ⟨RX7, TX7, 8, tyX7, rfl, by decide, inlX7, tyX7_ok, nmX7, Or.inl (wT2 0 rfl rfl)⟩
theorem flX7_44 : ab_FL RX7 44 7 4 := ⟨RX7, TX7, 8, tyX7, rfl, by decide, inlX7, tyX7_ok, nmX7, Or.inl (wT2 1 rfl rfl)⟩
theorem flX7_53 : ab_FL RX7 53 7 5 := ⟨RX7, TX7, 8, tyX7, rfl, by decide, inlX7, tyX7_ok, nmX7, Or.inl (wT2 2 rfl rfl)⟩
theorem flX7_60 : ab_FL RX7 60 7 6 := ⟨RX7, TX7, 8, tyX7, rfl, by decide, inlX7, tyX7_ok, nmX7, Or.inl (wT2 3 rfl rfl)⟩
theorem flX7_64 : ab_FL RX7 64 7 7 := ⟨RX7, TX7, 8, tyX7, rfl, by decide, inlX7, tyX7_ok, nmX7, Or.inl (wT2 4 rfl rfl)⟩
theorem mlX7_68 : ab_ML RX7 68 mX2_has := Or.inr ⟨"PagesForAll", List.mem_of_getElem? (i := 25) rfl⟩
theorem mlX7_72 : ab_ML RX7 72 mX2_isFull := Or.inr ⟨"PagesForAll", List.mem_of_getElem? (i := 26) rfl⟩
theorem mlX7_76 : ab_ML RX7 76 mX2_add := Or.inr ⟨"PagesForAll", List.mem_of_getElem? (i := 27) rfl⟩
theorem mlX7_80 : ab_ML RX7 80 mX5_arrange := Or.inr ⟨"PagesForAll", List.mem_of_getElem? (i := 28) rfl⟩
theorem mlX7_83 : ab_ML RX7 83 mX2_allows := Or.inr ⟨"PagesForAll", List.mem_of_getElem? (i := 30) rfl⟩
theorem mlX7_87 : ab_ML RX7 87 mX7_opensTooMany := Or.inl (wT2 56 rfl rfl)
theorem mlX7_90 : ab_ML RX7 90 mX7_change := Or.inl (wT2 67 rfl rfl)
theorem mlX7_94 : ab_ML RX7 94 mX2_shownNow := Or.inr ⟨"PagesForAll", List.mem_of_getElem? (i := 36) rfl⟩
theorem mlX7_98 : ab_ML RX7 98 mX7_holds := Or.inl (wT2 65 rfl rfl)
theorem mlX7_101 : ab_ML RX7 101 mX2_get := Or.inr ⟨"PagesForAll", List.mem_of_getElem? (i := 32) rfl⟩
theorem mlX7_104 : ab_ML RX7 104 mX7_isLength := Or.inl (wT2 108 rfl rfl)
theorem mlX7_107 : ab_ML RX7 107 mX2_put := Or.inr ⟨"PagesForAll", List.mem_of_getElem? (i := 33) rfl⟩
theorem mlX7_111 : ab_ML RX7 111 mX7_isColour := Or.inl (wT2 115 rfl rfl)
theorem mlX7_114 : ab_ML RX7 114 mX2_contrastOf := Or.inr ⟨"PagesForAll", List.mem_of_getElem? (i := 38) rfl⟩
theorem mlX7_118 : ab_ML RX7 118 mX1_compose := Or.inr ⟨"PagesForAll", List.mem_of_getElem? (i := 40) rfl⟩
theorem mlX7_122 : ab_ML RX7 122 mX1_lengthOf := Or.inr ⟨"PagesForAll", List.mem_of_getElem? (i := 45) rfl⟩
theorem mlX7_125 : ab_ML RX7 125 mX1_wordOf := Or.inr ⟨"PagesForAll", List.mem_of_getElem? (i := 46) rfl⟩
theorem mlX7_128 : ab_ML RX7 128 mX3_gather := Or.inr ⟨"PagesForAll", List.mem_of_getElem? (i := 47) rfl⟩
theorem mlX7_132 : ab_ML RX7 132 mX3_at := Or.inr ⟨"PagesForAll", List.mem_of_getElem? (i := 51) rfl⟩
theorem mlX7_135 : ab_ML RX7 135 mX3_compare := Or.inr ⟨"PagesForAll", List.mem_of_getElem? (i := 52) rfl⟩
theorem flX7_138 : ab_FL RX7 138 3 4 := ⟨RX3, TX3, 5, tyX3, rfl, by decide, inlX3, tyX3_ok, nmX3, Or.inr ⟨"PagesForAll", List.mem_of_getElem? (i := 17) rfl⟩⟩
theorem mlX7_141 : ab_ML RX7 141 mX5_at := Or.inr ⟨"PagesForAll", List.mem_of_getElem? (i := 53) rfl⟩
theorem mlX7_143 : ab_ML RX7 143 mX7_enter := Or.inl (wT2 234 rfl rfl)
theorem mlX7_146 : ab_ML RX7 146 mX5_turn := Or.inr ⟨"PagesForAll", List.mem_of_getElem? (i := 56) rfl⟩
theorem mlX7_149 : ab_ML RX7 149 mX2_trapAround := Or.inr ⟨"PagesForAll", List.mem_of_getElem? (i := 59) rfl⟩
theorem mlX7_152 : ab_ML RX7 152 mX6_lengthTo := Or.inr ⟨"PagesForAll", List.mem_of_getElem? (i := 60) rfl⟩
theorem mlX7_155 : ab_ML RX7 155 mX6_firstKeyTo := Or.inr ⟨"PagesForAll", List.mem_of_getElem? (i := 68) rfl⟩
theorem mlX7_158 : ab_ML RX7 158 mX6_leadOutOf := Or.inr ⟨"PagesForAll", List.mem_of_getElem? (i := 69) rfl⟩
theorem mlX7_161 : ab_ML RX7 161 mX4_takeFirst := Or.inr ⟨"PagesForAll", List.mem_of_getElem? (i := 71) rfl⟩
theorem mlX7_164 : ab_ML RX7 164 mX0_gather := Or.inr ⟨"PagesForAll", List.mem_of_getElem? (i := 72) rfl⟩
theorem flX7_166 : ab_FL RX7 166 0 5 := ⟨RX0, TX0, 6, tyX0, rfl, by decide, inlX0, tyX0_ok, nmX0, Or.inr ⟨"PagesForAll", List.mem_of_getElem? (i := 21) rfl⟩⟩
theorem mlX7_169 : ab_ML RX7 169 mX0_partAt := Or.inr ⟨"PagesForAll", List.mem_of_getElem? (i := 86) rfl⟩
theorem mlX7_172 : ab_ML RX7 172 mX0_sortAt := Or.inr ⟨"PagesForAll", List.mem_of_getElem? (i := 87) rfl⟩
theorem mlX7_175 : ab_ML RX7 175 mX0_mendAt := Or.inr ⟨"PagesForAll", List.mem_of_getElem? (i := 88) rfl⟩
theorem flX7_178 : ab_FL RX7 178 2 5 := ⟨RX2, TX2, 6, tyX2, rfl, by decide, inlX2, tyX2_ok, nmX2, Or.inr ⟨"PagesForAll", List.mem_of_getElem? (i := 12) rfl⟩⟩
theorem mlX7_179 : ab_ML RX7 179 mJ6_bitCount_0f7a4 := Or.inl (wT2 66 rfl rfl)
theorem mlX7_184 : ab_ML RX7 184 mX2_stopsAmong := Or.inr ⟨"PagesForAll", List.mem_of_getElem? (i := 91) rfl⟩
theorem flX7_187 : ab_FL RX7 187 3 2 := ⟨RX3, TX3, 5, tyX3, rfl, by decide, inlX3, tyX3_ok, nmX3, Or.inr ⟨"PagesForAll", List.mem_of_getElem? (i := 15) rfl⟩⟩
theorem flX7_188 : ab_FL RX7 188 4 1 := ⟨RX4, TX4, 2, tyX4, rfl, by decide, inlX4, tyX4_ok, nmX4, Or.inr ⟨"PagesForAll", List.mem_of_getElem? (i := 24) rfl⟩⟩
theorem mlX7_189 : ab_ML RX7 189 mX2_openedBesides := Or.inr ⟨"PagesForAll", List.mem_of_getElem? (i := 31) rfl⟩
theorem flX7_196 : ab_FL RX7 196 4 0 := ⟨RX4, TX4, 2, tyX4, rfl, by decide, inlX4, tyX4_ok, nmX4, Or.inr ⟨"PagesForAll", List.mem_of_getElem? (i := 23) rfl⟩⟩
theorem mlX7_200 : ab_ML RX7 200 mX7_speakOf := Or.inl (wT2 73 rfl rfl)
theorem mlX7_203 : ab_ML RX7 203 mX2_openedByButton := Or.inr ⟨"PagesForAll", List.mem_of_getElem? (i := 55) rfl⟩
theorem mlX7_206 : ab_ML RX7 206 mX2_liveAround := Or.inr ⟨"PagesForAll", List.mem_of_getElem? (i := 34) rfl⟩
theorem mlX7_209 : ab_ML RX7 209 mX4_add := Or.inr ⟨"PagesForAll", List.mem_of_getElem? (i := 37) rfl⟩
theorem mlX7_212 : ab_ML RX7 212 mX7_light := Or.inl (wT2 126 rfl rfl)
theorem flX0_9 : ab_FL RX0 9 0 3 := ⟨RX0, TX0, 6, tyX0, rfl, by decide, inlX0, tyX0_ok, nmX0, Or.inl (wT1 205 rfl rfl)⟩
theorem flX0_15 : ab_FL RX0 15 0 4 := ⟨RX0, TX0, 6, tyX0, rfl, by decide, inlX0, tyX0_ok, nmX0, Or.inl (wT1 206 rfl rfl)⟩
theorem flX0_18 : ab_FL RX0 18 0 0 := ⟨RX0, TX0, 6, tyX0, rfl, by decide, inlX0, tyX0_ok, nmX0, Or.inl (wT1 202 rfl rfl)⟩
theorem flX0_22 : ab_FL RX0 22 0 1 := ⟨RX0, TX0, 6, tyX0, rfl, by decide, inlX0, tyX0_ok, nmX0, Or.inl (wT1 203 rfl rfl)⟩
theorem flX0_26 : ab_FL RX0 26 0 2 := ⟨RX0, TX0, 6, tyX0, rfl, by decide, inlX0, tyX0_ok, nmX0, Or.inl (wT1 204 rfl rfl)⟩
theorem flX0_30 : ab_FL RX0 30 0 5 := ⟨RX0, TX0, 6, tyX0, rfl, by decide, inlX0, tyX0_ok, nmX0, Or.inl (wT1 207 rfl rfl)⟩
theorem mlX0_34 : ab_ML RX0 34 mX2_shownNow := Or.inr ⟨"PagesForAll", List.mem_of_getElem? (i := 73) rfl⟩
theorem mlX0_40 : ab_ML RX0 40 mX3_gather := Or.inr ⟨"PagesForAll", List.mem_of_getElem? (i := 74) rfl⟩
theorem mlX0_46 : ab_ML RX0 46 mX3_compare := Or.inr ⟨"PagesForAll", List.mem_of_getElem? (i := 75) rfl⟩
theorem flX0_49 : ab_FL RX0 49 2 5 := ⟨RX2, TX2, 6, tyX2, rfl, by decide, inlX2, tyX2_ok, nmX2, Or.inr ⟨"PagesForAll", List.mem_of_getElem? (i := 9) rfl⟩⟩
theorem mlX0_50 : ab_ML RX0 50 mX1_compose := Or.inr ⟨"PagesForAll", List.mem_of_getElem? (i := 76) rfl⟩
theorem mlX0_56 : ab_ML RX0 56 mX7_holds := Or.inr ⟨"PagesForAll", List.mem_of_getElem? (i := 77) rfl⟩
theorem mlX0_60 : ab_ML RX0 60 mX0_hasFault := Or.inl (wT3 124 rfl rfl)
theorem mlX0_64 : ab_ML RX0 64 mX0_isNameless := Or.inl (wT3 128 rfl rfl)
theorem mlX0_68 : ab_ML RX0 68 mX0_isTwin := Or.inl (wT3 134 rfl rfl)
theorem mlX0_71 : ab_ML RX0 71 mX0_isPale := Or.inl (wT3 147 rfl rfl)
theorem mlX0_74 : ab_ML RX0 74 mX2_get := Or.inr ⟨"PagesForAll", List.mem_of_getElem? (i := 78) rfl⟩
theorem mlX0_78 : ab_ML RX0 78 mX0_isClosed := Or.inl (wT3 152 rfl rfl)
theorem flX0_81 : ab_FL RX0 81 3 3 := ⟨RX3, TX3, 5, tyX3, rfl, by decide, inlX3, tyX3_ok, nmX3, Or.inr ⟨"PagesForAll", List.mem_of_getElem? (i := 16) rfl⟩⟩
theorem mlX0_84 : ab_ML RX0 84 mX0_isShort := Or.inl (wT3 159 rfl rfl)
theorem mlX0_87 : ab_ML RX0 87 mX1_lengthOf := Or.inr ⟨"PagesForAll", List.mem_of_getElem? (i := 79) rfl⟩
theorem mlX0_91 : ab_ML RX0 91 mX2_stopsAmong := Or.inr ⟨"PagesForAll", List.mem_of_getElem? (i := 80) rfl⟩
theorem mlX0_94 : ab_ML RX0 94 mX1_areAlike := Or.inr ⟨"PagesForAll", List.mem_of_getElem? (i := 81) rfl⟩
theorem mlX0_97 : ab_ML RX0 97 mX2_contrastOf := Or.inr ⟨"PagesForAll", List.mem_of_getElem? (i := 82) rfl⟩
theorem mlX0_100 : ab_ML RX0 100 mX2_withinOf := Or.inr ⟨"PagesForAll", List.mem_of_getElem? (i := 83) rfl⟩
theorem mlX0_103 : ab_ML RX0 103 mX2_aroundOf := Or.inr ⟨"PagesForAll", List.mem_of_getElem? (i := 84) rfl⟩
theorem mlX0_106 : ab_ML RX0 106 mX2_openedByButton := Or.inr ⟨"PagesForAll", List.mem_of_getElem? (i := 85) rfl⟩
theorem mlX0_109 : ab_ML RX0 109 mX2_put := Or.inr ⟨"PagesForAll", List.mem_of_getElem? (i := 89) rfl⟩
theorem mlX0_115 : ab_ML RX0 115 mX7_contrastBetween := Or.inr ⟨"PagesForAll", List.mem_of_getElem? (i := 90) rfl⟩
theorem flX1_9 : ab_FL RX1 9 1 1 := ⟨RX1, TX1, 3, tyX1, rfl, by decide, inlX1, tyX1_ok, nmX1, Or.inl (wT1 106 rfl rfl)⟩
theorem flX1_15 : ab_FL RX1 15 1 2 := ⟨RX1, TX1, 3, tyX1, rfl, by decide, inlX1, tyX1_ok, nmX1, Or.inl (wT1 107 rfl rfl)⟩
theorem flX1_18 : ab_FL RX1 18 1 0 := ⟨RX1, TX1, 3, tyX1, rfl, by decide, inlX1, tyX1_ok, nmX1, Or.inl (wT1 105 rfl rfl)⟩
theorem mlX1_22 : ab_ML RX1 22 mX2_has := Or.inr ⟨"PagesForAll", List.mem_of_getElem? (i := 41) rfl⟩
theorem mlX1_28 : ab_ML RX1 28 mX2_get := Or.inr ⟨"PagesForAll", List.mem_of_getElem? (i := 42) rfl⟩
theorem mlX1_32 : ab_ML RX1 32 mX1_addOwnOf := Or.inl (wT2 151 rfl rfl)
theorem mlX1_36 : ab_ML RX1 36 mX1_add := Or.inl (wT2 155 rfl rfl)
theorem mlX1_39 : ab_ML RX1 39 mX1_addTextsIn := Or.inl (wT2 159 rfl rfl)
theorem mlX1_42 : ab_ML RX1 42 mX2_withinOf := Or.inr ⟨"PagesForAll", List.mem_of_getElem? (i := 43) rfl⟩
theorem flX1_46 : ab_FL RX1 46 2 3 := ⟨RX2, TX2, 6, tyX2, rfl, by decide, inlX2, tyX2_ok, nmX2, Or.inr ⟨"PagesForAll", List.mem_of_getElem? (i := 2) rfl⟩⟩
theorem flX1_49 : ab_FL RX1 49 2 5 := ⟨RX2, TX2, 6, tyX2, rfl, by decide, inlX2, tyX2_ok, nmX2, Or.inr ⟨"PagesForAll", List.mem_of_getElem? (i := 10) rfl⟩⟩
theorem flX1_53 : ab_FL RX1 53 2 4 := ⟨RX2, TX2, 6, tyX2, rfl, by decide, inlX2, tyX2_ok, nmX2, Or.inr ⟨"PagesForAll", List.mem_of_getElem? (i := 6) rfl⟩⟩
theorem mlX1_56 : ab_ML RX1 56 mX7_holds := Or.inr ⟨"PagesForAll", List.mem_of_getElem? (i := 44) rfl⟩
theorem mlX1_60 : ab_ML RX1 60 mX1_lengthOf := Or.inl (wT2 177 rfl rfl)
theorem mlX1_63 : ab_ML RX1 63 mX1_wordOf := Or.inl (wT3 146 rfl rfl)
theorem flX2_9 : ab_FL RX2 9 2 0 := ⟨RX2, TX2, 6, tyX2, rfl, by decide, inlX2, tyX2_ok, nmX2, Or.inl (wT1 68 rfl rfl)⟩
theorem flX2_15 : ab_FL RX2 15 2 1 := ⟨RX2, TX2, 6, tyX2, rfl, by decide, inlX2, tyX2_ok, nmX2, Or.inl (wT1 69 rfl rfl)⟩
theorem flX2_18 : ab_FL RX2 18 2 2 := ⟨RX2, TX2, 6, tyX2, rfl, by decide, inlX2, tyX2_ok, nmX2, Or.inl (wT1 70 rfl rfl)⟩
theorem flX2_21 : ab_FL RX2 21 2 3 := ⟨RX2, TX2, 6, tyX2, rfl, by decide, inlX2, tyX2_ok, nmX2, Or.inl (wT1 71 rfl rfl)⟩
theorem flX2_24 : ab_FL RX2 24 2 4 := ⟨RX2, TX2, 6, tyX2, rfl, by decide, inlX2, tyX2_ok, nmX2, Or.inl (wT1 74 rfl rfl)⟩
theorem flX2_27 : ab_FL RX2 27 2 5 := ⟨RX2, TX2, 6, tyX2, rfl, by decide, inlX2, tyX2_ok, nmX2, Or.inl (wT1 78 rfl rfl)⟩
theorem mlX2_31 : ab_ML RX2 31 mX2_add := Or.inl (wT1 26 rfl rfl)
theorem mlX2_35 : ab_ML RX2 35 mX2_insertInOrder := Or.inl (wT1 30 rfl rfl)
theorem mlX2_39 : ab_ML RX2 39 mX2_has := Or.inl (wT1 34 rfl rfl)
theorem mlX2_43 : ab_ML RX2 43 mX2_aroundOf := Or.inl (wT1 52 rfl rfl)
theorem mlX2_47 : ab_ML RX2 47 mX7_holds := Or.inr ⟨"PagesForAll", List.mem_of_getElem? (i := 1) rfl⟩
theorem mlX2_51 : ab_ML RX2 51 mX2_putFirstValues := Or.inl (wT1 59 rfl rfl)
theorem mlX2_55 : ab_ML RX2 55 mX2_spotInOrder := Or.inl (wT1 38 rfl rfl)
theorem mlX2_58 : ab_ML RX2 58 mX2_withinOf := Or.inl (wT1 42 rfl rfl)
theorem mlX2_61 : ab_ML RX2 61 mJ6_bitCount_0f7a4 := Or.inl (wT1 46 rfl rfl)
theorem mlX2_66 : ab_ML RX2 66 mX2_put := Or.inl (wT1 63 rfl rfl)
theorem mlX2_70 : ab_ML RX2 70 mX2_get := Or.inl (wT2 64 rfl rfl)
theorem mlX2_73 : ab_ML RX2 73 mX2_hiddenNow := Or.inl (wT2 88 rfl rfl)
theorem mlX2_77 : ab_ML RX2 77 mX2_shownUnder := Or.inl (wT2 92 rfl rfl)
theorem mlX2_80 : ab_ML RX2 80 mX7_lastOf := Or.inr ⟨"PagesForAll", List.mem_of_getElem? (i := 35) rfl⟩
theorem mlX2_83 : ab_ML RX2 83 mX7_contrastBetween := Or.inr ⟨"PagesForAll", List.mem_of_getElem? (i := 39) rfl⟩
theorem flX3_9 : ab_FL RX3 9 3 1 := ⟨RX3, TX3, 5, tyX3, rfl, by decide, inlX3, tyX3_ok, nmX3, Or.inl (wT1 122 rfl rfl)⟩
theorem flX3_15 : ab_FL RX3 15 3 0 := ⟨RX3, TX3, 5, tyX3, rfl, by decide, inlX3, tyX3_ok, nmX3, Or.inl (wT1 121 rfl rfl)⟩
theorem flX3_19 : ab_FL RX3 19 3 2 := ⟨RX3, TX3, 5, tyX3, rfl, by decide, inlX3, tyX3_ok, nmX3, Or.inl (wT1 123 rfl rfl)⟩
theorem flX3_23 : ab_FL RX3 23 3 3 := ⟨RX3, TX3, 5, tyX3, rfl, by decide, inlX3, tyX3_ok, nmX3, Or.inl (wT1 125 rfl rfl)⟩
theorem flX3_26 : ab_FL RX3 26 3 4 := ⟨RX3, TX3, 5, tyX3, rfl, by decide, inlX3, tyX3_ok, nmX3, Or.inl (wT1 127 rfl rfl)⟩
theorem flX3_29 : ab_FL RX3 29 2 5 := ⟨RX2, TX2, 6, tyX2, rfl, by decide, inlX2, tyX2_ok, nmX2, Or.inr ⟨"PagesForAll", List.mem_of_getElem? (i := 8) rfl⟩⟩
theorem flX3_32 : ab_FL RX3 32 2 4 := ⟨RX2, TX2, 6, tyX2, rfl, by decide, inlX2, tyX2_ok, nmX2, Or.inr ⟨"PagesForAll", List.mem_of_getElem? (i := 5) rfl⟩⟩
theorem mlX3_35 : ab_ML RX3 35 mX7_holds := Or.inr ⟨"PagesForAll", List.mem_of_getElem? (i := 48) rfl⟩
theorem mlX3_39 : ab_ML RX3 39 mX3_isToBeSaid := Or.inl (wT2 187 rfl rfl)
theorem mlX3_43 : ab_ML RX3 43 mX2_get := Or.inr ⟨"PagesForAll", List.mem_of_getElem? (i := 49) rfl⟩
theorem mlX3_47 : ab_ML RX3 47 mX2_aroundOf := Or.inr ⟨"PagesForAll", List.mem_of_getElem? (i := 50) rfl⟩
theorem flX3_51 : ab_FL RX3 51 2 3 := ⟨RX2, TX2, 6, tyX2, rfl, by decide, inlX2, tyX2_ok, nmX2, Or.inr ⟨"PagesForAll", List.mem_of_getElem? (i := 3) rfl⟩⟩
theorem mlX3_54 : ab_ML RX3 54 mX3_isAstray := Or.inl (wT2 205 rfl rfl)
theorem mlX3_57 : ab_ML RX3 57 mX3_hasArea := Or.inl (wT2 209 rfl rfl)
theorem mlX3_60 : ab_ML RX3 60 mX3_isAbove := Or.inl (wT2 213 rfl rfl)
theorem mlX3_63 : ab_ML RX3 63 mX3_isLeftOf := Or.inl (wT2 217 rfl rfl)
theorem flX4_9 : ab_FL RX4 9 4 0 := ⟨RX4, TX4, 2, tyX4, rfl, by decide, inlX4, tyX4_ok, nmX4, Or.inl (wT1 228 rfl rfl)⟩
theorem flX4_15 : ab_FL RX4 15 4 1 := ⟨RX4, TX4, 2, tyX4, rfl, by decide, inlX4, tyX4_ok, nmX4, Or.inl (wT1 230 rfl rfl)⟩
theorem flX5_9 : ab_FL RX5 9 5 1 := ⟨RX5, TX5, 3, tyX5, rfl, by decide, inlX5, tyX5_ok, nmX5, Or.inl (wT1 147 rfl rfl)⟩
theorem flX5_15 : ab_FL RX5 15 5 0 := ⟨RX5, TX5, 3, tyX5, rfl, by decide, inlX5, tyX5_ok, nmX5, Or.inl (wT1 146 rfl rfl)⟩
theorem flX5_19 : ab_FL RX5 19 5 2 := ⟨RX5, TX5, 3, tyX5, rfl, by decide, inlX5, tyX5_ok, nmX5, Or.inl (wT1 148 rfl rfl)⟩
theorem flX5_23 : ab_FL RX5 23 2 5 := ⟨RX2, TX2, 6, tyX2, rfl, by decide, inlX2, tyX2_ok, nmX2, Or.inr ⟨"PagesForAll", List.mem_of_getElem? (i := 7) rfl⟩⟩
theorem flX5_26 : ab_FL RX5 26 2 4 := ⟨RX2, TX2, 6, tyX2, rfl, by decide, inlX2, tyX2_ok, nmX2, Or.inr ⟨"PagesForAll", List.mem_of_getElem? (i := 4) rfl⟩⟩
theorem mlX5_29 : ab_ML RX5 29 mX2_get := Or.inr ⟨"PagesForAll", List.mem_of_getElem? (i := 29) rfl⟩
theorem mlX5_33 : ab_ML RX5 33 mX5_insert := Or.inl (wT2 40 rfl rfl)
theorem mlX5_37 : ab_ML RX5 37 mX5_rank := Or.inl (wT2 44 rfl rfl)
theorem mlX5_41 : ab_ML RX5 41 mX7_holds := Or.inr ⟨"PagesForAll", List.mem_of_getElem? (i := 54) rfl⟩
theorem mlX5_45 : ab_ML RX5 45 mX2_trapAround := Or.inr ⟨"PagesForAll", List.mem_of_getElem? (i := 57) rfl⟩
theorem mlX5_48 : ab_ML RX5 48 mX2_withinOf := Or.inr ⟨"PagesForAll", List.mem_of_getElem? (i := 58) rfl⟩
theorem mlX5_51 : ab_ML RX5 51 mX5_spotOf := Or.inl (wT3 11 rfl rfl)
theorem mlX5_54 : ab_ML RX5 54 mX5_spotBehind := Or.inl (wT3 15 rfl rfl)
theorem mlX5_57 : ab_ML RX5 57 mX5_spotAhead := Or.inl (wT3 19 rfl rfl)
theorem flX6_11 : ab_FL RX6 11 6 2 := ⟨RX6, TX6, 11, tyX6, rfl, by decide, inlX6, tyX6_ok, nmX6, Or.inl (wT1 164 rfl rfl)⟩
theorem flX6_15 : ab_FL RX6 15 6 5 := ⟨RX6, TX6, 11, tyX6, rfl, by decide, inlX6, tyX6_ok, nmX6, Or.inl (wT1 167 rfl rfl)⟩
theorem flX6_18 : ab_FL RX6 18 6 6 := ⟨RX6, TX6, 11, tyX6, rfl, by decide, inlX6, tyX6_ok, nmX6, Or.inl (wT1 168 rfl rfl)⟩
theorem flX6_21 : ab_FL RX6 21 6 7 := ⟨RX6, TX6, 11, tyX6, rfl, by decide, inlX6, tyX6_ok, nmX6, Or.inl (wT1 169 rfl rfl)⟩
theorem flX6_24 : ab_FL RX6 24 6 9 := ⟨RX6, TX6, 11, tyX6, rfl, by decide, inlX6, tyX6_ok, nmX6, Or.inl (wT1 171 rfl rfl)⟩
theorem flX6_27 : ab_FL RX6 27 6 0 := ⟨RX6, TX6, 11, tyX6, rfl, by decide, inlX6, tyX6_ok, nmX6, Or.inl (wT1 162 rfl rfl)⟩
theorem flX6_31 : ab_FL RX6 31 6 1 := ⟨RX6, TX6, 11, tyX6, rfl, by decide, inlX6, tyX6_ok, nmX6, Or.inl (wT1 163 rfl rfl)⟩
theorem flX6_35 : ab_FL RX6 35 6 3 := ⟨RX6, TX6, 11, tyX6, rfl, by decide, inlX6, tyX6_ok, nmX6, Or.inl (wT1 165 rfl rfl)⟩
theorem flX6_39 : ab_FL RX6 39 6 4 := ⟨RX6, TX6, 11, tyX6, rfl, by decide, inlX6, tyX6_ok, nmX6, Or.inl (wT1 166 rfl rfl)⟩
theorem flX6_42 : ab_FL RX6 42 6 8 := ⟨RX6, TX6, 11, tyX6, rfl, by decide, inlX6, tyX6_ok, nmX6, Or.inl (wT1 170 rfl rfl)⟩
theorem flX6_45 : ab_FL RX6 45 6 10 := ⟨RX6, TX6, 11, tyX6, rfl, by decide, inlX6, tyX6_ok, nmX6, Or.inl (wT1 172 rfl rfl)⟩
theorem mlX6_48 : ab_ML RX6 48 mX6_find := Or.inl (wT3 44 rfl rfl)
theorem mlX6_52 : ab_ML RX6 52 mX2_withinOf := Or.inr ⟨"PagesForAll", List.mem_of_getElem? (i := 70) rfl⟩
theorem mlX6_58 : ab_ML RX6 58 mX6_takeDoors := Or.inl (wT3 48 rfl rfl)
theorem mlX6_61 : ab_ML RX6 61 mX6_doorsShutNow := Or.inl (wT3 55 rfl rfl)
theorem mlX6_65 : ab_ML RX6 65 mX6_come := Or.inl (wT3 60 rfl rfl)
theorem mlX6_69 : ab_ML RX6 69 mX6_focusIn := Or.inl (wT3 64 rfl rfl)
theorem mlX6_72 : ab_ML RX6 72 mX7_holds := Or.inr ⟨"PagesForAll", List.mem_of_getElem? (i := 62) rfl⟩
theorem mlX6_76 : ab_ML RX6 76 mX6_pressAllKeys := Or.inl (wT3 67 rfl rfl)
theorem mlX6_80 : ab_ML RX6 80 mX2_openedBesides := Or.inr ⟨"PagesForAll", List.mem_of_getElem? (i := 61) rfl⟩
theorem flX6_83 : ab_FL RX6 83 2 5 := ⟨RX2, TX2, 6, tyX2, rfl, by decide, inlX2, tyX2_ok, nmX2, Or.inr ⟨"PagesForAll", List.mem_of_getElem? (i := 11) rfl⟩⟩
theorem mlX6_86 : ab_ML RX6 86 mX2_hiddenNow := Or.inr ⟨"PagesForAll", List.mem_of_getElem? (i := 63) rfl⟩
theorem mlX6_89 : ab_ML RX6 89 mX2_get := Or.inr ⟨"PagesForAll", List.mem_of_getElem? (i := 64) rfl⟩
theorem mlX6_92 : ab_ML RX6 92 mX2_shownUnder := Or.inr ⟨"PagesForAll", List.mem_of_getElem? (i := 65) rfl⟩
theorem mlX6_95 : ab_ML RX6 95 mX6_shownIf := Or.inl (wT3 71 rfl rfl)
theorem mlX6_98 : ab_ML RX6 98 mX5_turn := Or.inr ⟨"PagesForAll", List.mem_of_getElem? (i := 66) rfl⟩
theorem mlX6_104 : ab_ML RX6 104 mX6_comeFrom := Or.inl (wT3 77 rfl rfl)
theorem mlX6_107 : ab_ML RX6 107 mX6_doorOf := Or.inl (wT3 81 rfl rfl)
theorem mlX6_110 : ab_ML RX6 110 mX2_openedByButton := Or.inr ⟨"PagesForAll", List.mem_of_getElem? (i := 67) rfl⟩
theorem mlL_13 : ab_ML RL 13 mX7_part := Or.inl (wT2 22 rfl rfl)
theorem mlL_17 : ab_ML RL 17 mX8_part := Or.inl (wT4 37 rfl rfl)
theorem mlL_18 : ab_ML RL 18 mX7_set := Or.inl (wT2 48 rfl rfl)
theorem mlL_22 : ab_ML RL 22 mX8_set := Or.inl (wT4 49 rfl rfl)
theorem mlL_23 : ab_ML RL 23 mX7_told := Or.inl (wT2 100 rfl rfl)
theorem mlL_26 : ab_ML RL 26 mX8_told := Or.inl (wT4 84 rfl rfl)
theorem mlL_27 : ab_ML RL 27 mX7_box := Or.inl (wT2 104 rfl rfl)
theorem mlL_31 : ab_ML RL 31 mX8_box := Or.inl (wT4 89 rfl rfl)
theorem mlL_32 : ab_ML RL 32 mX7_colours := Or.inl (wT2 111 rfl rfl)
theorem mlL_35 : ab_ML RL 35 mX8_colours := Or.inl (wT4 94 rfl rfl)
theorem mlL_36 : ab_ML RL 36 mX7_contrast := Or.inl (wT2 137 rfl rfl)
theorem mlL_40 : ab_ML RL 40 mX8_contrast := Or.inl (wT4 109 rfl rfl)
theorem mlL_41 : ab_ML RL 41 mX7_name := Or.inl (wT2 141 rfl rfl)
theorem mlL_44 : ab_ML RL 44 mX8_name := Or.inl (wT4 113 rfl rfl)
theorem mlL_45 : ab_ML RL 45 mX7_word := Or.inl (wT2 169 rfl rfl)
theorem mlL_48 : ab_ML RL 48 mX8_word := Or.inl (wT4 133 rfl rfl)
theorem mlL_49 : ab_ML RL 49 mX7_said := Or.inl (wT2 178 rfl rfl)
theorem mlL_52 : ab_ML RL 52 mX8_said := Or.inl (wT4 137 rfl rfl)
theorem mlL_53 : ab_ML RL 53 mX7_pairs := Or.inl (wT2 197 rfl rfl)
theorem mlL_57 : ab_ML RL 57 mX8_pairs := Or.inl (wT4 145 rfl rfl)
theorem mlL_58 : ab_ML RL 58 mX7_stop := Or.inl (wT2 221 rfl rfl)
theorem mlL_61 : ab_ML RL 61 mX8_stop := Or.inl (wT4 161 rfl rfl)
theorem mlL_62 : ab_ML RL 62 mX7_press := Or.inl (wT2 230 rfl rfl)
theorem mlL_65 : ab_ML RL 65 mX8_press := Or.inl (wT4 173 rfl rfl)
theorem mlL_66 : ab_ML RL 66 mX7_focus := Or.inl (wT3 23 rfl rfl)
theorem mlL_69 : ab_ML RL 69 mX8_focus := Or.inl (wT4 186 rfl rfl)
theorem mlL_70 : ab_ML RL 70 mX7_caught := Or.inl (wT3 27 rfl rfl)
theorem mlL_73 : ab_ML RL 73 mX8_caught := Or.inl (wT4 190 rfl rfl)
theorem mlL_74 : ab_ML RL 74 mX7_leave := Or.inl (wT3 32 rfl rfl)
theorem mlL_77 : ab_ML RL 77 mX8_leave := Or.inl (wT4 194 rfl rfl)
theorem mlL_78 : ab_ML RL 78 mX7_walk := Or.inl (wT3 36 rfl rfl)
theorem mlL_81 : ab_ML RL 81 mX8_walk := Or.inl (wT4 198 rfl rfl)
theorem mlL_82 : ab_ML RL 82 mX7_key := Or.inl (wT3 86 rfl rfl)
theorem mlL_85 : ab_ML RL 85 mX8_key := Or.inl (wT4 222 rfl rfl)
theorem mlL_86 : ab_ML RL 86 mX7_keeper := Or.inl (wT3 94 rfl rfl)
theorem mlL_89 : ab_ML RL 89 mX8_keeper := Or.inl (wT4 226 rfl rfl)
theorem mlL_90 : ab_ML RL 90 mX7_hear := Or.inl (wT3 103 rfl rfl)
theorem mlL_93 : ab_ML RL 93 mX8_hear := Or.inl (wT4 230 rfl rfl)
theorem mlL_94 : ab_ML RL 94 mX7_wrongs := Or.inl (wT3 111 rfl rfl)
theorem mlL_97 : ab_ML RL 97 mX8_wrongs := Or.inl (wT4 234 rfl rfl)
theorem mlL_98 : ab_ML RL 98 mX7_wrong := Or.inl (wT3 163 rfl rfl)
theorem mlL_101 : ab_ML RL 101 mX8_wrong := Or.inl (wT5 20 rfl rfl)
theorem mlL_102 : ab_ML RL 102 mX7_mend := Or.inl (wT3 175 rfl rfl)
theorem mlL_105 : ab_ML RL 105 mX8_mend := Or.inl (wT5 24 rfl rfl)
theorem mlL_106 : ab_ML RL 106 mX7_count := Or.inl (wT3 187 rfl rfl)
theorem mlL_109 : ab_ML RL 109 mX8_count := Or.inl (wT5 30 rfl rfl)
theorem mlL_110 : ab_ML RL 110 mX7_digest := Or.inl (wT3 192 rfl rfl)
theorem mlL_114 : ab_ML RL 114 mX8_digest := Or.inl (wT5 38 rfl rfl)
theorem flX8_7 : ab_FL RX8 7 8 1 := ⟨RX8, TX8, 21, tyX8, rfl, by decide, inlX8, tyX8_ok, nmX8, Or.inl (wT3 214 rfl rfl)⟩
theorem flX8_13 : ab_FL RX8 13 8 4 := ⟨RX8, TX8, 21, tyX8, rfl, by decide, inlX8, tyX8_ok, nmX8, Or.inl (wT3 217 rfl rfl)⟩
theorem flX8_16 : ab_FL RX8 16 8 5 := ⟨RX8, TX8, 21, tyX8, rfl, by decide, inlX8, tyX8_ok, nmX8, Or.inl (wT3 218 rfl rfl)⟩
theorem flX8_19 : ab_FL RX8 19 8 6 := ⟨RX8, TX8, 21, tyX8, rfl, by decide, inlX8, tyX8_ok, nmX8, Or.inl (wT3 219 rfl rfl)⟩
theorem flX8_22 : ab_FL RX8 22 8 7 := ⟨RX8, TX8, 21, tyX8, rfl, by decide, inlX8, tyX8_ok, nmX8, Or.inl (wT3 220 rfl rfl)⟩
theorem flX8_25 : ab_FL RX8 25 8 8 := ⟨RX8, TX8, 21, tyX8, rfl, by decide, inlX8, tyX8_ok, nmX8, Or.inl (wT3 221 rfl rfl)⟩
theorem flX8_28 : ab_FL RX8 28 8 9 := ⟨RX8, TX8, 21, tyX8, rfl, by decide, inlX8, tyX8_ok, nmX8, Or.inl (wT3 222 rfl rfl)⟩
theorem flX8_31 : ab_FL RX8 31 8 11 := ⟨RX8, TX8, 21, tyX8, rfl, by decide, inlX8, tyX8_ok, nmX8, Or.inl (wT3 224 rfl rfl)⟩
theorem flX8_34 : ab_FL RX8 34 8 13 := ⟨RX8, TX8, 21, tyX8, rfl, by decide, inlX8, tyX8_ok, nmX8, Or.inl (wT3 226 rfl rfl)⟩
theorem flX8_37 : ab_FL RX8 37 8 15 := ⟨RX8, TX8, 21, tyX8, rfl, by decide, inlX8, tyX8_ok, nmX8, Or.inl (wT3 228 rfl rfl)⟩
theorem flX8_40 : ab_FL RX8 40 8 16 := ⟨RX8, TX8, 21, tyX8, rfl, by decide, inlX8, tyX8_ok, nmX8, Or.inl (wT3 229 rfl rfl)⟩
theorem flX8_43 : ab_FL RX8 43 8 18 := ⟨RX8, TX8, 21, tyX8, rfl, by decide, inlX8, tyX8_ok, nmX8, Or.inl (wT3 231 rfl rfl)⟩
theorem flX8_46 : ab_FL RX8 46 8 19 := ⟨RX8, TX8, 21, tyX8, rfl, by decide, inlX8, tyX8_ok, nmX8, Or.inl (wT3 232 rfl rfl)⟩
theorem flX8_49 : ab_FL RX8 49 8 2 := ⟨RX8, TX8, 21, tyX8, rfl, by decide, inlX8, tyX8_ok, nmX8, Or.inl (wT3 215 rfl rfl)⟩
theorem mlX8_53 : ab_ML RX8 53 mX8_begin := Or.inl (wT3 204 rfl rfl)
theorem flX8_57 : ab_FL RX8 57 8 0 := ⟨RX8, TX8, 21, tyX8, rfl, by decide, inlX8, tyX8_ok, nmX8, Or.inl (wT3 213 rfl rfl)⟩
theorem mlX8_60 : ab_ML RX8 60 mX8_put := Or.inl (wT3 208 rfl rfl)
theorem mlX8_64 : ab_ML RX8 64 mX8_in := Or.inl (wT4 45 rfl rfl)
theorem mlX8_68 : ab_ML RX8 68 mX8_isPart := Or.inl (wT4 41 rfl rfl)
theorem mlX8_74 : ab_ML RX8 74 mX8_get := Or.inl (wT4 64 rfl rfl)
theorem mlX8_78 : ab_ML RX8 78 mX8_isOpenedBy := Or.inl (wT4 60 rfl rfl)
theorem mlX8_86 : ab_ML RX8 86 mX8_innermost := Or.inl (wT4 72 rfl rfl)
theorem mlX8_89 : ab_ML RX8 89 mX8_isShown := Or.inl (wT4 76 rfl rfl)
theorem flX8_92 : ab_FL RX8 92 8 3 := ⟨RX8, TX8, 21, tyX8, rfl, by decide, inlX8, tyX8_ok, nmX8, Or.inl (wT3 216 rfl rfl)⟩
theorem mlX8_97 : ab_ML RX8 97 mX8_isFor := Or.inl (wT4 54 rfl rfl)
theorem mlX8_100 : ab_ML RX8 100 mX8_speak := Or.inl (wT4 68 rfl rfl)
theorem mlX8_104 : ab_ML RX8 104 mX8_lookAtFocus := Or.inl (wT4 80 rfl rfl)
theorem mlX8_117 : ab_ML RX8 117 mX8_light := Or.inl (wT4 102 rfl rfl)
theorem mlX8_125 : ab_ML RX8 125 mX8_contrastOf := Or.inl (wT4 99 rfl rfl)
theorem mlX8_128 : ab_ML RX8 128 mX8_addWord := Or.inl (wT4 121 rfl rfl)
theorem mlX8_132 : ab_ML RX8 132 mX8_line := Or.inl (wT4 125 rfl rfl)
theorem mlX8_135 : ab_ML RX8 135 mX8_lies := Or.inl (wT4 129 rfl rfl)
theorem mlX8_138 : ab_ML RX8 138 mX8_findName := Or.inl (wT4 117 rfl rfl)
theorem flX8_141 : ab_FL RX8 141 8 10 := ⟨RX8, TX8, 21, tyX8, rfl, by decide, inlX8, tyX8_ok, nmX8, Or.inl (wT3 223 rfl rfl)⟩
theorem mlX8_144 : ab_ML RX8 144 mX8_findSaid := Or.inl (wT4 141 rfl rfl)
theorem mlX8_147 : ab_ML RX8 147 mX8_hasBox := Or.inl (wT4 153 rfl rfl)
theorem mlX8_150 : ab_ML RX8 150 mX8_isAbove := Or.inl (wT4 157 rfl rfl)
theorem mlX8_153 : ab_ML RX8 153 mX8_isAstray := Or.inl (wT4 149 rfl rfl)
theorem flX8_156 : ab_FL RX8 156 8 12 := ⟨RX8, TX8, 21, tyX8, rfl, by decide, inlX8, tyX8_ok, nmX8, Or.inl (wT3 225 rfl rfl)⟩
theorem mlX8_159 : ab_ML RX8 159 mX8_isStop := Or.inl (wT4 169 rfl rfl)
theorem mlX8_162 : ab_ML RX8 162 mX8_findStops := Or.inl (wT4 165 rfl rfl)
theorem mlX8_165 : ab_ML RX8 165 mX8_trapOf := Or.inl (wT4 182 rfl rfl)
theorem mlX8_171 : ab_ML RX8 171 mX8_pressed := Or.inl (wT4 178 rfl rfl)
theorem flX8_175 : ab_FL RX8 175 8 14 := ⟨RX8, TX8, 21, tyX8, rfl, by decide, inlX8, tyX8_ok, nmX8, Or.inl (wT3 227 rfl rfl)⟩
theorem mlX8_178 : ab_ML RX8 178 mX8_findDoors := Or.inl (wT4 206 rfl rfl)
theorem mlX8_181 : ab_ML RX8 181 mX8_state := Or.inl (wT4 210 rfl rfl)
theorem flX8_185 : ab_FL RX8 185 8 17 := ⟨RX8, TX8, 21, tyX8, rfl, by decide, inlX8, tyX8_ok, nmX8, Or.inl (wT3 230 rfl rfl)⟩
theorem mlX8_188 : ab_ML RX8 188 mX8_come := Or.inl (wT4 214 rfl rfl)
theorem mlX8_191 : ab_ML RX8 191 mX8_spread := Or.inl (wT4 202 rfl rfl)
theorem mlX8_194 : ab_ML RX8 194 mX8_leastTo := Or.inl (wT4 218 rfl rfl)
theorem mlX8_197 : ab_ML RX8 197 mX8_isTwin := Or.inl (wT5 6 rfl rfl)
theorem mlX8_200 : ab_ML RX8 200 mX8_contrast := Or.inl (wT5 10 rfl rfl)
theorem mlX8_203 : ab_ML RX8 203 mX8_isClosed := Or.inl (wT5 11 rfl rfl)
theorem mlX8_206 : ab_ML RX8 206 mX8_isAhead := Or.inl (wT5 15 rfl rfl)
theorem flX8_211 : ab_FL RX8 211 8 20 := ⟨RX8, TX8, 21, tyX8, rfl, by decide, inlX8, tyX8_ok, nmX8, Or.inl (wT3 233 rfl rfl)⟩
theorem mlX8_214 : ab_ML RX8 214 mX8_isWrong := Or.inl (wT5 2 rfl rfl)
theorem mlX8_217 : ab_ML RX8 217 mX8_findWrongs := Or.inl (wT4 238 rfl rfl)
theorem mlX8_221 : ab_ML RX8 221 mX8_wrongs := Or.inl (wT5 29 rfl rfl)
theorem mlX8_224 : ab_ML RX8 224 mX8_opened := Or.inl (wT5 34 rfl rfl)
theorem fiX0_5 : ab_FI 0 5 := ⟨RX0, TX0, 6, rfl, rfl, by decide +kernel⟩
theorem fiX2_5 : ab_FI 2 5 := ⟨RX2, TX2, 6, rfl, rfl, by decide +kernel⟩
theorem fiX3_2 : ab_FI 3 2 := ⟨RX3, TX3, 5, rfl, rfl, by decide +kernel⟩
theorem fiX3_3 : ab_FI 3 3 := ⟨RX3, TX3, 5, rfl, rfl, by decide +kernel⟩
theorem fiX3_4 : ab_FI 3 4 := ⟨RX3, TX3, 5, rfl, rfl, by decide +kernel⟩
theorem fiX4_1 : ab_FI 4 1 := ⟨RX4, TX4, 2, rfl, rfl, by decide +kernel⟩
theorem fiX5_2 : ab_FI 5 2 := ⟨RX5, TX5, 3, rfl, rfl, by decide +kernel⟩
theorem fiX6_3 : ab_FI 6 3 := ⟨RX6, TX6, 11, rfl, rfl, by decide +kernel⟩
theorem fiX6_4 : ab_FI 6 4 := ⟨RX6, TX6, 11, rfl, rfl, by decide +kernel⟩
theorem fiX6_8 : ab_FI 6 8 := ⟨RX6, TX6, 11, rfl, rfl, by decide +kernel⟩
theorem fiX6_10 : ab_FI 6 10 := ⟨RX6, TX6, 11, rfl, rfl, by decide +kernel⟩
theorem fiX7_7 : ab_FI 7 7 := ⟨RX7, TX7, 8, rfl, rfl, by decide +kernel⟩
theorem fiX8_0 : ab_FI 8 0 := ⟨RX8, TX8, 21, rfl, rfl, by decide +kernel⟩
theorem fiX8_2 : ab_FI 8 2 := ⟨RX8, TX8, 21, rfl, rfl, by decide +kernel⟩
theorem fiX8_3 : ab_FI 8 3 := ⟨RX8, TX8, 21, rfl, rfl, by decide +kernel⟩
theorem fiX8_10 : ab_FI 8 10 := ⟨RX8, TX8, 21, rfl, rfl, by decide +kernel⟩
theorem fiX8_12 : ab_FI 8 12 := ⟨RX8, TX8, 21, rfl, rfl, by decide +kernel⟩
theorem fiX8_14 : ab_FI 8 14 := ⟨RX8, TX8, 21, rfl, rfl, by decide +kernel⟩
theorem fiX8_17 : ab_FI 8 17 := ⟨RX8, TX8, 21, rfl, rfl, by decide +kernel⟩
theorem fiX8_20 : ab_FI 8 20 := ⟨RX8, TX8, 21, rfl, rfl, by decide +kernel⟩
theorem moX0_gather : ab_MO mX0_gather 0 := ⟨wT3 118 rfl rfl, wT1 8 rfl rfl, by decide +kernel, by decide +kernel, by decide +kernel, by decide +kernel⟩
theorem imX0_gather : ab_IM mX0_gather := ⟨wT3 117 rfl rfl, wSl 58 rfl rfl⟩
theorem moX0_hasFault : ab_MO mX0_hasFault 3 := ⟨wT3 127 rfl rfl, wT1 8 rfl rfl, by decide +kernel, by decide +kernel, by decide +kernel, by decide +kernel⟩
theorem imX0_hasFault : ab_IM mX0_hasFault := ⟨wT3 126 rfl rfl, wSl 59 rfl rfl⟩
theorem moX0_isNameless : ab_MO mX0_isNameless 1 := ⟨wT3 131 rfl rfl, wT1 8 rfl rfl, by decide +kernel, by decide +kernel, by decide +kernel, by decide +kernel⟩
theorem imX0_isNameless : ab_IM mX0_isNameless := ⟨wT3 130 rfl rfl, wSl 60 rfl rfl⟩
theorem moX0_isTwin : ab_MO mX0_isTwin 2 := ⟨wT3 137 rfl rfl, wT1 8 rfl rfl, by decide +kernel, by decide +kernel, by decide +kernel, by decide +kernel⟩
theorem imX0_isTwin : ab_IM mX0_isTwin := ⟨wT3 136 rfl rfl, wSl 61 rfl rfl⟩
theorem moX0_isPale : ab_MO mX0_isPale 1 := ⟨wT3 150 rfl rfl, wT1 8 rfl rfl, by decide +kernel, by decide +kernel, by decide +kernel, by decide +kernel⟩
theorem imX0_isPale : ab_IM mX0_isPale := ⟨wT3 149 rfl rfl, wSl 64 rfl rfl⟩
theorem moX0_isClosed : ab_MO mX0_isClosed 2 := ⟨wT3 155 rfl rfl, wT1 8 rfl rfl, by decide +kernel, by decide +kernel, by decide +kernel, by decide +kernel⟩
theorem imX0_isClosed : ab_IM mX0_isClosed := ⟨wT3 154 rfl rfl, wSl 65 rfl rfl⟩
theorem moX0_isShort : ab_MO mX0_isShort 1 := ⟨wT3 162 rfl rfl, wT1 8 rfl rfl, by decide +kernel, by decide +kernel, by decide +kernel, by decide +kernel⟩
theorem imX0_isShort : ab_IM mX0_isShort := ⟨wT3 161 rfl rfl, wSl 66 rfl rfl⟩
theorem moX0_partAt : ab_MO mX0_partAt 1 := ⟨wT3 170 rfl rfl, wT1 8 rfl rfl, by decide +kernel, by decide +kernel, by decide +kernel, by decide +kernel⟩
theorem imX0_partAt : ab_IM mX0_partAt := ⟨wT3 169 rfl rfl, wSl 67 rfl rfl⟩
theorem moX0_sortAt : ab_MO mX0_sortAt 1 := ⟨wT3 174 rfl rfl, wT1 8 rfl rfl, by decide +kernel, by decide +kernel, by decide +kernel, by decide +kernel⟩
theorem imX0_sortAt : ab_IM mX0_sortAt := ⟨wT3 173 rfl rfl, wSl 68 rfl rfl⟩
theorem moX0_mendAt : ab_MO mX0_mendAt 2 := ⟨wT3 182 rfl rfl, wT1 8 rfl rfl, by decide +kernel, by decide +kernel, by decide +kernel, by decide +kernel⟩
theorem imX0_mendAt : ab_IM mX0_mendAt := ⟨wT3 181 rfl rfl, wSl 69 rfl rfl⟩
theorem moX1_compose : ab_MO mX1_compose 2 := ⟨wT2 148 rfl rfl, wT1 4 rfl rfl, by decide +kernel, by decide +kernel, by decide +kernel, by decide +kernel⟩
theorem imX1_compose : ab_IM mX1_compose := ⟨wT2 147 rfl rfl, wSl 24 rfl rfl⟩
theorem moX1_addTextsIn : ab_MO mX1_addTextsIn 2 := ⟨wT2 162 rfl rfl, wT1 4 rfl rfl, by decide +kernel, by decide +kernel, by decide +kernel, by decide +kernel⟩
theorem imX1_addTextsIn : ab_IM mX1_addTextsIn := ⟨wT2 161 rfl rfl, wSl 27 rfl rfl⟩
theorem moX1_addOwnOf : ab_MO mX1_addOwnOf 2 := ⟨wT2 154 rfl rfl, wT1 4 rfl rfl, by decide +kernel, by decide +kernel, by decide +kernel, by decide +kernel⟩
theorem imX1_addOwnOf : ab_IM mX1_addOwnOf := ⟨wT2 153 rfl rfl, wSl 25 rfl rfl⟩
theorem moX1_add : ab_MO mX1_add 2 := ⟨wT2 158 rfl rfl, wT1 4 rfl rfl, by decide +kernel, by decide +kernel, by decide +kernel, by decide +kernel⟩
theorem imX1_add : ab_IM mX1_add := ⟨wT2 157 rfl rfl, wSl 26 rfl rfl⟩
theorem moX1_lengthOf : ab_MO mX1_lengthOf 1 := ⟨wT2 168 rfl rfl, wT1 4 rfl rfl, by decide +kernel, by decide +kernel, by decide +kernel, by decide +kernel⟩
theorem imX1_lengthOf : ab_IM mX1_lengthOf := ⟨wT2 167 rfl rfl, wSl 28 rfl rfl⟩
theorem moX1_wordOf : ab_MO mX1_wordOf 2 := ⟨wT2 176 rfl rfl, wT1 4 rfl rfl, by decide +kernel, by decide +kernel, by decide +kernel, by decide +kernel⟩
theorem imX1_wordOf : ab_IM mX1_wordOf := ⟨wT2 175 rfl rfl, wSl 29 rfl rfl⟩
theorem moX1_areAlike : ab_MO mX1_areAlike 2 := ⟨wT3 145 rfl rfl, wT1 4 rfl rfl, by decide +kernel, by decide +kernel, by decide +kernel, by decide +kernel⟩
theorem imX1_areAlike : ab_IM mX1_areAlike := ⟨wT3 144 rfl rfl, wSl 63 rfl rfl⟩
theorem moX2_has : ab_MO mX2_has 1 := ⟨wT1 37 rfl rfl, wT1 2 rfl rfl, by decide +kernel, by decide +kernel, by decide +kernel, by decide +kernel⟩
theorem imX2_has : ab_IM mX2_has := ⟨wT1 36 rfl rfl, wSl 2 rfl rfl⟩
theorem moX2_isFull : ab_MO mX2_isFull 0 := ⟨wT2 30 rfl rfl, wT1 2 rfl rfl, by decide +kernel, by decide +kernel, by decide +kernel, by decide +kernel⟩
theorem imX2_isFull : ab_IM mX2_isFull := ⟨wT2 29 rfl rfl, wSl 8 rfl rfl⟩
theorem moX2_get : ab_MO mX2_get 2 := ⟨wT2 39 rfl rfl, wT1 2 rfl rfl, by decide +kernel, by decide +kernel, by decide +kernel, by decide +kernel⟩
theorem imX2_get : ab_IM mX2_get := ⟨wT2 38 rfl rfl, wSl 10 rfl rfl⟩
theorem moX2_put : ab_MO mX2_put 3 := ⟨wT1 66 rfl rfl, wT1 2 rfl rfl, by decide +kernel, by decide +kernel, by decide +kernel, by decide +kernel⟩
theorem imX2_put : ab_IM mX2_put := ⟨wT1 65 rfl rfl, wSl 7 rfl rfl⟩
theorem moX2_aroundOf : ab_MO mX2_aroundOf 1 := ⟨wT1 55 rfl rfl, wT1 2 rfl rfl, by decide +kernel, by decide +kernel, by decide +kernel, by decide +kernel⟩
theorem imX2_aroundOf : ab_IM mX2_aroundOf := ⟨wT1 54 rfl rfl, wSl 5 rfl rfl⟩
theorem moX2_withinOf : ab_MO mX2_withinOf 1 := ⟨wT1 45 rfl rfl, wT1 2 rfl rfl, by decide +kernel, by decide +kernel, by decide +kernel, by decide +kernel⟩
theorem imX2_withinOf : ab_IM mX2_withinOf := ⟨wT1 44 rfl rfl, wSl 4 rfl rfl⟩
theorem moX2_add : ab_MO mX2_add 2 := ⟨wT1 29 rfl rfl, wT1 2 rfl rfl, by decide +kernel, by decide +kernel, by decide +kernel, by decide +kernel⟩
theorem imX2_add : ab_IM mX2_add := ⟨wT1 28 rfl rfl, wSl 0 rfl rfl⟩
theorem moX2_insertInOrder : ab_MO mX2_insertInOrder 1 := ⟨wT1 33 rfl rfl, wT1 2 rfl rfl, by decide +kernel, by decide +kernel, by decide +kernel, by decide +kernel⟩
theorem imX2_insertInOrder : ab_IM mX2_insertInOrder := ⟨wT1 32 rfl rfl, wSl 1 rfl rfl⟩
theorem moX2_spotInOrder : ab_MO mX2_spotInOrder 1 := ⟨wT1 41 rfl rfl, wT1 2 rfl rfl, by decide +kernel, by decide +kernel, by decide +kernel, by decide +kernel⟩
theorem imX2_spotInOrder : ab_IM mX2_spotInOrder := ⟨wT1 40 rfl rfl, wSl 3 rfl rfl⟩
theorem moX2_putFirstValues : ab_MO mX2_putFirstValues 3 := ⟨wT1 62 rfl rfl, wT1 2 rfl rfl, by decide +kernel, by decide +kernel, by decide +kernel, by decide +kernel⟩
theorem imX2_putFirstValues : ab_IM mX2_putFirstValues := ⟨wT1 61 rfl rfl, wSl 6 rfl rfl⟩
theorem moX2_allows : ab_MO mX2_allows 2 := ⟨wT2 55 rfl rfl, wT1 2 rfl rfl, by decide +kernel, by decide +kernel, by decide +kernel, by decide +kernel⟩
theorem imX2_allows : ab_IM mX2_allows := ⟨wT2 54 rfl rfl, wSl 13 rfl rfl⟩
theorem moX2_hiddenNow : ab_MO mX2_hiddenNow 0 := ⟨wT2 91 rfl rfl, wT1 2 rfl rfl, by decide +kernel, by decide +kernel, by decide +kernel, by decide +kernel⟩
theorem imX2_hiddenNow : ab_IM mX2_hiddenNow := ⟨wT2 90 rfl rfl, wSl 20 rfl rfl⟩
theorem moX2_shownNow : ab_MO mX2_shownNow 0 := ⟨wT2 87 rfl rfl, wT1 2 rfl rfl, by decide +kernel, by decide +kernel, by decide +kernel, by decide +kernel⟩
theorem imX2_shownNow : ab_IM mX2_shownNow := ⟨wT2 86 rfl rfl, wSl 19 rfl rfl⟩
theorem moX2_shownUnder : ab_MO mX2_shownUnder 1 := ⟨wT2 95 rfl rfl, wT1 2 rfl rfl, by decide +kernel, by decide +kernel, by decide +kernel, by decide +kernel⟩
theorem imX2_shownUnder : ab_IM mX2_shownUnder := ⟨wT2 94 rfl rfl, wSl 21 rfl rfl⟩
theorem moX2_stopsAmong : ab_MO mX2_stopsAmong 1 := ⟨wT3 141 rfl rfl, wT1 2 rfl rfl, by decide +kernel, by decide +kernel, by decide +kernel, by decide +kernel⟩
theorem imX2_stopsAmong : ab_IM mX2_stopsAmong := ⟨wT3 140 rfl rfl, wSl 62 rfl rfl⟩
theorem moX2_openedBesides : ab_MO mX2_openedBesides 1 := ⟨wT2 63 rfl rfl, wT1 2 rfl rfl, by decide +kernel, by decide +kernel, by decide +kernel, by decide +kernel⟩
theorem imX2_openedBesides : ab_IM mX2_openedBesides := ⟨wT2 62 rfl rfl, wSl 15 rfl rfl⟩
theorem moX2_openedByButton : ab_MO mX2_openedByButton 1 := ⟨wT3 1 rfl rfl, wT1 2 rfl rfl, by decide +kernel, by decide +kernel, by decide +kernel, by decide +kernel⟩
theorem imX2_openedByButton : ab_IM mX2_openedByButton := ⟨wT3 0 rfl rfl, wSl 40 rfl rfl⟩
theorem moX2_trapAround : ab_MO mX2_trapAround 2 := ⟨wT3 9 rfl rfl, wT1 2 rfl rfl, by decide +kernel, by decide +kernel, by decide +kernel, by decide +kernel⟩
theorem imX2_trapAround : ab_IM mX2_trapAround := ⟨wT3 8 rfl rfl, wSl 42 rfl rfl⟩
theorem moX2_liveAround : ab_MO mX2_liveAround 1 := ⟨wT2 80 rfl rfl, wT1 2 rfl rfl, by decide +kernel, by decide +kernel, by decide +kernel, by decide +kernel⟩
theorem imX2_liveAround : ab_IM mX2_liveAround := ⟨wT2 79 rfl rfl, wSl 18 rfl rfl⟩
theorem moX2_contrastOf : ab_MO mX2_contrastOf 1 := ⟨wT2 122 rfl rfl, wT1 2 rfl rfl, by decide +kernel, by decide +kernel, by decide +kernel, by decide +kernel⟩
theorem imX2_contrastOf : ab_IM mX2_contrastOf := ⟨wT2 121 rfl rfl, wSl 23 rfl rfl⟩
theorem moX3_gather : ab_MO mX3_gather 1 := ⟨wT2 185 rfl rfl, wT1 5 rfl rfl, by decide +kernel, by decide +kernel, by decide +kernel, by decide +kernel⟩
theorem imX3_gather : ab_IM mX3_gather := ⟨wT2 184 rfl rfl, wSl 30 rfl rfl⟩
theorem moX3_isToBeSaid : ab_MO mX3_isToBeSaid 1 := ⟨wT2 190 rfl rfl, wT1 5 rfl rfl, by decide +kernel, by decide +kernel, by decide +kernel, by decide +kernel⟩
theorem imX3_isToBeSaid : ab_IM mX3_isToBeSaid := ⟨wT2 189 rfl rfl, wSl 31 rfl rfl⟩
theorem moX3_at : ab_MO mX3_at 1 := ⟨wT2 196 rfl rfl, wT1 5 rfl rfl, by decide +kernel, by decide +kernel, by decide +kernel, by decide +kernel⟩
theorem imX3_at : ab_IM mX3_at := ⟨wT2 195 rfl rfl, wSl 32 rfl rfl⟩
theorem moX3_compare : ab_MO mX3_compare 0 := ⟨wT2 204 rfl rfl, wT1 5 rfl rfl, by decide +kernel, by decide +kernel, by decide +kernel, by decide +kernel⟩
theorem imX3_compare : ab_IM mX3_compare := ⟨wT2 203 rfl rfl, wSl 33 rfl rfl⟩
theorem moX3_isAstray : ab_MO mX3_isAstray 2 := ⟨wT2 208 rfl rfl, wT1 5 rfl rfl, by decide +kernel, by decide +kernel, by decide +kernel, by decide +kernel⟩
theorem imX3_isAstray : ab_IM mX3_isAstray := ⟨wT2 207 rfl rfl, wSl 34 rfl rfl⟩
theorem moX3_hasArea : ab_MO mX3_hasArea 1 := ⟨wT2 212 rfl rfl, wT1 5 rfl rfl, by decide +kernel, by decide +kernel, by decide +kernel, by decide +kernel⟩
theorem imX3_hasArea : ab_IM mX3_hasArea := ⟨wT2 211 rfl rfl, wSl 35 rfl rfl⟩
theorem moX3_isAbove : ab_MO mX3_isAbove 2 := ⟨wT2 216 rfl rfl, wT1 5 rfl rfl, by decide +kernel, by decide +kernel, by decide +kernel, by decide +kernel⟩
theorem imX3_isAbove : ab_IM mX3_isAbove := ⟨wT2 215 rfl rfl, wSl 36 rfl rfl⟩
theorem moX3_isLeftOf : ab_MO mX3_isLeftOf 2 := ⟨wT2 220 rfl rfl, wT1 5 rfl rfl, by decide +kernel, by decide +kernel, by decide +kernel, by decide +kernel⟩
theorem imX3_isLeftOf : ab_IM mX3_isLeftOf := ⟨wT2 219 rfl rfl, wSl 37 rfl rfl⟩
theorem moX4_add : ab_MO mX4_add 1 := ⟨wT2 99 rfl rfl, wT1 9 rfl rfl, by decide +kernel, by decide +kernel, by decide +kernel, by decide +kernel⟩
theorem imX4_add : ab_IM mX4_add := ⟨wT2 98 rfl rfl, wSl 22 rfl rfl⟩
theorem moX4_takeFirst : ab_MO mX4_takeFirst 0 := ⟨wT3 110 rfl rfl, wT1 9 rfl rfl, by decide +kernel, by decide +kernel, by decide +kernel, by decide +kernel⟩
theorem imX4_takeFirst : ab_IM mX4_takeFirst := ⟨wT3 109 rfl rfl, wSl 57 rfl rfl⟩
theorem moX5_arrange : ab_MO mX5_arrange 0 := ⟨wT2 35 rfl rfl, wT1 6 rfl rfl, by decide +kernel, by decide +kernel, by decide +kernel, by decide +kernel⟩
theorem imX5_arrange : ab_IM mX5_arrange := ⟨wT2 34 rfl rfl, wSl 9 rfl rfl⟩
theorem moX5_insert : ab_MO mX5_insert 1 := ⟨wT2 43 rfl rfl, wT1 6 rfl rfl, by decide +kernel, by decide +kernel, by decide +kernel, by decide +kernel⟩
theorem imX5_insert : ab_IM mX5_insert := ⟨wT2 42 rfl rfl, wSl 11 rfl rfl⟩
theorem moX5_rank : ab_MO mX5_rank 1 := ⟨wT2 47 rfl rfl, wT1 6 rfl rfl, by decide +kernel, by decide +kernel, by decide +kernel, by decide +kernel⟩
theorem imX5_rank : ab_IM mX5_rank := ⟨wT2 46 rfl rfl, wSl 12 rfl rfl⟩
theorem moX5_at : ab_MO mX5_at 2 := ⟨wT2 228 rfl rfl, wT1 6 rfl rfl, by decide +kernel, by decide +kernel, by decide +kernel, by decide +kernel⟩
theorem imX5_at : ab_IM mX5_at := ⟨wT2 227 rfl rfl, wSl 38 rfl rfl⟩
theorem moX5_turn : ab_MO mX5_turn 3 := ⟨wT3 5 rfl rfl, wT1 6 rfl rfl, by decide +kernel, by decide +kernel, by decide +kernel, by decide +kernel⟩
theorem imX5_turn : ab_IM mX5_turn := ⟨wT3 4 rfl rfl, wSl 41 rfl rfl⟩
theorem moX5_spotBehind : ab_MO mX5_spotBehind 1 := ⟨wT3 18 rfl rfl, wT1 6 rfl rfl, by decide +kernel, by decide +kernel, by decide +kernel, by decide +kernel⟩
theorem imX5_spotBehind : ab_IM mX5_spotBehind := ⟨wT3 17 rfl rfl, wSl 44 rfl rfl⟩
theorem moX5_spotAhead : ab_MO mX5_spotAhead 1 := ⟨wT3 22 rfl rfl, wT1 6 rfl rfl, by decide +kernel, by decide +kernel, by decide +kernel, by decide +kernel⟩
theorem imX5_spotAhead : ab_IM mX5_spotAhead := ⟨wT3 21 rfl rfl, wSl 45 rfl rfl⟩
theorem moX5_spotOf : ab_MO mX5_spotOf 1 := ⟨wT3 14 rfl rfl, wT1 6 rfl rfl, by decide +kernel, by decide +kernel, by decide +kernel, by decide +kernel⟩
theorem imX5_spotOf : ab_IM mX5_spotOf := ⟨wT3 13 rfl rfl, wSl 43 rfl rfl⟩
theorem moX6_lengthTo : ab_MO mX6_lengthTo 2 := ⟨wT3 43 rfl rfl, wT1 7 rfl rfl, by decide +kernel, by decide +kernel, by decide +kernel, by decide +kernel⟩
theorem imX6_lengthTo : ab_IM mX6_lengthTo := ⟨wT3 42 rfl rfl, wSl 46 rfl rfl⟩
theorem moX6_firstKeyTo : ab_MO mX6_firstKeyTo 2 := ⟨wT3 93 rfl rfl, wT1 7 rfl rfl, by decide +kernel, by decide +kernel, by decide +kernel, by decide +kernel⟩
theorem imX6_firstKeyTo : ab_IM mX6_firstKeyTo := ⟨wT3 92 rfl rfl, wSl 55 rfl rfl⟩
theorem moX6_leadOutOf : ab_MO mX6_leadOutOf 2 := ⟨wT3 101 rfl rfl, wT1 7 rfl rfl, by decide +kernel, by decide +kernel, by decide +kernel, by decide +kernel⟩
theorem imX6_leadOutOf : ab_IM mX6_leadOutOf := ⟨wT3 100 rfl rfl, wSl 56 rfl rfl⟩
theorem moX6_find : ab_MO mX6_find 2 := ⟨wT3 47 rfl rfl, wT1 7 rfl rfl, by decide +kernel, by decide +kernel, by decide +kernel, by decide +kernel⟩
theorem imX6_find : ab_IM mX6_find := ⟨wT3 46 rfl rfl, wSl 47 rfl rfl⟩
theorem moX6_takeDoors : ab_MO mX6_takeDoors 0 := ⟨wT3 51 rfl rfl, wT1 7 rfl rfl, by decide +kernel, by decide +kernel, by decide +kernel, by decide +kernel⟩
theorem imX6_takeDoors : ab_IM mX6_takeDoors := ⟨wT3 50 rfl rfl, wSl 48 rfl rfl⟩
theorem moX6_doorsShutNow : ab_MO mX6_doorsShutNow 0 := ⟨wT3 58 rfl rfl, wT1 7 rfl rfl, by decide +kernel, by decide +kernel, by decide +kernel, by decide +kernel⟩
theorem imX6_doorsShutNow : ab_IM mX6_doorsShutNow := ⟨wT3 57 rfl rfl, wSl 49 rfl rfl⟩
theorem moX6_shownIf : ab_MO mX6_shownIf 1 := ⟨wT3 74 rfl rfl, wT1 7 rfl rfl, by decide +kernel, by decide +kernel, by decide +kernel, by decide +kernel⟩
theorem imX6_shownIf : ab_IM mX6_shownIf := ⟨wT3 73 rfl rfl, wSl 52 rfl rfl⟩
theorem moX6_focusIn : ab_MO mX6_focusIn 1 := ⟨wT3 66 rfl rfl, wT1 7 rfl rfl, by decide +kernel, by decide +kernel, by decide +kernel, by decide +kernel⟩
theorem smX6_focusIn : ab_SM mX6_focusIn := wT3 65 rfl rfl
theorem moX6_pressAllKeys : ab_MO mX6_pressAllKeys 1 := ⟨wT3 70 rfl rfl, wT1 7 rfl rfl, by decide +kernel, by decide +kernel, by decide +kernel, by decide +kernel⟩
theorem imX6_pressAllKeys : ab_IM mX6_pressAllKeys := ⟨wT3 69 rfl rfl, wSl 51 rfl rfl⟩
theorem moX6_doorOf : ab_MO mX6_doorOf 1 := ⟨wT3 84 rfl rfl, wT1 7 rfl rfl, by decide +kernel, by decide +kernel, by decide +kernel, by decide +kernel⟩
theorem imX6_doorOf : ab_IM mX6_doorOf := ⟨wT3 83 rfl rfl, wSl 54 rfl rfl⟩
theorem moX6_comeFrom : ab_MO mX6_comeFrom 4 := ⟨wT3 80 rfl rfl, wT1 7 rfl rfl, by decide +kernel, by decide +kernel, by decide +kernel, by decide +kernel⟩
theorem imX6_comeFrom : ab_IM mX6_comeFrom := ⟨wT3 79 rfl rfl, wSl 53 rfl rfl⟩
theorem moX6_come : ab_MO mX6_come 4 := ⟨wT3 63 rfl rfl, wT1 7 rfl rfl, by decide +kernel, by decide +kernel, by decide +kernel, by decide +kernel⟩
theorem imX6_come : ab_IM mX6_come := ⟨wT3 62 rfl rfl, wSl 50 rfl rfl⟩
theorem moX7_part : ab_MO mX7_part 2 := ⟨wT2 25 rfl rfl, wT1 1 rfl rfl, by decide +kernel, by decide +kernel, by decide +kernel, by decide +kernel⟩
theorem imX7_part : ab_IM mX7_part := ⟨wT2 23 rfl rfl, wT2 24 rfl rfl⟩
theorem moX7_set : ab_MO mX7_set 3 := ⟨wT2 51 rfl rfl, wT1 1 rfl rfl, by decide +kernel, by decide +kernel, by decide +kernel, by decide +kernel⟩
theorem imX7_set : ab_IM mX7_set := ⟨wT2 49 rfl rfl, wT2 50 rfl rfl⟩
theorem moX7_told : ab_MO mX7_told 2 := ⟨wT2 103 rfl rfl, wT1 1 rfl rfl, by decide +kernel, by decide +kernel, by decide +kernel, by decide +kernel⟩
theorem imX7_told : ab_IM mX7_told := ⟨wT2 101 rfl rfl, wT2 102 rfl rfl⟩
theorem moX7_box : ab_MO mX7_box 5 := ⟨wT2 107 rfl rfl, wT1 1 rfl rfl, by decide +kernel, by decide +kernel, by decide +kernel, by decide +kernel⟩
theorem imX7_box : ab_IM mX7_box := ⟨wT2 105 rfl rfl, wT2 106 rfl rfl⟩
theorem moX7_colours : ab_MO mX7_colours 3 := ⟨wT2 114 rfl rfl, wT1 1 rfl rfl, by decide +kernel, by decide +kernel, by decide +kernel, by decide +kernel⟩
theorem imX7_colours : ab_IM mX7_colours := ⟨wT2 112 rfl rfl, wT2 113 rfl rfl⟩
theorem moX7_contrast : ab_MO mX7_contrast 1 := ⟨wT2 140 rfl rfl, wT1 1 rfl rfl, by decide +kernel, by decide +kernel, by decide +kernel, by decide +kernel⟩
theorem imX7_contrast : ab_IM mX7_contrast := ⟨wT2 138 rfl rfl, wT2 139 rfl rfl⟩
theorem moX7_name : ab_MO mX7_name 1 := ⟨wT2 144 rfl rfl, wT1 1 rfl rfl, by decide +kernel, by decide +kernel, by decide +kernel, by decide +kernel⟩
theorem imX7_name : ab_IM mX7_name := ⟨wT2 142 rfl rfl, wT2 143 rfl rfl⟩
theorem moX7_word : ab_MO mX7_word 2 := ⟨wT2 172 rfl rfl, wT1 1 rfl rfl, by decide +kernel, by decide +kernel, by decide +kernel, by decide +kernel⟩
theorem imX7_word : ab_IM mX7_word := ⟨wT2 170 rfl rfl, wT2 171 rfl rfl⟩
theorem moX7_said : ab_MO mX7_said 1 := ⟨wT2 181 rfl rfl, wT1 1 rfl rfl, by decide +kernel, by decide +kernel, by decide +kernel, by decide +kernel⟩
theorem imX7_said : ab_IM mX7_said := ⟨wT2 179 rfl rfl, wT2 180 rfl rfl⟩
theorem moX7_pairs : ab_MO mX7_pairs 0 := ⟨wT2 200 rfl rfl, wT1 1 rfl rfl, by decide +kernel, by decide +kernel, by decide +kernel, by decide +kernel⟩
theorem imX7_pairs : ab_IM mX7_pairs := ⟨wT2 198 rfl rfl, wT2 199 rfl rfl⟩
theorem moX7_stop : ab_MO mX7_stop 1 := ⟨wT2 224 rfl rfl, wT1 1 rfl rfl, by decide +kernel, by decide +kernel, by decide +kernel, by decide +kernel⟩
theorem imX7_stop : ab_IM mX7_stop := ⟨wT2 222 rfl rfl, wT2 223 rfl rfl⟩
theorem moX7_press : ab_MO mX7_press 1 := ⟨wT2 233 rfl rfl, wT1 1 rfl rfl, by decide +kernel, by decide +kernel, by decide +kernel, by decide +kernel⟩
theorem imX7_press : ab_IM mX7_press := ⟨wT2 231 rfl rfl, wT2 232 rfl rfl⟩
theorem moX7_focus : ab_MO mX7_focus 0 := ⟨wT3 26 rfl rfl, wT1 1 rfl rfl, by decide +kernel, by decide +kernel, by decide +kernel, by decide +kernel⟩
theorem imX7_focus : ab_IM mX7_focus := ⟨wT3 24 rfl rfl, wT3 25 rfl rfl⟩
theorem moX7_caught : ab_MO mX7_caught 0 := ⟨wT3 30 rfl rfl, wT1 1 rfl rfl, by decide +kernel, by decide +kernel, by decide +kernel, by decide +kernel⟩
theorem imX7_caught : ab_IM mX7_caught := ⟨wT3 28 rfl rfl, wT3 29 rfl rfl⟩
theorem moX7_leave : ab_MO mX7_leave 0 := ⟨wT3 35 rfl rfl, wT1 1 rfl rfl, by decide +kernel, by decide +kernel, by decide +kernel, by decide +kernel⟩
theorem imX7_leave : ab_IM mX7_leave := ⟨wT3 33 rfl rfl, wT3 34 rfl rfl⟩
theorem moX7_walk : ab_MO mX7_walk 1 := ⟨wT3 39 rfl rfl, wT1 1 rfl rfl, by decide +kernel, by decide +kernel, by decide +kernel, by decide +kernel⟩
theorem imX7_walk : ab_IM mX7_walk := ⟨wT3 37 rfl rfl, wT3 38 rfl rfl⟩
theorem moX7_key : ab_MO mX7_key 1 := ⟨wT3 89 rfl rfl, wT1 1 rfl rfl, by decide +kernel, by decide +kernel, by decide +kernel, by decide +kernel⟩
theorem imX7_key : ab_IM mX7_key := ⟨wT3 87 rfl rfl, wT3 88 rfl rfl⟩
theorem moX7_keeper : ab_MO mX7_keeper 0 := ⟨wT3 97 rfl rfl, wT1 1 rfl rfl, by decide +kernel, by decide +kernel, by decide +kernel, by decide +kernel⟩
theorem imX7_keeper : ab_IM mX7_keeper := ⟨wT3 95 rfl rfl, wT3 96 rfl rfl⟩
theorem moX7_hear : ab_MO mX7_hear 0 := ⟨wT3 106 rfl rfl, wT1 1 rfl rfl, by decide +kernel, by decide +kernel, by decide +kernel, by decide +kernel⟩
theorem imX7_hear : ab_IM mX7_hear := ⟨wT3 104 rfl rfl, wT3 105 rfl rfl⟩
theorem moX7_wrongs : ab_MO mX7_wrongs 0 := ⟨wT3 114 rfl rfl, wT1 1 rfl rfl, by decide +kernel, by decide +kernel, by decide +kernel, by decide +kernel⟩
theorem imX7_wrongs : ab_IM mX7_wrongs := ⟨wT3 112 rfl rfl, wT3 113 rfl rfl⟩
theorem moX7_wrong : ab_MO mX7_wrong 2 := ⟨wT3 166 rfl rfl, wT1 1 rfl rfl, by decide +kernel, by decide +kernel, by decide +kernel, by decide +kernel⟩
theorem imX7_wrong : ab_IM mX7_wrong := ⟨wT3 164 rfl rfl, wT3 165 rfl rfl⟩
theorem moX7_mend : ab_MO mX7_mend 1 := ⟨wT3 178 rfl rfl, wT1 1 rfl rfl, by decide +kernel, by decide +kernel, by decide +kernel, by decide +kernel⟩
theorem imX7_mend : ab_IM mX7_mend := ⟨wT3 176 rfl rfl, wT3 177 rfl rfl⟩
theorem moX7_count : ab_MO mX7_count 1 := ⟨wT3 190 rfl rfl, wT1 1 rfl rfl, by decide +kernel, by decide +kernel, by decide +kernel, by decide +kernel⟩
theorem imX7_count : ab_IM mX7_count := ⟨wT3 188 rfl rfl, wT3 189 rfl rfl⟩
theorem moX7_digest : ab_MO mX7_digest 0 := ⟨wT3 195 rfl rfl, wT1 1 rfl rfl, by decide +kernel, by decide +kernel, by decide +kernel, by decide +kernel⟩
theorem imX7_digest : ab_IM mX7_digest := ⟨wT3 193 rfl rfl, wT3 194 rfl rfl⟩
theorem moX7_opensTooMany : ab_MO mX7_opensTooMany 2 := ⟨wT2 59 rfl rfl, wT1 1 rfl rfl, by decide +kernel, by decide +kernel, by decide +kernel, by decide +kernel⟩
theorem imX7_opensTooMany : ab_IM mX7_opensTooMany := ⟨wT2 58 rfl rfl, wSl 14 rfl rfl⟩
theorem moX7_change : ab_MO mX7_change 3 := ⟨wT2 70 rfl rfl, wT1 1 rfl rfl, by decide +kernel, by decide +kernel, by decide +kernel, by decide +kernel⟩
theorem imX7_change : ab_IM mX7_change := ⟨wT2 69 rfl rfl, wSl 16 rfl rfl⟩
theorem moX7_enter : ab_MO mX7_enter 0 := ⟨wT2 237 rfl rfl, wT1 1 rfl rfl, by decide +kernel, by decide +kernel, by decide +kernel, by decide +kernel⟩
theorem imX7_enter : ab_IM mX7_enter := ⟨wT2 236 rfl rfl, wSl 39 rfl rfl⟩
theorem moX7_speakOf : ab_MO mX7_speakOf 1 := ⟨wT2 76 rfl rfl, wT1 1 rfl rfl, by decide +kernel, by decide +kernel, by decide +kernel, by decide +kernel⟩
theorem imX7_speakOf : ab_IM mX7_speakOf := ⟨wT2 75 rfl rfl, wSl 17 rfl rfl⟩
theorem moX7_isLength : ab_MO mX7_isLength 1 := ⟨wT2 110 rfl rfl, wT1 1 rfl rfl, by decide +kernel, by decide +kernel, by decide +kernel, by decide +kernel⟩
theorem smX7_isLength : ab_SM mX7_isLength := wT2 109 rfl rfl
theorem moX7_isColour : ab_MO mX7_isColour 1 := ⟨wT2 117 rfl rfl, wT1 1 rfl rfl, by decide +kernel, by decide +kernel, by decide +kernel, by decide +kernel⟩
theorem smX7_isColour : ab_SM mX7_isColour := wT2 116 rfl rfl
theorem moX7_holds : ab_MO mX7_holds 2 := ⟨wT1 58 rfl rfl, wT1 1 rfl rfl, by decide +kernel, by decide +kernel, by decide +kernel, by decide +kernel⟩
theorem smX7_holds : ab_SM mX7_holds := wT1 57 rfl rfl
theorem moX7_lastOf : ab_MO mX7_lastOf 1 := ⟨wT2 83 rfl rfl, wT1 1 rfl rfl, by decide +kernel, by decide +kernel, by decide +kernel, by decide +kernel⟩
theorem smX7_lastOf : ab_SM mX7_lastOf := wT2 82 rfl rfl
theorem moX7_light : ab_MO mX7_light 1 := ⟨wT2 128 rfl rfl, wT1 1 rfl rfl, by decide +kernel, by decide +kernel, by decide +kernel, by decide +kernel⟩
theorem smX7_light : ab_SM mX7_light := wT2 127 rfl rfl
theorem moX7_contrastBetween : ab_MO mX7_contrastBetween 2 := ⟨wT2 125 rfl rfl, wT1 1 rfl rfl, by decide +kernel, by decide +kernel, by decide +kernel, by decide +kernel⟩
theorem smX7_contrastBetween : ab_SM mX7_contrastBetween := wT2 124 rfl rfl
theorem moX8_in : ab_MO mX8_in 3 := ⟨wT4 47 rfl rfl, wT1 10 rfl rfl, by decide +kernel, by decide +kernel, by decide +kernel, by decide +kernel⟩
theorem smX8_in : ab_SM mX8_in := wT4 46 rfl rfl
theorem moX8_get : ab_MO mX8_get 2 := ⟨wT4 67 rfl rfl, wT1 10 rfl rfl, by decide +kernel, by decide +kernel, by decide +kernel, by decide +kernel⟩
theorem imX8_get : ab_IM mX8_get := ⟨wT4 66 rfl rfl, wSl 75 rfl rfl⟩
theorem moX8_put : ab_MO mX8_put 3 := ⟨wT3 211 rfl rfl, wT1 10 rfl rfl, by decide +kernel, by decide +kernel, by decide +kernel, by decide +kernel⟩
theorem imX8_put : ab_IM mX8_put := ⟨wT3 210 rfl rfl, wSl 71 rfl rfl⟩
theorem moX8_begin : ab_MO mX8_begin 3 := ⟨wT3 207 rfl rfl, wT1 10 rfl rfl, by decide +kernel, by decide +kernel, by decide +kernel, by decide +kernel⟩
theorem imX8_begin : ab_IM mX8_begin := ⟨wT3 206 rfl rfl, wSl 70 rfl rfl⟩
theorem moX8_isPart : ab_MO mX8_isPart 1 := ⟨wT4 44 rfl rfl, wT1 10 rfl rfl, by decide +kernel, by decide +kernel, by decide +kernel, by decide +kernel⟩
theorem imX8_isPart : ab_IM mX8_isPart := ⟨wT4 43 rfl rfl, wSl 72 rfl rfl⟩
theorem moX8_part : ab_MO mX8_part 2 := ⟨wT4 40 rfl rfl, wT1 10 rfl rfl, by decide +kernel, by decide +kernel, by decide +kernel, by decide +kernel⟩
theorem imX8_part : ab_IM mX8_part := ⟨wT4 38 rfl rfl, wT4 39 rfl rfl⟩
theorem moX8_isShown : ab_MO mX8_isShown 1 := ⟨wT4 79 rfl rfl, wT1 10 rfl rfl, by decide +kernel, by decide +kernel, by decide +kernel, by decide +kernel⟩
theorem imX8_isShown : ab_IM mX8_isShown := ⟨wT4 78 rfl rfl, wSl 78 rfl rfl⟩
theorem moX8_lies : ab_MO mX8_lies 2 := ⟨wT4 132 rfl rfl, wT1 10 rfl rfl, by decide +kernel, by decide +kernel, by decide +kernel, by decide +kernel⟩
theorem imX8_lies : ab_IM mX8_lies := ⟨wT4 131 rfl rfl, wSl 83 rfl rfl⟩
theorem moX8_innermost : ab_MO mX8_innermost 2 := ⟨wT4 75 rfl rfl, wT1 10 rfl rfl, by decide +kernel, by decide +kernel, by decide +kernel, by decide +kernel⟩
theorem imX8_innermost : ab_IM mX8_innermost := ⟨wT4 74 rfl rfl, wSl 77 rfl rfl⟩
theorem moX8_line : ab_MO mX8_line 0 := ⟨wT4 128 rfl rfl, wT1 10 rfl rfl, by decide +kernel, by decide +kernel, by decide +kernel, by decide +kernel⟩
theorem imX8_line : ab_IM mX8_line := ⟨wT4 127 rfl rfl, wSl 82 rfl rfl⟩
theorem moX8_opened : ab_MO mX8_opened 0 := ⟨wT5 37 rfl rfl, wT1 10 rfl rfl, by decide +kernel, by decide +kernel, by decide +kernel, by decide +kernel⟩
theorem imX8_opened : ab_IM mX8_opened := ⟨wT5 36 rfl rfl, wSl 102 rfl rfl⟩
theorem moX8_isOpenedBy : ab_MO mX8_isOpenedBy 2 := ⟨wT4 63 rfl rfl, wT1 10 rfl rfl, by decide +kernel, by decide +kernel, by decide +kernel, by decide +kernel⟩
theorem imX8_isOpenedBy : ab_IM mX8_isOpenedBy := ⟨wT4 62 rfl rfl, wSl 74 rfl rfl⟩
theorem moX8_isFor : ab_MO mX8_isFor 2 := ⟨wT4 57 rfl rfl, wT1 10 rfl rfl, by decide +kernel, by decide +kernel, by decide +kernel, by decide +kernel⟩
theorem imX8_isFor : ab_IM mX8_isFor := ⟨wT4 56 rfl rfl, wSl 73 rfl rfl⟩
theorem moX8_speak : ab_MO mX8_speak 1 := ⟨wT4 71 rfl rfl, wT1 10 rfl rfl, by decide +kernel, by decide +kernel, by decide +kernel, by decide +kernel⟩
theorem imX8_speak : ab_IM mX8_speak := ⟨wT4 70 rfl rfl, wSl 76 rfl rfl⟩
theorem moX8_lookAtFocus : ab_MO mX8_lookAtFocus 0 := ⟨wT4 83 rfl rfl, wT1 10 rfl rfl, by decide +kernel, by decide +kernel, by decide +kernel, by decide +kernel⟩
theorem imX8_lookAtFocus : ab_IM mX8_lookAtFocus := ⟨wT4 82 rfl rfl, wSl 79 rfl rfl⟩
theorem moX8_set : ab_MO mX8_set 3 := ⟨wT4 52 rfl rfl, wT1 10 rfl rfl, by decide +kernel, by decide +kernel, by decide +kernel, by decide +kernel⟩
theorem imX8_set : ab_IM mX8_set := ⟨wT4 50 rfl rfl, wT4 51 rfl rfl⟩
theorem moX8_told : ab_MO mX8_told 2 := ⟨wT4 87 rfl rfl, wT1 10 rfl rfl, by decide +kernel, by decide +kernel, by decide +kernel, by decide +kernel⟩
theorem imX8_told : ab_IM mX8_told := ⟨wT4 85 rfl rfl, wT4 86 rfl rfl⟩
theorem moX8_box : ab_MO mX8_box 5 := ⟨wT4 92 rfl rfl, wT1 10 rfl rfl, by decide +kernel, by decide +kernel, by decide +kernel, by decide +kernel⟩
theorem imX8_box : ab_IM mX8_box := ⟨wT4 90 rfl rfl, wT4 91 rfl rfl⟩
theorem moX8_light : ab_MO mX8_light 1 := ⟨wT4 104 rfl rfl, wT1 10 rfl rfl, by decide +kernel, by decide +kernel, by decide +kernel, by decide +kernel⟩
theorem smX8_light : ab_SM mX8_light := wT4 103 rfl rfl
theorem moX8_contrastOf : ab_MO mX8_contrastOf 2 := ⟨wT4 101 rfl rfl, wT1 10 rfl rfl, by decide +kernel, by decide +kernel, by decide +kernel, by decide +kernel⟩
theorem smX8_contrastOf : ab_SM mX8_contrastOf := wT4 100 rfl rfl
theorem moX8_colours : ab_MO mX8_colours 3 := ⟨wT4 97 rfl rfl, wT1 10 rfl rfl, by decide +kernel, by decide +kernel, by decide +kernel, by decide +kernel⟩
theorem imX8_colours : ab_IM mX8_colours := ⟨wT4 95 rfl rfl, wT4 96 rfl rfl⟩
theorem moX8_contrast : ab_MO mX8_contrast 1 := ⟨wT4 112 rfl rfl, wT1 10 rfl rfl, by decide +kernel, by decide +kernel, by decide +kernel, by decide +kernel⟩
theorem imX8_contrast : ab_IM mX8_contrast := ⟨wT4 110 rfl rfl, wT4 111 rfl rfl⟩
theorem moX8_addWord : ab_MO mX8_addWord 2 := ⟨wT4 124 rfl rfl, wT1 10 rfl rfl, by decide +kernel, by decide +kernel, by decide +kernel, by decide +kernel⟩
theorem imX8_addWord : ab_IM mX8_addWord := ⟨wT4 123 rfl rfl, wSl 81 rfl rfl⟩
theorem moX8_findName : ab_MO mX8_findName 1 := ⟨wT4 120 rfl rfl, wT1 10 rfl rfl, by decide +kernel, by decide +kernel, by decide +kernel, by decide +kernel⟩
theorem imX8_findName : ab_IM mX8_findName := ⟨wT4 119 rfl rfl, wSl 80 rfl rfl⟩
theorem moX8_name : ab_MO mX8_name 1 := ⟨wT4 116 rfl rfl, wT1 10 rfl rfl, by decide +kernel, by decide +kernel, by decide +kernel, by decide +kernel⟩
theorem imX8_name : ab_IM mX8_name := ⟨wT4 114 rfl rfl, wT4 115 rfl rfl⟩
theorem moX8_word : ab_MO mX8_word 2 := ⟨wT4 136 rfl rfl, wT1 10 rfl rfl, by decide +kernel, by decide +kernel, by decide +kernel, by decide +kernel⟩
theorem imX8_word : ab_IM mX8_word := ⟨wT4 134 rfl rfl, wT4 135 rfl rfl⟩
theorem moX8_findSaid : ab_MO mX8_findSaid 0 := ⟨wT4 144 rfl rfl, wT1 10 rfl rfl, by decide +kernel, by decide +kernel, by decide +kernel, by decide +kernel⟩
theorem imX8_findSaid : ab_IM mX8_findSaid := ⟨wT4 143 rfl rfl, wSl 84 rfl rfl⟩
theorem moX8_said : ab_MO mX8_said 1 := ⟨wT4 140 rfl rfl, wT1 10 rfl rfl, by decide +kernel, by decide +kernel, by decide +kernel, by decide +kernel⟩
theorem imX8_said : ab_IM mX8_said := ⟨wT4 138 rfl rfl, wT4 139 rfl rfl⟩
theorem moX8_hasBox : ab_MO mX8_hasBox 1 := ⟨wT4 156 rfl rfl, wT1 10 rfl rfl, by decide +kernel, by decide +kernel, by decide +kernel, by decide +kernel⟩
theorem imX8_hasBox : ab_IM mX8_hasBox := ⟨wT4 155 rfl rfl, wSl 86 rfl rfl⟩
theorem moX8_isAbove : ab_MO mX8_isAbove 2 := ⟨wT4 160 rfl rfl, wT1 10 rfl rfl, by decide +kernel, by decide +kernel, by decide +kernel, by decide +kernel⟩
theorem imX8_isAbove : ab_IM mX8_isAbove := ⟨wT4 159 rfl rfl, wSl 87 rfl rfl⟩
theorem moX8_isAstray : ab_MO mX8_isAstray 2 := ⟨wT4 152 rfl rfl, wT1 10 rfl rfl, by decide +kernel, by decide +kernel, by decide +kernel, by decide +kernel⟩
theorem imX8_isAstray : ab_IM mX8_isAstray := ⟨wT4 151 rfl rfl, wSl 85 rfl rfl⟩
theorem moX8_pairs : ab_MO mX8_pairs 0 := ⟨wT4 148 rfl rfl, wT1 10 rfl rfl, by decide +kernel, by decide +kernel, by decide +kernel, by decide +kernel⟩
theorem imX8_pairs : ab_IM mX8_pairs := ⟨wT4 146 rfl rfl, wT4 147 rfl rfl⟩
theorem moX8_isStop : ab_MO mX8_isStop 1 := ⟨wT4 172 rfl rfl, wT1 10 rfl rfl, by decide +kernel, by decide +kernel, by decide +kernel, by decide +kernel⟩
theorem imX8_isStop : ab_IM mX8_isStop := ⟨wT4 171 rfl rfl, wSl 89 rfl rfl⟩
theorem moX8_findStops : ab_MO mX8_findStops 1 := ⟨wT4 168 rfl rfl, wT1 10 rfl rfl, by decide +kernel, by decide +kernel, by decide +kernel, by decide +kernel⟩
theorem imX8_findStops : ab_IM mX8_findStops := ⟨wT4 167 rfl rfl, wSl 88 rfl rfl⟩
theorem moX8_stop : ab_MO mX8_stop 1 := ⟨wT4 164 rfl rfl, wT1 10 rfl rfl, by decide +kernel, by decide +kernel, by decide +kernel, by decide +kernel⟩
theorem imX8_stop : ab_IM mX8_stop := ⟨wT4 162 rfl rfl, wT4 163 rfl rfl⟩
theorem moX8_trapOf : ab_MO mX8_trapOf 1 := ⟨wT4 185 rfl rfl, wT1 10 rfl rfl, by decide +kernel, by decide +kernel, by decide +kernel, by decide +kernel⟩
theorem imX8_trapOf : ab_IM mX8_trapOf := ⟨wT4 184 rfl rfl, wSl 91 rfl rfl⟩
theorem moX8_pressed : ab_MO mX8_pressed 2 := ⟨wT4 181 rfl rfl, wT1 10 rfl rfl, by decide +kernel, by decide +kernel, by decide +kernel, by decide +kernel⟩
theorem imX8_pressed : ab_IM mX8_pressed := ⟨wT4 180 rfl rfl, wSl 90 rfl rfl⟩
theorem moX8_press : ab_MO mX8_press 1 := ⟨wT4 176 rfl rfl, wT1 10 rfl rfl, by decide +kernel, by decide +kernel, by decide +kernel, by decide +kernel⟩
theorem imX8_press : ab_IM mX8_press := ⟨wT4 174 rfl rfl, wT4 175 rfl rfl⟩
theorem moX8_focus : ab_MO mX8_focus 0 := ⟨wT4 189 rfl rfl, wT1 10 rfl rfl, by decide +kernel, by decide +kernel, by decide +kernel, by decide +kernel⟩
theorem imX8_focus : ab_IM mX8_focus := ⟨wT4 187 rfl rfl, wT4 188 rfl rfl⟩
theorem moX8_caught : ab_MO mX8_caught 0 := ⟨wT4 193 rfl rfl, wT1 10 rfl rfl, by decide +kernel, by decide +kernel, by decide +kernel, by decide +kernel⟩
theorem imX8_caught : ab_IM mX8_caught := ⟨wT4 191 rfl rfl, wT4 192 rfl rfl⟩
theorem moX8_leave : ab_MO mX8_leave 0 := ⟨wT4 197 rfl rfl, wT1 10 rfl rfl, by decide +kernel, by decide +kernel, by decide +kernel, by decide +kernel⟩
theorem imX8_leave : ab_IM mX8_leave := ⟨wT4 195 rfl rfl, wT4 196 rfl rfl⟩
theorem moX8_findDoors : ab_MO mX8_findDoors 0 := ⟨wT4 209 rfl rfl, wT1 10 rfl rfl, by decide +kernel, by decide +kernel, by decide +kernel, by decide +kernel⟩
theorem imX8_findDoors : ab_IM mX8_findDoors := ⟨wT4 208 rfl rfl, wSl 93 rfl rfl⟩
theorem moX8_state : ab_MO mX8_state 0 := ⟨wT4 213 rfl rfl, wT1 10 rfl rfl, by decide +kernel, by decide +kernel, by decide +kernel, by decide +kernel⟩
theorem imX8_state : ab_IM mX8_state := ⟨wT4 212 rfl rfl, wSl 94 rfl rfl⟩
theorem moX8_come : ab_MO mX8_come 1 := ⟨wT4 217 rfl rfl, wT1 10 rfl rfl, by decide +kernel, by decide +kernel, by decide +kernel, by decide +kernel⟩
theorem imX8_come : ab_IM mX8_come := ⟨wT4 216 rfl rfl, wSl 95 rfl rfl⟩
theorem moX8_spread : ab_MO mX8_spread 0 := ⟨wT4 205 rfl rfl, wT1 10 rfl rfl, by decide +kernel, by decide +kernel, by decide +kernel, by decide +kernel⟩
theorem imX8_spread : ab_IM mX8_spread := ⟨wT4 204 rfl rfl, wSl 92 rfl rfl⟩
theorem moX8_leastTo : ab_MO mX8_leastTo 1 := ⟨wT4 221 rfl rfl, wT1 10 rfl rfl, by decide +kernel, by decide +kernel, by decide +kernel, by decide +kernel⟩
theorem imX8_leastTo : ab_IM mX8_leastTo := ⟨wT4 220 rfl rfl, wSl 96 rfl rfl⟩
theorem moX8_walk : ab_MO mX8_walk 1 := ⟨wT4 201 rfl rfl, wT1 10 rfl rfl, by decide +kernel, by decide +kernel, by decide +kernel, by decide +kernel⟩
theorem imX8_walk : ab_IM mX8_walk := ⟨wT4 199 rfl rfl, wT4 200 rfl rfl⟩
theorem moX8_key : ab_MO mX8_key 1 := ⟨wT4 225 rfl rfl, wT1 10 rfl rfl, by decide +kernel, by decide +kernel, by decide +kernel, by decide +kernel⟩
theorem imX8_key : ab_IM mX8_key := ⟨wT4 223 rfl rfl, wT4 224 rfl rfl⟩
theorem moX8_keeper : ab_MO mX8_keeper 0 := ⟨wT4 229 rfl rfl, wT1 10 rfl rfl, by decide +kernel, by decide +kernel, by decide +kernel, by decide +kernel⟩
theorem imX8_keeper : ab_IM mX8_keeper := ⟨wT4 227 rfl rfl, wT4 228 rfl rfl⟩
theorem moX8_hear : ab_MO mX8_hear 0 := ⟨wT4 233 rfl rfl, wT1 10 rfl rfl, by decide +kernel, by decide +kernel, by decide +kernel, by decide +kernel⟩
theorem imX8_hear : ab_IM mX8_hear := ⟨wT4 231 rfl rfl, wT4 232 rfl rfl⟩
theorem moX8_isTwin : ab_MO mX8_isTwin 1 := ⟨wT5 9 rfl rfl, wT1 10 rfl rfl, by decide +kernel, by decide +kernel, by decide +kernel, by decide +kernel⟩
theorem imX8_isTwin : ab_IM mX8_isTwin := ⟨wT5 8 rfl rfl, wSl 99 rfl rfl⟩
theorem moX8_isClosed : ab_MO mX8_isClosed 1 := ⟨wT5 14 rfl rfl, wT1 10 rfl rfl, by decide +kernel, by decide +kernel, by decide +kernel, by decide +kernel⟩
theorem imX8_isClosed : ab_IM mX8_isClosed := ⟨wT5 13 rfl rfl, wSl 100 rfl rfl⟩
theorem moX8_isAhead : ab_MO mX8_isAhead 1 := ⟨wT5 18 rfl rfl, wT1 10 rfl rfl, by decide +kernel, by decide +kernel, by decide +kernel, by decide +kernel⟩
theorem imX8_isAhead : ab_IM mX8_isAhead := ⟨wT5 17 rfl rfl, wSl 101 rfl rfl⟩
theorem moX8_isWrong : ab_MO mX8_isWrong 2 := ⟨wT5 5 rfl rfl, wT1 10 rfl rfl, by decide +kernel, by decide +kernel, by decide +kernel, by decide +kernel⟩
theorem imX8_isWrong : ab_IM mX8_isWrong := ⟨wT5 4 rfl rfl, wSl 98 rfl rfl⟩
theorem moX8_findWrongs : ab_MO mX8_findWrongs 0 := ⟨wT5 1 rfl rfl, wT1 10 rfl rfl, by decide +kernel, by decide +kernel, by decide +kernel, by decide +kernel⟩
theorem imX8_findWrongs : ab_IM mX8_findWrongs := ⟨wT5 0 rfl rfl, wSl 97 rfl rfl⟩
theorem moX8_wrongs : ab_MO mX8_wrongs 0 := ⟨wT4 237 rfl rfl, wT1 10 rfl rfl, by decide +kernel, by decide +kernel, by decide +kernel, by decide +kernel⟩
theorem imX8_wrongs : ab_IM mX8_wrongs := ⟨wT4 235 rfl rfl, wT4 236 rfl rfl⟩
theorem moX8_wrong : ab_MO mX8_wrong 2 := ⟨wT5 23 rfl rfl, wT1 10 rfl rfl, by decide +kernel, by decide +kernel, by decide +kernel, by decide +kernel⟩
theorem imX8_wrong : ab_IM mX8_wrong := ⟨wT5 21 rfl rfl, wT5 22 rfl rfl⟩
theorem moX8_mend : ab_MO mX8_mend 1 := ⟨wT5 27 rfl rfl, wT1 10 rfl rfl, by decide +kernel, by decide +kernel, by decide +kernel, by decide +kernel⟩
theorem imX8_mend : ab_IM mX8_mend := ⟨wT5 25 rfl rfl, wT5 26 rfl rfl⟩
theorem moX8_count : ab_MO mX8_count 1 := ⟨wT5 33 rfl rfl, wT1 10 rfl rfl, by decide +kernel, by decide +kernel, by decide +kernel, by decide +kernel⟩
theorem imX8_count : ab_IM mX8_count := ⟨wT5 31 rfl rfl, wT5 32 rfl rfl⟩
theorem moX8_digest : ab_MO mX8_digest 0 := ⟨wT5 41 rfl rfl, wT1 10 rfl rfl, by decide +kernel, by decide +kernel, by decide +kernel, by decide +kernel⟩
theorem imX8_digest : ab_IM mX8_digest := ⟨wT5 39 rfl rfl, wT5 40 rfl rfl⟩
theorem moJ6_bitCount_0f7a4 : ab_MO mJ6_bitCount_0f7a4 1 := ⟨wT1 48 rfl rfl, wT1 3 rfl rfl, by decide +kernel, by decide +kernel, by decide +kernel, by decide +kernel⟩
theorem smJ6_bitCount_0f7a4 : ab_SM mJ6_bitCount_0f7a4 := wT1 47 rfl rfl
theorem kX7_192 : Cond.constantLong RX7 192 (107) ∈ wAll := wT3 196 rfl rfl
theorem kX7_194 : Cond.constantLong RX7 194 (31) ∈ wAll := wT3 197 rfl rfl
theorem kX7_211 : Cond.constant RX7 211 (16777215) ∈ wAll := wT2 118 rfl rfl
theorem kX7_220 : Cond.constant RX7 220 (127500) ∈ wAll := wT2 132 rfl rfl
theorem kX7_224 : Cond.constantLong RX7 224 (1000) ∈ wAll := wT2 136 rfl rfl
theorem kX0_113 : Cond.constant RX0 113 (1000000) ∈ wAll := wT3 184 rfl rfl
theorem kX0_114 : Cond.constant RX0 114 (16777215) ∈ wAll := wT3 185 rfl rfl
theorem kX2_69 : Cond.constant RX2 69 (16777215) ∈ wAll := wT1 67 rfl rfl
theorem kX8_63 : Cond.constant RX8 63 (16777215) ∈ wAll := wT3 212 rfl rfl
theorem kX8_72 : Cond.constantLong RX8 72 (6) ∈ wAll := wT4 48 rfl rfl
theorem kX8_82 : Cond.constantLong RX8 82 (100) ∈ wAll := wT4 58 rfl rfl
theorem kX8_84 : Cond.constantLong RX8 84 (1000) ∈ wAll := wT4 59 rfl rfl
theorem kX8_95 : Cond.constantLong RX8 95 (9) ∈ wAll := wT4 53 rfl rfl
theorem kX8_107 : Cond.constantLong RX8 107 (17) ∈ wAll := wT4 88 rfl rfl
theorem kX8_109 : Cond.constantLong RX8 109 (10000) ∈ wAll := wT4 93 rfl rfl
theorem kX8_111 : Cond.constantLong RX8 111 (2126) ∈ wAll := wT4 105 rfl rfl
theorem kX8_113 : Cond.constantLong RX8 113 (7152) ∈ wAll := wT4 106 rfl rfl
theorem kX8_115 : Cond.constantLong RX8 115 (722) ∈ wAll := wT4 107 rfl rfl
theorem kX8_121 : Cond.constantLong RX8 121 (127500) ∈ wAll := wT4 108 rfl rfl
theorem kX8_123 : Cond.constantLong RX8 123 (16777215) ∈ wAll := wT4 98 rfl rfl
theorem kX8_169 : Cond.constantLong RX8 169 (2) ∈ wAll := wT4 177 rfl rfl
theorem kX8_209 : Cond.constantLong RX8 209 (19) ∈ wAll := wT5 19 rfl rfl
theorem kX8_220 : Cond.constant RX8 220 (1000000) ∈ wAll := wT5 28 rfl rfl
theorem kX8_227 : Cond.constantLong RX8 227 (107) ∈ wAll := wT5 42 rfl rfl
theorem kX8_229 : Cond.constantLong RX8 229 (31) ∈ wAll := wT5 43 rfl rfl
theorem kJ6_265 : Cond.constant RJ6 265 (1431655765) ∈ wAll := wT1 49 rfl rfl
theorem kJ6_266 : Cond.constant RJ6 266 (858993459) ∈ wAll := wT1 50 rfl rfl
theorem kJ6_267 : Cond.constant RJ6 267 (252645135) ∈ wAll := wT1 51 rfl rfl
theorem mq_max : Cond.methodLink RX7 215 Lib.Math.max.name ∈ wAll ∧ Cond.static Lib.Math.max.name ∈ wAll ∧ Cond.initialized "java/lang/Math" ∈ wAll ∧ Cond.code Lib.Math.max.name Lib.Math.max.code 2 (some .int) ∈ wAll := ⟨wT2 129 rfl rfl, wT2 130 rfl rfl, wT1 11 rfl rfl, wT2 131 rfl rfl⟩
theorem mq_min : Cond.methodLink RX7 221 Lib.Math.min.name ∈ wAll ∧ Cond.static Lib.Math.min.name ∈ wAll ∧ Cond.initialized "java/lang/Math" ∈ wAll ∧ Cond.code Lib.Math.min.name Lib.Math.min.code 2 (some .int) ∈ wAll := ⟨wT2 133 rfl rfl, wT2 134 rfl rfl, wT1 11 rfl rfl, wT2 135 rfl rfl⟩
