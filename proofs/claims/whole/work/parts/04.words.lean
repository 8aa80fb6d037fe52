/-- the words that stay true whatever else is resolved -/
def xwl : List Cond := lw_tbl.filter goodWord
theorem xin0 {w : Cond} (h : w ∈ k2_sels lw_privs) (g : goodWord w = true) : w ∈ xwl := List.mem_filter.mpr ⟨List.mem_append_left _ h, g⟩
theorem xin1 {w : Cond} (h : w ∈ tables_1_1) (g : goodWord w = true) : w ∈ xwl := List.mem_filter.mpr ⟨List.mem_append_right _ (List.mem_append_left _ h), g⟩
theorem xin2 {w : Cond} (h : w ∈ tables_1_2) (g : goodWord w = true) : w ∈ xwl := List.mem_filter.mpr ⟨List.mem_append_right _ (List.mem_append_right _ (List.mem_append_left _ h)), g⟩
theorem xin3 {w : Cond} (h : w ∈ tables_1_3) (g : goodWord w = true) : w ∈ xwl := List.mem_filter.mpr ⟨List.mem_append_right _ (List.mem_append_right _ (List.mem_append_right _ (List.mem_append_left _ h))), g⟩
theorem xin4 {w : Cond} (h : w ∈ tables_1_4) (g : goodWord w = true) : w ∈ xwl := List.mem_filter.mpr ⟨List.mem_append_right _ (List.mem_append_right _ (List.mem_append_right _ (List.mem_append_right _ (List.mem_append_left _ h)))), g⟩
theorem xin5 {w : Cond} (h : w ∈ tables_1_5) (g : goodWord w = true) : w ∈ xwl := List.mem_filter.mpr ⟨List.mem_append_right _ (List.mem_append_right _ (List.mem_append_right _ (List.mem_append_right _ (List.mem_append_right _ (List.mem_append_left _ h))))), g⟩
theorem xin6 {w : Cond} (h : w ∈ tables_1_6) (g : goodWord w = true) : w ∈ xwl := List.mem_filter.mpr ⟨List.mem_append_right _ (List.mem_append_right _ (List.mem_append_right _ (List.mem_append_right _ (List.mem_append_right _ (List.mem_append_right _ (List.mem_append_left _ h)))))), g⟩
theorem xin7 {w : Cond} (h : w ∈ tables_1_7) (g : goodWord w = true) : w ∈ xwl := List.mem_filter.mpr ⟨List.mem_append_right _ (List.mem_append_right _ (List.mem_append_right _ (List.mem_append_right _ (List.mem_append_right _ (List.mem_append_right _ (List.mem_append_right _ (h))))))), g⟩
theorem xw0 : Cond.selects RX10 yX10_refuse yX10_refuse ∈ xwl := xin0 (List.mem_of_getElem? (i := 0) (by decide +kernel)) rfl
theorem xw1 : Cond.selects RX10 yX10_tell yX10_tell ∈ xwl := xin0 (List.mem_of_getElem? (i := 1) (by decide +kernel)) rfl
theorem xw2 : Cond.selects RX3 yX3_advance yX3_advance ∈ xwl := xin0 (List.mem_of_getElem? (i := 2) (by decide +kernel)) rfl
theorem xw3 : Cond.selects RX3 yX3_readPage yX3_readPage ∈ xwl := xin0 (List.mem_of_getElem? (i := 3) (by decide +kernel)) rfl
theorem xw4 : Cond.selects RX3 yX3_isAtWord yX3_isAtWord ∈ xwl := xin0 (List.mem_of_getElem? (i := 4) (by decide +kernel)) rfl
theorem xw5 : Cond.selects RX3 yX3_takeNumber yX3_takeNumber ∈ xwl := xin0 (List.mem_of_getElem? (i := 5) (by decide +kernel)) rfl
theorem xw6 : Cond.selects RX3 yX3_takeStop yX3_takeStop ∈ xwl := xin0 (List.mem_of_getElem? (i := 6) (by decide +kernel)) rfl
theorem xw7 : Cond.selects RX3 yX3_readStatement yX3_readStatement ∈ xwl := xin0 (List.mem_of_getElem? (i := 7) (by decide +kernel)) rfl
theorem xw8 : Cond.selects RX3 yX3_readBleed yX3_readBleed ∈ xwl := xin0 (List.mem_of_getElem? (i := 8) (by decide +kernel)) rfl
theorem xw9 : Cond.selects RX3 yX3_kindAtHand yX3_kindAtHand ∈ xwl := xin0 (List.mem_of_getElem? (i := 9) (by decide +kernel)) rfl
theorem xw10 : Cond.selects RX3 yX3_readSides yX3_readSides ∈ xwl := xin0 (List.mem_of_getElem? (i := 10) (by decide +kernel)) rfl
theorem xw11 : Cond.selects RX3 yX3_readEmpty yX3_readEmpty ∈ xwl := xin0 (List.mem_of_getElem? (i := 11) (by decide +kernel)) rfl
theorem xw12 : Cond.selects RX10 yX10_hasNoSheet yX10_hasNoSheet ∈ xwl := xin0 (List.mem_of_getElem? (i := 12) (by decide +kernel)) rfl
theorem xw13 : Cond.selects RX6 yX6_addWord yX6_addWord ∈ xwl := xin0 (List.mem_of_getElem? (i := 13) (by decide +kernel)) rfl
theorem xw14 : Cond.selects RX6 yX6_addSign yX6_addSign ∈ xwl := xin0 (List.mem_of_getElem? (i := 14) (by decide +kernel)) rfl
theorem xw15 : Cond.selects RX6 yX6_addNumber yX6_addNumber ∈ xwl := xin0 (List.mem_of_getElem? (i := 15) (by decide +kernel)) rfl
theorem xw16 : Cond.selects RX6 yX6_writeFrame yX6_writeFrame ∈ xwl := xin0 (List.mem_of_getElem? (i := 16) (by decide +kernel)) rfl
theorem xw17 : Cond.selects RX4 yX4_cover yX4_cover ∈ xwl := xin0 (List.mem_of_getElem? (i := 17) (by decide +kernel)) rfl
theorem xw18 : Cond.selects RX4 yX4_findFree yX4_findFree ∈ xwl := xin0 (List.mem_of_getElem? (i := 18) (by decide +kernel)) rfl
theorem xw19 : Cond.selects RX4 yX4_addRuns yX4_addRuns ∈ xwl := xin0 (List.mem_of_getElem? (i := 19) (by decide +kernel)) rfl
theorem xw20 : Cond.selects RX4 yX4_insert yX4_insert ∈ xwl := xin0 (List.mem_of_getElem? (i := 20) (by decide +kernel)) rfl
theorem xw21 : Cond.selects RX2 yX2_fillQueue yX2_fillQueue ∈ xwl := xin0 (List.mem_of_getElem? (i := 21) (by decide +kernel)) rfl
theorem xw22 : Cond.selects RX10 yX10_isPage yX10_isPage ∈ xwl := xin0 (List.mem_of_getElem? (i := 22) (by decide +kernel)) rfl
theorem xw23 : Cond.selects RX10 yX10_takesPlace yX10_takesPlace ∈ xwl := xin0 (List.mem_of_getElem? (i := 23) (by decide +kernel)) rfl
theorem xw24 : Cond.selects RX10 yX10_pointSeen yX10_pointSeen ∈ xwl := xin0 (List.mem_of_getElem? (i := 24) (by decide +kernel)) rfl
theorem xw25 : Cond.selects RX10 yX10_shortcoming yX10_shortcoming ∈ xwl := xin0 (List.mem_of_getElem? (i := 25) (by decide +kernel)) rfl
theorem xw26 : Cond.selects RX10 yX10_doLot yX10_doLot ∈ xwl := xin0 (List.mem_of_getElem? (i := 26) (by decide +kernel)) rfl
theorem xw27 : Cond.selects RX10 yX10_placesTakenOnAllPages yX10_placesTakenOnAllPages ∈ xwl := xin0 (List.mem_of_getElem? (i := 27) (by decide +kernel)) rfl
theorem xw28 : Cond.selects RX10 yX10_freeOnAllPages yX10_freeOnAllPages ∈ xwl := xin0 (List.mem_of_getElem? (i := 28) (by decide +kernel)) rfl
theorem xw29 : Cond.selects RX10 yX10_rowsThere yX10_rowsThere ∈ xwl := xin0 (List.mem_of_getElem? (i := 29) (by decide +kernel)) rfl
theorem xw30 : Cond.selects RX10 yX10_textsThere yX10_textsThere ∈ xwl := xin0 (List.mem_of_getElem? (i := 30) (by decide +kernel)) rfl
theorem xw31 : Cond.selects RX10 yX10_sheetsKept yX10_sheetsKept ∈ xwl := xin0 (List.mem_of_getElem? (i := 31) (by decide +kernel)) rfl
theorem xw32 : Cond.selects RX10 yX10_withFrame yX10_withFrame ∈ xwl := xin0 (List.mem_of_getElem? (i := 32) (by decide +kernel)) rfl
theorem xw33 : Cond.selects RX11 yX11_found yX11_found ∈ xwl := xin0 (List.mem_of_getElem? (i := 33) (by decide +kernel)) rfl
theorem xw34 : Cond.selects RX11 yX11_rowAt yX11_rowAt ∈ xwl := xin0 (List.mem_of_getElem? (i := 34) (by decide +kernel)) rfl
theorem xw35 : Cond.selects RX11 yX11_tells yX11_tells ∈ xwl := xin0 (List.mem_of_getElem? (i := 35) (by decide +kernel)) rfl
theorem xw36 : Cond.selects RX11 yX11_faultOf yX11_faultOf ∈ xwl := xin0 (List.mem_of_getElem? (i := 36) (by decide +kernel)) rfl
theorem xw37 : Cond.selects RX11 yX11_blanks yX11_blanks ∈ xwl := xin0 (List.mem_of_getElem? (i := 37) (by decide +kernel)) rfl
theorem xw38 : Cond.selects RX11 yX11_byteAt yX11_byteAt ∈ xwl := xin0 (List.mem_of_getElem? (i := 38) (by decide +kernel)) rfl
theorem xw39 : Cond.selects RX11 yX11_readsOne yX11_readsOne ∈ xwl := xin0 (List.mem_of_getElem? (i := 39) (by decide +kernel)) rfl
theorem xw40 : Cond.selects RX11 yX11_next yX11_next ∈ xwl := xin0 (List.mem_of_getElem? (i := 40) (by decide +kernel)) rfl
theorem xw41 : Cond.selects RX11 yX11_isLetter yX11_isLetter ∈ xwl := xin0 (List.mem_of_getElem? (i := 41) (by decide +kernel)) rfl
theorem xw42 : Cond.selects RX11 yX11_isFigure yX11_isFigure ∈ xwl := xin0 (List.mem_of_getElem? (i := 42) (by decide +kernel)) rfl
theorem xw43 : Cond.selects RX11 yX11_word yX11_word ∈ xwl := xin0 (List.mem_of_getElem? (i := 43) (by decide +kernel)) rfl
theorem xw44 : Cond.selects RX11 yX11_fails yX11_fails ∈ xwl := xin0 (List.mem_of_getElem? (i := 44) (by decide +kernel)) rfl
theorem xw45 : Cond.selects RX11 yX11_readsPage yX11_readsPage ∈ xwl := xin0 (List.mem_of_getElem? (i := 45) (by decide +kernel)) rfl
theorem xw46 : Cond.selects RX11 yX11_number yX11_number ∈ xwl := xin0 (List.mem_of_getElem? (i := 46) (by decide +kernel)) rfl
theorem xw47 : Cond.selects RX11 yX11_ends yX11_ends ∈ xwl := xin0 (List.mem_of_getElem? (i := 47) (by decide +kernel)) rfl
theorem xw48 : Cond.selects RX11 yX11_readsBleed yX11_readsBleed ∈ xwl := xin0 (List.mem_of_getElem? (i := 48) (by decide +kernel)) rfl
theorem xw49 : Cond.selects RX11 yX11_readsFrame yX11_readsFrame ∈ xwl := xin0 (List.mem_of_getElem? (i := 49) (by decide +kernel)) rfl
theorem xw50 : Cond.selects RX11 yX11_liftsAll yX11_liftsAll ∈ xwl := xin0 (List.mem_of_getElem? (i := 50) (by decide +kernel)) rfl
theorem xw51 : Cond.selects RX11 yX11_writesWord yX11_writesWord ∈ xwl := xin0 (List.mem_of_getElem? (i := 51) (by decide +kernel)) rfl
theorem xw52 : Cond.selects RX11 yX11_writes yX11_writes ∈ xwl := xin0 (List.mem_of_getElem? (i := 52) (by decide +kernel)) rfl
theorem xw53 : Cond.selects RX11 yX11_writesNumber yX11_writesNumber ∈ xwl := xin0 (List.mem_of_getElem? (i := 53) (by decide +kernel)) rfl
theorem xw54 : Cond.selects RX11 yX11_kindOf yX11_kindOf ∈ xwl := xin0 (List.mem_of_getElem? (i := 54) (by decide +kernel)) rfl
theorem xw55 : Cond.selects RX11 yX11_isFrame yX11_isFrame ∈ xwl := xin0 (List.mem_of_getElem? (i := 55) (by decide +kernel)) rfl
theorem xw56 : Cond.selects RX11 yX11_frameTells yX11_frameTells ∈ xwl := xin0 (List.mem_of_getElem? (i := 56) (by decide +kernel)) rfl
theorem xw57 : Cond.selects RX11 yX11_across yX11_across ∈ xwl := xin0 (List.mem_of_getElem? (i := 57) (by decide +kernel)) rfl
theorem xw58 : Cond.selects RX11 yX11_of yX11_of ∈ xwl := xin0 (List.mem_of_getElem? (i := 58) (by decide +kernel)) rfl
theorem xw59 : Cond.selects RX11 yX11_down yX11_down ∈ xwl := xin0 (List.mem_of_getElem? (i := 59) (by decide +kernel)) rfl
theorem xw60 : Cond.selects RX11 yX11_needX yX11_needX ∈ xwl := xin0 (List.mem_of_getElem? (i := 60) (by decide +kernel)) rfl
theorem xw61 : Cond.selects RX11 yX11_edge yX11_edge ∈ xwl := xin0 (List.mem_of_getElem? (i := 61) (by decide +kernel)) rfl
theorem xw62 : Cond.selects RX11 yX11_needY yX11_needY ∈ xwl := xin0 (List.mem_of_getElem? (i := 62) (by decide +kernel)) rfl
theorem xw63 : Cond.selects RX11 yX11_isSet yX11_isSet ∈ xwl := xin0 (List.mem_of_getElem? (i := 63) (by decide +kernel)) rfl
theorem xw64 : Cond.selects RX11 yX11_findsPage yX11_findsPage ∈ xwl := xin0 (List.mem_of_getElem? (i := 64) (by decide +kernel)) rfl
theorem xw65 : Cond.selects RX11 yX11_pageMany yX11_pageMany ∈ xwl := xin0 (List.mem_of_getElem? (i := 65) (by decide +kernel)) rfl
theorem xw66 : Cond.selects RX11 yX11_layFree yX11_layFree ∈ xwl := xin0 (List.mem_of_getElem? (i := 66) (by decide +kernel)) rfl
theorem xw67 : Cond.selects RX11 yX11_layGrid yX11_layGrid ∈ xwl := xin0 (List.mem_of_getElem? (i := 67) (by decide +kernel)) rfl
theorem xw68 : Cond.selects RX11 yX11_isFree yX11_isFree ∈ xwl := xin0 (List.mem_of_getElem? (i := 68) (by decide +kernel)) rfl
theorem xw69 : Cond.selects RX11 yX11_isGreatest yX11_isGreatest ∈ xwl := xin0 (List.mem_of_getElem? (i := 69) (by decide +kernel)) rfl
theorem xw70 : Cond.selects RX11 yX11_findsRoom yX11_findsRoom ∈ xwl := xin0 (List.mem_of_getElem? (i := 70) (by decide +kernel)) rfl
theorem xw71 : Cond.selects RX11 yX11_turns yX11_turns ∈ xwl := xin0 (List.mem_of_getElem? (i := 71) (by decide +kernel)) rfl
theorem xw72 : Cond.selects RX11 yX11_first yX11_first ∈ xwl := xin0 (List.mem_of_getElem? (i := 72) (by decide +kernel)) rfl
theorem xw73 : Cond.selects RX11 yX11_second yX11_second ∈ xwl := xin0 (List.mem_of_getElem? (i := 73) (by decide +kernel)) rfl
theorem xw74 : Cond.selects RX11 yX11_remember yX11_remember ∈ xwl := xin0 (List.mem_of_getElem? (i := 74) (by decide +kernel)) rfl
theorem xw75 : Cond.selects RX11 yX11_sets yX11_sets ∈ xwl := xin0 (List.mem_of_getElem? (i := 75) (by decide +kernel)) rfl
theorem xw76 : Cond.selects RX11 yX11_lifts yX11_lifts ∈ xwl := xin0 (List.mem_of_getElem? (i := 76) (by decide +kernel)) rfl
theorem xw77 : Cond.selects RX11 yX11_setsAll yX11_setsAll ∈ xwl := xin0 (List.mem_of_getElem? (i := 77) (by decide +kernel)) rfl
theorem xw78 : Cond.selects RX11 yX11_weight yX11_weight ∈ xwl := xin0 (List.mem_of_getElem? (i := 78) (by decide +kernel)) rfl
theorem xw79 : Cond.selects RX11 yX11_isPage yX11_isPage ∈ xwl := xin0 (List.mem_of_getElem? (i := 79) (by decide +kernel)) rfl
theorem xw80 : Cond.selects RX11 yX11_leftOf yX11_leftOf ∈ xwl := xin0 (List.mem_of_getElem? (i := 80) (by decide +kernel)) rfl
theorem xw81 : Cond.selects RX11 yX11_aboveOf yX11_aboveOf ∈ xwl := xin0 (List.mem_of_getElem? (i := 81) (by decide +kernel)) rfl
theorem xw82 : Cond.selects RX11 yX11_takenOf yX11_takenOf ∈ xwl := xin0 (List.mem_of_getElem? (i := 82) (by decide +kernel)) rfl
theorem xw83 : Cond.selects RX11 yX11_tries yX11_tries ∈ xwl := xin0 (List.mem_of_getElem? (i := 83) (by decide +kernel)) rfl
theorem xw84 : Cond.selects RX11 yX11_setMany yX11_setMany ∈ xwl := xin0 (List.mem_of_getElem? (i := 84) (by decide +kernel)) rfl
theorem xw85 : Cond.selects RX11 yX11_counted yX11_counted ∈ xwl := xin0 (List.mem_of_getElem? (i := 85) (by decide +kernel)) rfl
theorem xw86 : Cond.selects RX11 yX11_allTaken yX11_allTaken ∈ xwl := xin0 (List.mem_of_getElem? (i := 86) (by decide +kernel)) rfl
theorem xw87 : Cond.selects RX11 yX11_allFree yX11_allFree ∈ xwl := xin0 (List.mem_of_getElem? (i := 87) (by decide +kernel)) rfl
theorem xw88 : Cond.selects RX11 yX11_adds yX11_adds ∈ xwl := xin0 (List.mem_of_getElem? (i := 88) (by decide +kernel)) rfl
theorem xw89 : Cond.initialized RL ∈ xwl := xin1 (List.mem_of_getElem? (i := 0) (by decide +kernel)) rfl
theorem xw90 : Cond.initialized RX10 ∈ xwl := xin1 (List.mem_of_getElem? (i := 1) (by decide +kernel)) rfl
theorem xw91 : Cond.initialized RX8 ∈ xwl := xin1 (List.mem_of_getElem? (i := 2) (by decide +kernel)) rfl
theorem xw92 : Cond.initialized RX1 ∈ xwl := xin1 (List.mem_of_getElem? (i := 3) (by decide +kernel)) rfl
theorem xw93 : Cond.initialized RX3 ∈ xwl := xin1 (List.mem_of_getElem? (i := 4) (by decide +kernel)) rfl
theorem xw94 : Cond.initialized RX7 ∈ xwl := xin1 (List.mem_of_getElem? (i := 5) (by decide +kernel)) rfl
theorem xw95 : Cond.initialized RX0 ∈ xwl := xin1 (List.mem_of_getElem? (i := 6) (by decide +kernel)) rfl
theorem xw96 : Cond.initialized RX6 ∈ xwl := xin1 (List.mem_of_getElem? (i := 7) (by decide +kernel)) rfl
theorem xw97 : Cond.initialized RX2 ∈ xwl := xin1 (List.mem_of_getElem? (i := 8) (by decide +kernel)) rfl
theorem xw98 : Cond.initialized RX4 ∈ xwl := xin1 (List.mem_of_getElem? (i := 9) (by decide +kernel)) rfl
theorem xw99 : Cond.initialized RX5 ∈ xwl := xin1 (List.mem_of_getElem? (i := 10) (by decide +kernel)) rfl
theorem xw100 : Cond.initialized RX9 ∈ xwl := xin1 (List.mem_of_getElem? (i := 11) (by decide +kernel)) rfl
theorem xw101 : Cond.initialized RX11 ∈ xwl := xin1 (List.mem_of_getElem? (i := 12) (by decide +kernel)) rfl
theorem xw102 : Cond.initialized "java/lang/Math" ∈ xwl := xin1 (List.mem_of_getElem? (i := 13) (by decide +kernel)) rfl
theorem xw103 : Cond.initialized "java/lang/System" ∈ xwl := xin1 (List.mem_of_getElem? (i := 14) (by decide +kernel)) rfl
theorem xw104 : Cond.initialized "java/lang/String" ∈ xwl := xin1 (List.mem_of_getElem? (i := 15) (by decide +kernel)) rfl
theorem xw105 : Cond.initialized "java/lang/StringLatin1" ∈ xwl := xin1 (List.mem_of_getElem? (i := 16) (by decide +kernel)) rfl
theorem xw106 : Cond.initialized "jdk/internal/util/Preconditions" ∈ xwl := xin1 (List.mem_of_getElem? (i := 17) (by decide +kernel)) rfl
theorem xw107 : Cond.initialized "java/lang/StringUTF16" ∈ xwl := xin1 (List.mem_of_getElem? (i := 18) (by decide +kernel)) rfl
theorem xw108 : Cond.classLink RL 7 RX10 ∈ xwl := xin1 (List.mem_of_getElem? (i := 19) (by decide +kernel)) rfl
theorem xw109 : Cond.instantiable RX10 13 ∈ xwl := xin1 (List.mem_of_getElem? (i := 20) (by decide +kernel)) rfl
theorem xw110 : Cond.methodLink RL 9 yX10_init ∈ xwl := xin1 (List.mem_of_getElem? (i := 21) (by decide +kernel)) rfl
theorem xw111 : Cond.instanceMethod yX10_init ∈ xwl := xin1 (List.mem_of_getElem? (i := 22) (by decide +kernel)) rfl
theorem xw112 : Cond.code yX10_init cX10_init 2 none ∈ xwl := xin1 (List.mem_of_getElem? (i := 23) rfl) rfl
theorem xw113 : Cond.methodLink RX10 1 objectInit ∈ xwl := xin1 (List.mem_of_getElem? (i := 24) (by decide +kernel)) rfl
theorem xw114 : Cond.instanceMethod objectInit ∈ xwl := xin1 (List.mem_of_getElem? (i := 25) (by decide +kernel)) rfl
theorem xw115 : Cond.code objectInit object_method_1_code 1 none ∈ xwl := xin1 (List.mem_of_getElem? (i := 26) rfl) rfl
theorem xw116 : Cond.classLink RX10 9 RX5 ∈ xwl := xin1 (List.mem_of_getElem? (i := 27) (by decide +kernel)) rfl
theorem xw118 : Cond.classLink RX10 15 RX9 ∈ xwl := xin1 (List.mem_of_getElem? (i := 29) (by decide +kernel)) rfl
theorem xw120 : Cond.classLink RX10 21 RX8 ∈ xwl := xin1 (List.mem_of_getElem? (i := 31) (by decide +kernel)) rfl
theorem xw122 : Cond.instantiable RX8 3 ∈ xwl := xin1 (List.mem_of_getElem? (i := 33) (by decide +kernel)) rfl
theorem xw124 : Cond.instanceMethod yX8_init ∈ xwl := xin1 (List.mem_of_getElem? (i := 35) (by decide +kernel)) rfl
theorem xw125 : Cond.code yX8_init cX8_init 1 none ∈ xwl := xin1 (List.mem_of_getElem? (i := 36) rfl) rfl
theorem xw126 : Cond.methodLink RX8 3 objectInit ∈ xwl := xin1 (List.mem_of_getElem? (i := 37) (by decide +kernel)) rfl
theorem xw127 : Cond.classLink RX8 9 RX1 ∈ xwl := xin1 (List.mem_of_getElem? (i := 38) (by decide +kernel)) rfl
theorem xw128 : Cond.instantiable RX1 2 ∈ xwl := xin1 (List.mem_of_getElem? (i := 39) (by decide +kernel)) rfl
theorem xw129 : Cond.methodLink RX8 11 yX1_init ∈ xwl := xin1 (List.mem_of_getElem? (i := 40) (by decide +kernel)) rfl
theorem xw130 : Cond.instanceMethod yX1_init ∈ xwl := xin1 (List.mem_of_getElem? (i := 41) (by decide +kernel)) rfl
theorem xw131 : Cond.code yX1_init cX1_init 2 none ∈ xwl := xin1 (List.mem_of_getElem? (i := 42) rfl) rfl
theorem xw132 : Cond.methodLink RX1 3 objectInit ∈ xwl := xin1 (List.mem_of_getElem? (i := 43) (by decide +kernel)) rfl
theorem xw133 : Cond.fieldLink RX1 9 "FrameSheets$Layout" "spots" "[I" ∈ xwl := xin1 (List.mem_of_getElem? (i := 44) (by decide +kernel)) rfl
theorem xw134 : Cond.fieldLink RX2 60 "FrameSheets$Layout" "spots" "[I" ∈ xwl := xin1 (List.mem_of_getElem? (i := 45) (by decide +kernel)) rfl
theorem xw135 : Cond.fieldLink RX8 36 "FrameSheets$Layout" "spots" "[I" ∈ xwl := xin1 (List.mem_of_getElem? (i := 46) (by decide +kernel)) rfl
theorem xw136 : Cond.fieldLink RX10 204 "FrameSheets$Layout" "spots" "[I" ∈ xwl := xin1 (List.mem_of_getElem? (i := 47) (by decide +kernel)) rfl
theorem xw137 : Cond.fieldLink RX1 15 "FrameSheets$Layout" "rule" "I" ∈ xwl := xin1 (List.mem_of_getElem? (i := 48) (by decide +kernel)) rfl
theorem xw138 : Cond.fieldLink RX2 38 "FrameSheets$Layout" "rule" "I" ∈ xwl := xin1 (List.mem_of_getElem? (i := 49) (by decide +kernel)) rfl
theorem xw139 : Cond.fieldLink RX8 29 "FrameSheets$Layout" "rule" "I" ∈ xwl := xin1 (List.mem_of_getElem? (i := 50) (by decide +kernel)) rfl
theorem xw140 : Cond.fieldLink RX10 217 "FrameSheets$Layout" "rule" "I" ∈ xwl := xin1 (List.mem_of_getElem? (i := 51) (by decide +kernel)) rfl
theorem xw141 : Cond.laysFinal RX1 "FrameSheets$Layout" "spots" "[I" ∈ xwl := xin1 (List.mem_of_getElem? (i := 52) (by decide +kernel)) rfl
theorem xw143 : Cond.lays RX1 "FrameSheets$Layout" "rule" "I" ∈ xwl := xin1 (List.mem_of_getElem? (i := 54) (by decide +kernel)) rfl
theorem xw146 : Cond.arrayClass .boolean ∈ xwl := xin1 (List.mem_of_getElem? (i := 57) (by decide +kernel)) rfl
theorem xw147 : Cond.arrayClass .int ∈ xwl := xin1 (List.mem_of_getElem? (i := 58) (by decide +kernel)) rfl
theorem xw148 : Cond.fieldLink RX8 12 "FrameSheets$Story" "now" "LFrameSheets$Layout;" ∈ xwl := xin1 (List.mem_of_getElem? (i := 59) (by decide +kernel)) rfl
theorem xw149 : Cond.fieldLink RX10 163 "FrameSheets$Story" "now" "LFrameSheets$Layout;" ∈ xwl := xin1 (List.mem_of_getElem? (i := 60) (by decide +kernel)) rfl
theorem xw150 : Cond.fieldLink RX8 18 "FrameSheets$Story" "past" "[I" ∈ xwl := xin1 (List.mem_of_getElem? (i := 61) (by decide +kernel)) rfl
theorem xw151 : Cond.fieldLink RX8 22 "FrameSheets$Story" "deeds" "I" ∈ xwl := xin1 (List.mem_of_getElem? (i := 62) (by decide +kernel)) rfl
theorem xw152 : Cond.fieldLink RX10 220 "FrameSheets$Story" "deeds" "I" ∈ xwl := xin1 (List.mem_of_getElem? (i := 63) (by decide +kernel)) rfl
theorem xw153 : Cond.laysFinal RX8 "FrameSheets$Story" "now" "LFrameSheets$Layout;" ∈ xwl := xin1 (List.mem_of_getElem? (i := 64) (by decide +kernel)) rfl
theorem xw155 : Cond.laysFinal RX8 "FrameSheets$Story" "past" "[I" ∈ xwl := xin1 (List.mem_of_getElem? (i := 66) (by decide +kernel)) rfl
theorem xw157 : Cond.lays RX8 "FrameSheets$Story" "deeds" "I" ∈ xwl := xin1 (List.mem_of_getElem? (i := 68) (by decide +kernel)) rfl
theorem xw160 : Cond.classLink RX10 36 RX3 ∈ xwl := xin1 (List.mem_of_getElem? (i := 71) (by decide +kernel)) rfl
theorem xw161 : Cond.instantiable RX3 8 ∈ xwl := xin1 (List.mem_of_getElem? (i := 72) (by decide +kernel)) rfl
theorem xw163 : Cond.instanceMethod yX3_init ∈ xwl := xin1 (List.mem_of_getElem? (i := 74) (by decide +kernel)) rfl
theorem xw164 : Cond.code yX3_init cX3_init 1 none ∈ xwl := xin1 (List.mem_of_getElem? (i := 75) rfl) rfl
theorem xw165 : Cond.methodLink RX3 3 objectInit ∈ xwl := xin1 (List.mem_of_getElem? (i := 76) (by decide +kernel)) rfl
theorem xw166 : Cond.classLink RX3 9 RX7 ∈ xwl := xin1 (List.mem_of_getElem? (i := 77) (by decide +kernel)) rfl
theorem xw167 : Cond.instantiable RX7 5 ∈ xwl := xin1 (List.mem_of_getElem? (i := 78) (by decide +kernel)) rfl
theorem xw168 : Cond.methodLink RX3 11 yX7_init ∈ xwl := xin1 (List.mem_of_getElem? (i := 79) (by decide +kernel)) rfl
theorem xw169 : Cond.instanceMethod yX7_init ∈ xwl := xin1 (List.mem_of_getElem? (i := 80) (by decide +kernel)) rfl
theorem xw170 : Cond.code yX7_init cX7_init 2 none ∈ xwl := xin1 (List.mem_of_getElem? (i := 81) rfl) rfl
theorem xw171 : Cond.methodLink RX7 3 objectInit ∈ xwl := xin1 (List.mem_of_getElem? (i := 82) (by decide +kernel)) rfl
theorem xw172 : Cond.classLink RX7 9 RX0 ∈ xwl := xin1 (List.mem_of_getElem? (i := 83) (by decide +kernel)) rfl
theorem xw174 : Cond.instantiable RX0 12 ∈ xwl := xin1 (List.mem_of_getElem? (i := 85) (by decide +kernel)) rfl
theorem xw176 : Cond.instanceMethod yX0_init ∈ xwl := xin1 (List.mem_of_getElem? (i := 87) (by decide +kernel)) rfl
theorem xw177 : Cond.code yX0_init cX0_init 1 none ∈ xwl := xin1 (List.mem_of_getElem? (i := 88) rfl) rfl
theorem xw178 : Cond.methodLink RX0 3 objectInit ∈ xwl := xin1 (List.mem_of_getElem? (i := 89) (by decide +kernel)) rfl
theorem xw179 : Cond.fieldLink RX0 9 "FrameSheets$Frame" "kind" "I" ∈ xwl := xin1 (List.mem_of_getElem? (i := 90) (by decide +kernel)) rfl
theorem xw180 : Cond.fieldLink RX6 53 "FrameSheets$Frame" "kind" "I" ∈ xwl := xin1 (List.mem_of_getElem? (i := 91) (by decide +kernel)) rfl
theorem xw181 : Cond.fieldLink RX3 99 "FrameSheets$Frame" "kind" "I" ∈ xwl := xin1 (List.mem_of_getElem? (i := 92) (by decide +kernel)) rfl
theorem xw182 : Cond.fieldLink RX0 18 "FrameSheets$Frame" "w" "I" ∈ xwl := xin1 (List.mem_of_getElem? (i := 93) (by decide +kernel)) rfl
theorem xw183 : Cond.fieldLink RX6 62 "FrameSheets$Frame" "w" "I" ∈ xwl := xin1 (List.mem_of_getElem? (i := 94) (by decide +kernel)) rfl
theorem xw184 : Cond.fieldLink RX3 111 "FrameSheets$Frame" "w" "I" ∈ xwl := xin1 (List.mem_of_getElem? (i := 95) (by decide +kernel)) rfl
theorem xw185 : Cond.fieldLink RX10 257 "FrameSheets$Frame" "w" "I" ∈ xwl := xin1 (List.mem_of_getElem? (i := 96) (by decide +kernel)) rfl
theorem xw186 : Cond.fieldLink RX0 30 "FrameSheets$Frame" "h" "I" ∈ xwl := xin1 (List.mem_of_getElem? (i := 97) (by decide +kernel)) rfl
theorem xw187 : Cond.fieldLink RX6 65 "FrameSheets$Frame" "h" "I" ∈ xwl := xin1 (List.mem_of_getElem? (i := 98) (by decide +kernel)) rfl
theorem xw188 : Cond.fieldLink RX3 114 "FrameSheets$Frame" "h" "I" ∈ xwl := xin1 (List.mem_of_getElem? (i := 99) (by decide +kernel)) rfl
theorem xw189 : Cond.fieldLink RX10 260 "FrameSheets$Frame" "h" "I" ∈ xwl := xin1 (List.mem_of_getElem? (i := 100) (by decide +kernel)) rfl
theorem xw190 : Cond.fieldLink RX0 21 "FrameSheets$Frame" "left" "I" ∈ xwl := xin1 (List.mem_of_getElem? (i := 101) (by decide +kernel)) rfl
theorem xw191 : Cond.fieldLink RX6 68 "FrameSheets$Frame" "left" "I" ∈ xwl := xin1 (List.mem_of_getElem? (i := 102) (by decide +kernel)) rfl
theorem xw192 : Cond.fieldLink RX3 117 "FrameSheets$Frame" "left" "I" ∈ xwl := xin1 (List.mem_of_getElem? (i := 103) (by decide +kernel)) rfl
theorem xw193 : Cond.fieldLink RX0 33 "FrameSheets$Frame" "above" "I" ∈ xwl := xin1 (List.mem_of_getElem? (i := 104) (by decide +kernel)) rfl
theorem xw194 : Cond.fieldLink RX6 71 "FrameSheets$Frame" "above" "I" ∈ xwl := xin1 (List.mem_of_getElem? (i := 105) (by decide +kernel)) rfl
theorem xw195 : Cond.fieldLink RX3 120 "FrameSheets$Frame" "above" "I" ∈ xwl := xin1 (List.mem_of_getElem? (i := 106) (by decide +kernel)) rfl
theorem xw196 : Cond.fieldLink RX0 24 "FrameSheets$Frame" "right" "I" ∈ xwl := xin1 (List.mem_of_getElem? (i := 107) (by decide +kernel)) rfl
theorem xw197 : Cond.fieldLink RX6 74 "FrameSheets$Frame" "right" "I" ∈ xwl := xin1 (List.mem_of_getElem? (i := 108) (by decide +kernel)) rfl
theorem xw198 : Cond.fieldLink RX3 123 "FrameSheets$Frame" "right" "I" ∈ xwl := xin1 (List.mem_of_getElem? (i := 109) (by decide +kernel)) rfl
theorem xw199 : Cond.fieldLink RX0 36 "FrameSheets$Frame" "below" "I" ∈ xwl := xin1 (List.mem_of_getElem? (i := 110) (by decide +kernel)) rfl
theorem xw200 : Cond.fieldLink RX6 77 "FrameSheets$Frame" "below" "I" ∈ xwl := xin1 (List.mem_of_getElem? (i := 111) (by decide +kernel)) rfl
theorem xw201 : Cond.fieldLink RX3 126 "FrameSheets$Frame" "below" "I" ∈ xwl := xin1 (List.mem_of_getElem? (i := 112) (by decide +kernel)) rfl
theorem xw202 : Cond.fieldLink RX0 15 "FrameSheets$Frame" "edge" "I" ∈ xwl := xin1 (List.mem_of_getElem? (i := 113) (by decide +kernel)) rfl
theorem xw203 : Cond.fieldLink RX10 275 "FrameSheets$Frame" "edge" "I" ∈ xwl := xin1 (List.mem_of_getElem? (i := 114) (by decide +kernel)) rfl
theorem xw204 : Cond.fieldLink RX0 27 "FrameSheets$Frame" "across" "I" ∈ xwl := xin1 (List.mem_of_getElem? (i := 115) (by decide +kernel)) rfl
theorem xw205 : Cond.fieldLink RX10 176 "FrameSheets$Frame" "across" "I" ∈ xwl := xin1 (List.mem_of_getElem? (i := 116) (by decide +kernel)) rfl
theorem xw206 : Cond.fieldLink RX0 39 "FrameSheets$Frame" "down" "I" ∈ xwl := xin1 (List.mem_of_getElem? (i := 117) (by decide +kernel)) rfl
theorem xw207 : Cond.fieldLink RX10 179 "FrameSheets$Frame" "down" "I" ∈ xwl := xin1 (List.mem_of_getElem? (i := 118) (by decide +kernel)) rfl
theorem xw208 : Cond.fieldLink RX0 42 "FrameSheets$Frame" "firstColumn" "I" ∈ xwl := xin1 (List.mem_of_getElem? (i := 119) (by decide +kernel)) rfl
theorem xw209 : Cond.fieldLink RX10 263 "FrameSheets$Frame" "firstColumn" "I" ∈ xwl := xin1 (List.mem_of_getElem? (i := 120) (by decide +kernel)) rfl
theorem xw210 : Cond.fieldLink RX0 45 "FrameSheets$Frame" "firstRow" "I" ∈ xwl := xin1 (List.mem_of_getElem? (i := 121) (by decide +kernel)) rfl
theorem xw211 : Cond.fieldLink RX10 266 "FrameSheets$Frame" "firstRow" "I" ∈ xwl := xin1 (List.mem_of_getElem? (i := 122) (by decide +kernel)) rfl
theorem xw212 : Cond.lays RX0 "FrameSheets$Frame" "kind" "I" ∈ xwl := xin1 (List.mem_of_getElem? (i := 123) (by decide +kernel)) rfl
theorem xw214 : Cond.lays RX0 "FrameSheets$Frame" "w" "I" ∈ xwl := xin1 (List.mem_of_getElem? (i := 125) (by decide +kernel)) rfl
theorem xw216 : Cond.lays RX0 "FrameSheets$Frame" "h" "I" ∈ xwl := xin1 (List.mem_of_getElem? (i := 127) (by decide +kernel)) rfl
theorem xw218 : Cond.lays RX0 "FrameSheets$Frame" "left" "I" ∈ xwl := xin1 (List.mem_of_getElem? (i := 129) (by decide +kernel)) rfl
theorem xw220 : Cond.lays RX0 "FrameSheets$Frame" "above" "I" ∈ xwl := xin1 (List.mem_of_getElem? (i := 131) (by decide +kernel)) rfl
theorem xw222 : Cond.lays RX0 "FrameSheets$Frame" "right" "I" ∈ xwl := xin1 (List.mem_of_getElem? (i := 133) (by decide +kernel)) rfl
theorem xw224 : Cond.lays RX0 "FrameSheets$Frame" "below" "I" ∈ xwl := xin1 (List.mem_of_getElem? (i := 135) (by decide +kernel)) rfl
theorem xw226 : Cond.lays RX0 "FrameSheets$Frame" "edge" "I" ∈ xwl := xin1 (List.mem_of_getElem? (i := 137) (by decide +kernel)) rfl
theorem xw228 : Cond.lays RX0 "FrameSheets$Frame" "across" "I" ∈ xwl := xin1 (List.mem_of_getElem? (i := 139) (by decide +kernel)) rfl
theorem xw230 : Cond.lays RX0 "FrameSheets$Frame" "down" "I" ∈ xwl := xin1 (List.mem_of_getElem? (i := 141) (by decide +kernel)) rfl
theorem xw232 : Cond.lays RX0 "FrameSheets$Frame" "firstColumn" "I" ∈ xwl := xin1 (List.mem_of_getElem? (i := 143) (by decide +kernel)) rfl
theorem xw234 : Cond.lays RX0 "FrameSheets$Frame" "firstRow" "I" ∈ xwl := xin1 (List.mem_of_getElem? (i := 145) (by decide +kernel)) rfl
theorem xw237 : Cond.fieldLink RX7 11 "FrameSheets$Sheet" "frames" "[LFrameSheets$Frame;" ∈ xwl := xin1 (List.mem_of_getElem? (i := 148) (by decide +kernel)) rfl
theorem xw238 : Cond.fieldLink RX2 32 "FrameSheets$Sheet" "frames" "[LFrameSheets$Frame;" ∈ xwl := xin1 (List.mem_of_getElem? (i := 149) (by decide +kernel)) rfl
theorem xw239 : Cond.fieldLink RX6 45 "FrameSheets$Sheet" "frames" "[LFrameSheets$Frame;" ∈ xwl := xin1 (List.mem_of_getElem? (i := 150) (by decide +kernel)) rfl
theorem xw240 : Cond.fieldLink RX4 49 "FrameSheets$Sheet" "frames" "[LFrameSheets$Frame;" ∈ xwl := xin1 (List.mem_of_getElem? (i := 151) (by decide +kernel)) rfl
theorem xw241 : Cond.fieldLink RX3 95 "FrameSheets$Sheet" "frames" "[LFrameSheets$Frame;" ∈ xwl := xin1 (List.mem_of_getElem? (i := 152) (by decide +kernel)) rfl
theorem xw242 : Cond.fieldLink RX10 154 "FrameSheets$Sheet" "frames" "[LFrameSheets$Frame;" ∈ xwl := xin1 (List.mem_of_getElem? (i := 153) (by decide +kernel)) rfl
theorem xw243 : Cond.fieldLink RX7 17 "FrameSheets$Sheet" "size" "I" ∈ xwl := xin1 (List.mem_of_getElem? (i := 154) (by decide +kernel)) rfl
theorem xw244 : Cond.fieldLink RX4 38 "FrameSheets$Sheet" "size" "I" ∈ xwl := xin1 (List.mem_of_getElem? (i := 155) (by decide +kernel)) rfl
theorem xw245 : Cond.fieldLink RX6 44 "FrameSheets$Sheet" "size" "I" ∈ xwl := xin1 (List.mem_of_getElem? (i := 156) (by decide +kernel)) rfl
theorem xw246 : Cond.fieldLink RX2 57 "FrameSheets$Sheet" "size" "I" ∈ xwl := xin1 (List.mem_of_getElem? (i := 157) (by decide +kernel)) rfl
theorem xw247 : Cond.fieldLink RX3 52 "FrameSheets$Sheet" "size" "I" ∈ xwl := xin1 (List.mem_of_getElem? (i := 158) (by decide +kernel)) rfl
theorem xw248 : Cond.fieldLink RX10 140 "FrameSheets$Sheet" "size" "I" ∈ xwl := xin1 (List.mem_of_getElem? (i := 159) (by decide +kernel)) rfl
theorem xw249 : Cond.fieldLink RX7 21 "FrameSheets$Sheet" "wide" "I" ∈ xwl := xin1 (List.mem_of_getElem? (i := 160) (by decide +kernel)) rfl
theorem xw250 : Cond.fieldLink RX4 28 "FrameSheets$Sheet" "wide" "I" ∈ xwl := xin1 (List.mem_of_getElem? (i := 161) (by decide +kernel)) rfl
theorem xw251 : Cond.fieldLink RX6 25 "FrameSheets$Sheet" "wide" "I" ∈ xwl := xin1 (List.mem_of_getElem? (i := 162) (by decide +kernel)) rfl
theorem xw252 : Cond.fieldLink RX3 78 "FrameSheets$Sheet" "wide" "I" ∈ xwl := xin1 (List.mem_of_getElem? (i := 163) (by decide +kernel)) rfl
theorem xw253 : Cond.fieldLink RX10 243 "FrameSheets$Sheet" "wide" "I" ∈ xwl := xin1 (List.mem_of_getElem? (i := 164) (by decide +kernel)) rfl
theorem xw254 : Cond.fieldLink RX7 24 "FrameSheets$Sheet" "high" "I" ∈ xwl := xin1 (List.mem_of_getElem? (i := 165) (by decide +kernel)) rfl
theorem xw255 : Cond.fieldLink RX4 37 "FrameSheets$Sheet" "high" "I" ∈ xwl := xin1 (List.mem_of_getElem? (i := 166) (by decide +kernel)) rfl
theorem xw256 : Cond.fieldLink RX6 34 "FrameSheets$Sheet" "high" "I" ∈ xwl := xin1 (List.mem_of_getElem? (i := 167) (by decide +kernel)) rfl
theorem xw257 : Cond.fieldLink RX3 81 "FrameSheets$Sheet" "high" "I" ∈ xwl := xin1 (List.mem_of_getElem? (i := 168) (by decide +kernel)) rfl
theorem xw258 : Cond.fieldLink RX10 246 "FrameSheets$Sheet" "high" "I" ∈ xwl := xin1 (List.mem_of_getElem? (i := 169) (by decide +kernel)) rfl
theorem xw259 : Cond.fieldLink RX7 27 "FrameSheets$Sheet" "bleed" "I" ∈ xwl := xin1 (List.mem_of_getElem? (i := 170) (by decide +kernel)) rfl
theorem xw260 : Cond.fieldLink RX6 40 "FrameSheets$Sheet" "bleed" "I" ∈ xwl := xin1 (List.mem_of_getElem? (i := 171) (by decide +kernel)) rfl
theorem xw261 : Cond.fieldLink RX3 53 "FrameSheets$Sheet" "bleed" "I" ∈ xwl := xin1 (List.mem_of_getElem? (i := 172) (by decide +kernel)) rfl
theorem xw262 : Cond.fieldLink RX10 307 "FrameSheets$Sheet" "bleed" "I" ∈ xwl := xin1 (List.mem_of_getElem? (i := 173) (by decide +kernel)) rfl
theorem xw263 : Cond.laysFinal RX7 "FrameSheets$Sheet" "frames" "[LFrameSheets$Frame;" ∈ xwl := xin1 (List.mem_of_getElem? (i := 174) (by decide +kernel)) rfl
theorem xw265 : Cond.lays RX7 "FrameSheets$Sheet" "size" "I" ∈ xwl := xin1 (List.mem_of_getElem? (i := 176) (by decide +kernel)) rfl
theorem xw267 : Cond.lays RX7 "FrameSheets$Sheet" "wide" "I" ∈ xwl := xin1 (List.mem_of_getElem? (i := 178) (by decide +kernel)) rfl
theorem xw269 : Cond.lays RX7 "FrameSheets$Sheet" "high" "I" ∈ xwl := xin1 (List.mem_of_getElem? (i := 180) (by decide +kernel)) rfl
theorem xw271 : Cond.lays RX7 "FrameSheets$Sheet" "bleed" "I" ∈ xwl := xin1 (List.mem_of_getElem? (i := 182) (by decide +kernel)) rfl
theorem xw274 : Cond.fieldLink RX3 12 "FrameSheets$Reader" "draft" "LFrameSheets$Sheet;" ∈ xwl := xin1 (List.mem_of_getElem? (i := 185) (by decide +kernel)) rfl
theorem xw275 : Cond.fieldLink RX3 18 "FrameSheets$Reader" "bytes" "[B" ∈ xwl := xin1 (List.mem_of_getElem? (i := 186) (by decide +kernel)) rfl
theorem xw276 : Cond.fieldLink RX3 22 "FrameSheets$Reader" "size" "I" ∈ xwl := xin1 (List.mem_of_getElem? (i := 187) (by decide +kernel)) rfl
theorem xw277 : Cond.fieldLink RX3 26 "FrameSheets$Reader" "token" "I" ∈ xwl := xin1 (List.mem_of_getElem? (i := 188) (by decide +kernel)) rfl
theorem xw278 : Cond.fieldLink RX3 29 "FrameSheets$Reader" "from" "I" ∈ xwl := xin1 (List.mem_of_getElem? (i := 189) (by decide +kernel)) rfl
theorem xw279 : Cond.fieldLink RX3 32 "FrameSheets$Reader" "to" "I" ∈ xwl := xin1 (List.mem_of_getElem? (i := 190) (by decide +kernel)) rfl
theorem xw280 : Cond.fieldLink RX3 35 "FrameSheets$Reader" "value" "I" ∈ xwl := xin1 (List.mem_of_getElem? (i := 191) (by decide +kernel)) rfl
theorem xw281 : Cond.fieldLink RX3 38 "FrameSheets$Reader" "bleedIsTold" "Z" ∈ xwl := xin1 (List.mem_of_getElem? (i := 192) (by decide +kernel)) rfl
theorem xw282 : Cond.lays RX3 "FrameSheets$Reader" "draft" "LFrameSheets$Sheet;" ∈ xwl := xin1 (List.mem_of_getElem? (i := 193) (by decide +kernel)) rfl
theorem xw284 : Cond.lays RX3 "FrameSheets$Reader" "bytes" "[B" ∈ xwl := xin1 (List.mem_of_getElem? (i := 195) (by decide +kernel)) rfl
theorem xw286 : Cond.lays RX3 "FrameSheets$Reader" "size" "I" ∈ xwl := xin1 (List.mem_of_getElem? (i := 197) (by decide +kernel)) rfl
theorem xw288 : Cond.lays RX3 "FrameSheets$Reader" "token" "I" ∈ xwl := xin1 (List.mem_of_getElem? (i := 199) (by decide +kernel)) rfl
theorem xw290 : Cond.lays RX3 "FrameSheets$Reader" "from" "I" ∈ xwl := xin1 (List.mem_of_getElem? (i := 201) (by decide +kernel)) rfl
theorem xw292 : Cond.lays RX3 "FrameSheets$Reader" "to" "I" ∈ xwl := xin1 (List.mem_of_getElem? (i := 203) (by decide +kernel)) rfl
theorem xw294 : Cond.lays RX3 "FrameSheets$Reader" "value" "I" ∈ xwl := xin1 (List.mem_of_getElem? (i := 205) (by decide +kernel)) rfl
theorem xw296 : Cond.lays RX3 "FrameSheets$Reader" "bleedIsTold" "Z" ∈ xwl := xin1 (List.mem_of_getElem? (i := 207) (by decide +kernel)) rfl
theorem xw299 : Cond.arrayClass .byte ∈ xwl := xin1 (List.mem_of_getElem? (i := 210) (by decide +kernel)) rfl
theorem xw300 : Cond.classLink RX10 43 RX6 ∈ xwl := xin1 (List.mem_of_getElem? (i := 211) (by decide +kernel)) rfl
theorem xw301 : Cond.instantiable RX6 2 ∈ xwl := xin1 (List.mem_of_getElem? (i := 212) (by decide +kernel)) rfl
theorem xw303 : Cond.instanceMethod yX6_init ∈ xwl := xin1 (List.mem_of_getElem? (i := 214) (by decide +kernel)) rfl
theorem xw304 : Cond.code yX6_init cX6_init 1 none ∈ xwl := xin1 (List.mem_of_getElem? (i := 215) rfl) rfl
theorem xw305 : Cond.methodLink RX6 3 objectInit ∈ xwl := xin1 (List.mem_of_getElem? (i := 216) (by decide +kernel)) rfl
theorem xw306 : Cond.fieldLink RX6 9 "FrameSheets$Scribe" "bytes" "[B" ∈ xwl := xin1 (List.mem_of_getElem? (i := 217) (by decide +kernel)) rfl
theorem xw307 : Cond.fieldLink RX10 149 "FrameSheets$Scribe" "bytes" "[B" ∈ xwl := xin1 (List.mem_of_getElem? (i := 218) (by decide +kernel)) rfl
theorem xw308 : Cond.fieldLink RX6 15 "FrameSheets$Scribe" "size" "I" ∈ xwl := xin1 (List.mem_of_getElem? (i := 219) (by decide +kernel)) rfl
theorem xw309 : Cond.fieldLink RX10 148 "FrameSheets$Scribe" "size" "I" ∈ xwl := xin1 (List.mem_of_getElem? (i := 220) (by decide +kernel)) rfl
theorem xw310 : Cond.laysFinal RX6 "FrameSheets$Scribe" "bytes" "[B" ∈ xwl := xin1 (List.mem_of_getElem? (i := 221) (by decide +kernel)) rfl
theorem xw312 : Cond.lays RX6 "FrameSheets$Scribe" "size" "I" ∈ xwl := xin1 (List.mem_of_getElem? (i := 223) (by decide +kernel)) rfl
theorem xw315 : Cond.classLink RX10 50 RX2 ∈ xwl := xin1 (List.mem_of_getElem? (i := 226) (by decide +kernel)) rfl
theorem xw316 : Cond.instantiable RX2 2 ∈ xwl := xin1 (List.mem_of_getElem? (i := 227) (by decide +kernel)) rfl
theorem xw318 : Cond.instanceMethod yX2_init ∈ xwl := xin1 (List.mem_of_getElem? (i := 229) (by decide +kernel)) rfl
theorem xw319 : Cond.code yX2_init cX2_init 1 none ∈ xwl := xin1 (List.mem_of_getElem? (i := 230) rfl) rfl
theorem xw320 : Cond.methodLink RX2 3 objectInit ∈ xwl := xin1 (List.mem_of_getElem? (i := 231) (by decide +kernel)) rfl
theorem xw321 : Cond.classLink RX2 9 RX4 ∈ xwl := xin1 (List.mem_of_getElem? (i := 232) (by decide +kernel)) rfl
theorem xw322 : Cond.instantiable RX4 5 ∈ xwl := xin1 (List.mem_of_getElem? (i := 233) (by decide +kernel)) rfl
theorem xw324 : Cond.instanceMethod yX4_init ∈ xwl := xin1 (List.mem_of_getElem? (i := 235) (by decide +kernel)) rfl
theorem xw325 : Cond.code yX4_init cX4_init 1 none ∈ xwl := xin1 (List.mem_of_getElem? (i := 236) rfl) rfl
theorem xw326 : Cond.methodLink RX4 3 objectInit ∈ xwl := xin1 (List.mem_of_getElem? (i := 237) (by decide +kernel)) rfl
theorem xw327 : Cond.fieldLink RX4 9 "FrameSheets$Room" "taken" "[I" ∈ xwl := xin1 (List.mem_of_getElem? (i := 238) (by decide +kernel)) rfl
theorem xw328 : Cond.fieldLink RX4 15 "FrameSheets$Room" "free" "[I" ∈ xwl := xin1 (List.mem_of_getElem? (i := 239) (by decide +kernel)) rfl
theorem xw329 : Cond.fieldLink RX4 18 "FrameSheets$Room" "wide" "I" ∈ xwl := xin2 (List.mem_of_getElem? (i := 0) (by decide +kernel)) rfl
theorem xw330 : Cond.fieldLink RX4 22 "FrameSheets$Room" "high" "I" ∈ xwl := xin2 (List.mem_of_getElem? (i := 1) (by decide +kernel)) rfl
theorem xw331 : Cond.fieldLink RX4 25 "FrameSheets$Room" "size" "I" ∈ xwl := xin2 (List.mem_of_getElem? (i := 2) (by decide +kernel)) rfl
theorem xw332 : Cond.fieldLink RX10 241 "FrameSheets$Room" "size" "I" ∈ xwl := xin2 (List.mem_of_getElem? (i := 3) (by decide +kernel)) rfl
theorem xw333 : Cond.laysFinal RX4 "FrameSheets$Room" "taken" "[I" ∈ xwl := xin2 (List.mem_of_getElem? (i := 4) (by decide +kernel)) rfl
theorem xw335 : Cond.laysFinal RX4 "FrameSheets$Room" "free" "[I" ∈ xwl := xin2 (List.mem_of_getElem? (i := 6) (by decide +kernel)) rfl
theorem xw337 : Cond.lays RX4 "FrameSheets$Room" "wide" "I" ∈ xwl := xin2 (List.mem_of_getElem? (i := 8) (by decide +kernel)) rfl
theorem xw339 : Cond.lays RX4 "FrameSheets$Room" "high" "I" ∈ xwl := xin2 (List.mem_of_getElem? (i := 10) (by decide +kernel)) rfl
theorem xw341 : Cond.lays RX4 "FrameSheets$Room" "size" "I" ∈ xwl := xin2 (List.mem_of_getElem? (i := 12) (by decide +kernel)) rfl
theorem xw344 : Cond.fieldLink RX2 12 "FrameSheets$Packer" "room" "LFrameSheets$Room;" ∈ xwl := xin2 (List.mem_of_getElem? (i := 15) (by decide +kernel)) rfl
theorem xw345 : Cond.fieldLink RX10 232 "FrameSheets$Packer" "room" "LFrameSheets$Room;" ∈ xwl := xin2 (List.mem_of_getElem? (i := 16) (by decide +kernel)) rfl
theorem xw346 : Cond.fieldLink RX2 18 "FrameSheets$Packer" "queue" "[I" ∈ xwl := xin2 (List.mem_of_getElem? (i := 17) (by decide +kernel)) rfl
theorem xw347 : Cond.laysFinal RX2 "FrameSheets$Packer" "room" "LFrameSheets$Room;" ∈ xwl := xin2 (List.mem_of_getElem? (i := 18) (by decide +kernel)) rfl
theorem xw349 : Cond.laysFinal RX2 "FrameSheets$Packer" "queue" "[I" ∈ xwl := xin2 (List.mem_of_getElem? (i := 20) (by decide +kernel)) rfl
theorem xw352 : Cond.classLink RX10 57 RX1 ∈ xwl := xin2 (List.mem_of_getElem? (i := 23) (by decide +kernel)) rfl
theorem xw353 : Cond.methodLink RX10 59 yX1_init ∈ xwl := xin2 (List.mem_of_getElem? (i := 24) (by decide +kernel)) rfl
theorem xw354 : Cond.classLink RX10 68 RX7 ∈ xwl := xin2 (List.mem_of_getElem? (i := 25) (by decide +kernel)) rfl
theorem xw355 : Cond.methodLink RX10 70 yX7_init ∈ xwl := xin2 (List.mem_of_getElem? (i := 26) (by decide +kernel)) rfl
theorem xw356 : Cond.instantiable RX5 2 ∈ xwl := xin2 (List.mem_of_getElem? (i := 27) (by decide +kernel)) rfl
theorem xw358 : Cond.instanceMethod yX5_init ∈ xwl := xin2 (List.mem_of_getElem? (i := 29) (by decide +kernel)) rfl
theorem xw359 : Cond.code yX5_init cX5_init 1 none ∈ xwl := xin2 (List.mem_of_getElem? (i := 30) rfl) rfl
theorem xw360 : Cond.methodLink RX5 3 objectInit ∈ xwl := xin2 (List.mem_of_getElem? (i := 31) (by decide +kernel)) rfl
theorem xw361 : Cond.fieldLink RX5 9 "FrameSheets$Row" "places" "[I" ∈ xwl := xin2 (List.mem_of_getElem? (i := 32) (by decide +kernel)) rfl
theorem xw362 : Cond.fieldLink RX10 103 "FrameSheets$Row" "places" "[I" ∈ xwl := xin2 (List.mem_of_getElem? (i := 33) (by decide +kernel)) rfl
theorem xw363 : Cond.fieldLink RX5 15 "FrameSheets$Row" "size" "I" ∈ xwl := xin2 (List.mem_of_getElem? (i := 34) (by decide +kernel)) rfl
theorem xw364 : Cond.fieldLink RX10 100 "FrameSheets$Row" "size" "I" ∈ xwl := xin2 (List.mem_of_getElem? (i := 35) (by decide +kernel)) rfl
theorem xw365 : Cond.laysFinal RX5 "FrameSheets$Row" "places" "[I" ∈ xwl := xin2 (List.mem_of_getElem? (i := 36) (by decide +kernel)) rfl
theorem xw367 : Cond.lays RX5 "FrameSheets$Row" "size" "I" ∈ xwl := xin2 (List.mem_of_getElem? (i := 38) (by decide +kernel)) rfl
theorem xw370 : Cond.instantiable RX9 2 ∈ xwl := xin2 (List.mem_of_getElem? (i := 41) (by decide +kernel)) rfl
theorem xw372 : Cond.instanceMethod yX9_init ∈ xwl := xin2 (List.mem_of_getElem? (i := 43) (by decide +kernel)) rfl
theorem xw373 : Cond.code yX9_init cX9_init 1 none ∈ xwl := xin2 (List.mem_of_getElem? (i := 44) rfl) rfl
theorem xw374 : Cond.methodLink RX9 3 objectInit ∈ xwl := xin2 (List.mem_of_getElem? (i := 45) (by decide +kernel)) rfl
theorem xw375 : Cond.fieldLink RX9 9 "FrameSheets$Text" "bytes" "[B" ∈ xwl := xin2 (List.mem_of_getElem? (i := 46) (by decide +kernel)) rfl
theorem xw376 : Cond.fieldLink RX3 42 "FrameSheets$Text" "bytes" "[B" ∈ xwl := xin2 (List.mem_of_getElem? (i := 47) (by decide +kernel)) rfl
theorem xw377 : Cond.fieldLink RX10 125 "FrameSheets$Text" "bytes" "[B" ∈ xwl := xin2 (List.mem_of_getElem? (i := 48) (by decide +kernel)) rfl
theorem xw378 : Cond.fieldLink RX9 15 "FrameSheets$Text" "size" "I" ∈ xwl := xin2 (List.mem_of_getElem? (i := 49) (by decide +kernel)) rfl
theorem xw379 : Cond.fieldLink RX3 45 "FrameSheets$Text" "size" "I" ∈ xwl := xin2 (List.mem_of_getElem? (i := 50) (by decide +kernel)) rfl
theorem xw380 : Cond.fieldLink RX10 124 "FrameSheets$Text" "size" "I" ∈ xwl := xin2 (List.mem_of_getElem? (i := 51) (by decide +kernel)) rfl
theorem xw381 : Cond.laysFinal RX9 "FrameSheets$Text" "bytes" "[B" ∈ xwl := xin2 (List.mem_of_getElem? (i := 52) (by decide +kernel)) rfl
theorem xw383 : Cond.lays RX9 "FrameSheets$Text" "size" "I" ∈ xwl := xin2 (List.mem_of_getElem? (i := 54) (by decide +kernel)) rfl
theorem xw386 : Cond.fieldLink RX10 11 "FrameSheets" "rows" "[LFrameSheets$Row;" ∈ xwl := xin2 (List.mem_of_getElem? (i := 57) (by decide +kernel)) rfl
theorem xw387 : Cond.fieldLink RX10 17 "FrameSheets" "texts" "[LFrameSheets$Text;" ∈ xwl := xin2 (List.mem_of_getElem? (i := 58) (by decide +kernel)) rfl
theorem xw388 : Cond.fieldLink RX10 23 "FrameSheets" "kept" "[LFrameSheets$Story;" ∈ xwl := xin2 (List.mem_of_getElem? (i := 59) (by decide +kernel)) rfl
theorem xw389 : Cond.fieldLink RX10 27 "FrameSheets" "isKept" "[Z" ∈ xwl := xin2 (List.mem_of_getElem? (i := 60) (by decide +kernel)) rfl
theorem xw390 : Cond.fieldLink RX10 32 "FrameSheets" "story" "LFrameSheets$Story;" ∈ xwl := xin2 (List.mem_of_getElem? (i := 61) (by decide +kernel)) rfl
theorem xw391 : Cond.fieldLink RX10 39 "FrameSheets" "reader" "LFrameSheets$Reader;" ∈ xwl := xin2 (List.mem_of_getElem? (i := 62) (by decide +kernel)) rfl
theorem xw392 : Cond.fieldLink RX10 46 "FrameSheets" "scribe" "LFrameSheets$Scribe;" ∈ xwl := xin2 (List.mem_of_getElem? (i := 63) (by decide +kernel)) rfl
theorem xw393 : Cond.fieldLink RX10 53 "FrameSheets" "packer" "LFrameSheets$Packer;" ∈ xwl := xin2 (List.mem_of_getElem? (i := 64) (by decide +kernel)) rfl
theorem xw394 : Cond.fieldLink RX10 60 "FrameSheets" "aside" "LFrameSheets$Layout;" ∈ xwl := xin2 (List.mem_of_getElem? (i := 65) (by decide +kernel)) rfl
theorem xw395 : Cond.fieldLink RX10 64 "FrameSheets" "findingCounts" "[I" ∈ xwl := xin2 (List.mem_of_getElem? (i := 66) (by decide +kernel)) rfl
theorem xw396 : Cond.fieldLink RX10 71 "FrameSheets" "current" "LFrameSheets$Sheet;" ∈ xwl := xin2 (List.mem_of_getElem? (i := 67) (by decide +kernel)) rfl
theorem xw397 : Cond.fieldLink RX10 75 "FrameSheets" "told" "I" ∈ xwl := xin2 (List.mem_of_getElem? (i := 68) (by decide +kernel)) rfl
theorem xw398 : Cond.fieldLink RX10 79 "FrameSheets" "latestFinding" "I" ∈ xwl := xin2 (List.mem_of_getElem? (i := 69) (by decide +kernel)) rfl
theorem xw399 : Cond.laysFinal RX10 "FrameSheets" "rows" "[LFrameSheets$Row;" ∈ xwl := xin2 (List.mem_of_getElem? (i := 70) (by decide +kernel)) rfl
theorem xw401 : Cond.laysFinal RX10 "FrameSheets" "texts" "[LFrameSheets$Text;" ∈ xwl := xin2 (List.mem_of_getElem? (i := 72) (by decide +kernel)) rfl
theorem xw403 : Cond.laysFinal RX10 "FrameSheets" "kept" "[LFrameSheets$Story;" ∈ xwl := xin2 (List.mem_of_getElem? (i := 74) (by decide +kernel)) rfl
theorem xw405 : Cond.laysFinal RX10 "FrameSheets" "isKept" "[Z" ∈ xwl := xin2 (List.mem_of_getElem? (i := 76) (by decide +kernel)) rfl
theorem xw407 : Cond.laysFinal RX10 "FrameSheets" "story" "LFrameSheets$Story;" ∈ xwl := xin2 (List.mem_of_getElem? (i := 78) (by decide +kernel)) rfl
theorem xw409 : Cond.laysFinal RX10 "FrameSheets" "reader" "LFrameSheets$Reader;" ∈ xwl := xin2 (List.mem_of_getElem? (i := 80) (by decide +kernel)) rfl
theorem xw411 : Cond.laysFinal RX10 "FrameSheets" "scribe" "LFrameSheets$Scribe;" ∈ xwl := xin2 (List.mem_of_getElem? (i := 82) (by decide +kernel)) rfl
theorem xw413 : Cond.laysFinal RX10 "FrameSheets" "packer" "LFrameSheets$Packer;" ∈ xwl := xin2 (List.mem_of_getElem? (i := 84) (by decide +kernel)) rfl
theorem xw415 : Cond.laysFinal RX10 "FrameSheets" "aside" "LFrameSheets$Layout;" ∈ xwl := xin2 (List.mem_of_getElem? (i := 86) (by decide +kernel)) rfl
theorem xw417 : Cond.laysFinal RX10 "FrameSheets" "findingCounts" "[I" ∈ xwl := xin2 (List.mem_of_getElem? (i := 88) (by decide +kernel)) rfl
theorem xw419 : Cond.lays RX10 "FrameSheets" "current" "LFrameSheets$Sheet;" ∈ xwl := xin2 (List.mem_of_getElem? (i := 90) (by decide +kernel)) rfl
theorem xw421 : Cond.lays RX10 "FrameSheets" "told" "I" ∈ xwl := xin2 (List.mem_of_getElem? (i := 92) (by decide +kernel)) rfl
theorem xw423 : Cond.lays RX10 "FrameSheets" "latestFinding" "I" ∈ xwl := xin2 (List.mem_of_getElem? (i := 94) (by decide +kernel)) rfl
theorem xw426 : Cond.methodLink RL 13 yX10_row ∈ xwl := xin2 (List.mem_of_getElem? (i := 97) (by decide +kernel)) rfl
theorem xw427 : Cond.instanceMethod yX10_row ∈ xwl := xin2 (List.mem_of_getElem? (i := 98) (by decide +kernel)) rfl
theorem xw428 : Cond.selects RX10 yX10_row yX10_row ∈ xwl := xin2 (List.mem_of_getElem? (i := 99) (by decide +kernel)) rfl
theorem xw429 : Cond.code yX10_row cX10_row 3 (some .int) ∈ xwl := xin2 (List.mem_of_getElem? (i := 100) rfl) rfl
theorem xw430 : Cond.methodLink RX10 84 yX10_isBelow ∈ xwl := xin2 (List.mem_of_getElem? (i := 101) (by decide +kernel)) rfl
theorem xw431 : Cond.static yX10_isBelow ∈ xwl := xin2 (List.mem_of_getElem? (i := 102) (by decide +kernel)) rfl
theorem xw432 : Cond.code yX10_isBelow cX10_isBelow 2 (some .boolean) ∈ xwl := xin2 (List.mem_of_getElem? (i := 103) rfl) rfl
theorem xw433 : Cond.methodLink RX10 88 yX10_refuse ∈ xwl := xin2 (List.mem_of_getElem? (i := 104) (by decide +kernel)) rfl
theorem xw435 : Cond.instanceMethod yX10_refuse ∈ xwl := xin2 (List.mem_of_getElem? (i := 106) (by decide +kernel)) rfl
theorem xw436 : Cond.code yX10_refuse cX10_refuse 2 (some .int) ∈ xwl := xin2 (List.mem_of_getElem? (i := 107) rfl) rfl
theorem xw437 : Cond.methodLink RX10 92 yX5_renew ∈ xwl := xin2 (List.mem_of_getElem? (i := 108) (by decide +kernel)) rfl
theorem xw438 : Cond.instanceMethod yX5_renew ∈ xwl := xin2 (List.mem_of_getElem? (i := 109) (by decide +kernel)) rfl
theorem xw439 : Cond.selects RX5 yX5_renew yX5_renew ∈ xwl := xin2 (List.mem_of_getElem? (i := 110) (by decide +kernel)) rfl
theorem xw440 : Cond.code yX5_renew cX5_renew 3 none ∈ xwl := xin2 (List.mem_of_getElem? (i := 111) rfl) rfl
theorem xw441 : Cond.methodLink RX5 19 ⟨"java/lang/Math", "min", "(II)I"⟩ ∈ xwl := xin2 (List.mem_of_getElem? (i := 112) (by decide +kernel)) rfl
theorem xw442 : Cond.static ⟨"java/lang/Math", "min", "(II)I"⟩ ∈ xwl := xin2 (List.mem_of_getElem? (i := 113) (by decide +kernel)) rfl
theorem xw443 : Cond.code ⟨"java/lang/Math", "min", "(II)I"⟩ prog_14_method_69_code 2 (some .int) ∈ xwl := xin2 (List.mem_of_getElem? (i := 114) rfl) rfl
theorem xw444 : Cond.methodLink RX5 25 ⟨"java/lang/Math", "max", "(II)I"⟩ ∈ xwl := xin2 (List.mem_of_getElem? (i := 115) (by decide +kernel)) rfl
theorem xw445 : Cond.static ⟨"java/lang/Math", "max", "(II)I"⟩ ∈ xwl := xin2 (List.mem_of_getElem? (i := 116) (by decide +kernel)) rfl
theorem xw446 : Cond.code ⟨"java/lang/Math", "max", "(II)I"⟩ prog_14_method_65_code 2 (some .int) ∈ xwl := xin2 (List.mem_of_getElem? (i := 117) rfl) rfl
theorem xw447 : Cond.methodLink RL 18 yX10_lay ∈ xwl := xin2 (List.mem_of_getElem? (i := 118) (by decide +kernel)) rfl
theorem xw448 : Cond.instanceMethod yX10_lay ∈ xwl := xin2 (List.mem_of_getElem? (i := 119) (by decide +kernel)) rfl
theorem xw449 : Cond.selects RX10 yX10_lay yX10_lay ∈ xwl := xin2 (List.mem_of_getElem? (i := 120) (by decide +kernel)) rfl
theorem xw450 : Cond.code yX10_lay cX10_lay 6 (some .int) ∈ xwl := xin2 (List.mem_of_getElem? (i := 121) rfl) rfl
theorem xw451 : Cond.methodLink RX10 96 yX5_isMissing ∈ xwl := xin2 (List.mem_of_getElem? (i := 122) (by decide +kernel)) rfl
theorem xw452 : Cond.instanceMethod yX5_isMissing ∈ xwl := xin2 (List.mem_of_getElem? (i := 123) (by decide +kernel)) rfl
theorem xw453 : Cond.selects RX5 yX5_isMissing yX5_isMissing ∈ xwl := xin2 (List.mem_of_getElem? (i := 124) (by decide +kernel)) rfl
theorem xw454 : Cond.code yX5_isMissing cX5_isMissing 1 (some .boolean) ∈ xwl := xin2 (List.mem_of_getElem? (i := 125) rfl) rfl
theorem xw455 : Cond.methodLink RX10 106 yX10_tell ∈ xwl := xin2 (List.mem_of_getElem? (i := 126) (by decide +kernel)) rfl
theorem xw457 : Cond.instanceMethod yX10_tell ∈ xwl := xin2 (List.mem_of_getElem? (i := 128) (by decide +kernel)) rfl
theorem xw458 : Cond.code yX10_tell cX10_tell 2 (some .int) ∈ xwl := xin2 (List.mem_of_getElem? (i := 129) rfl) rfl
theorem xw459 : Cond.methodLink RL 23 yX10_at ∈ xwl := xin2 (List.mem_of_getElem? (i := 130) (by decide +kernel)) rfl
theorem xw460 : Cond.instanceMethod yX10_at ∈ xwl := xin2 (List.mem_of_getElem? (i := 131) (by decide +kernel)) rfl
theorem xw461 : Cond.selects RX10 yX10_at yX10_at ∈ xwl := xin2 (List.mem_of_getElem? (i := 132) (by decide +kernel)) rfl
theorem xw462 : Cond.code yX10_at cX10_at 4 (some .int) ∈ xwl := xin2 (List.mem_of_getElem? (i := 133) rfl) rfl
theorem xw463 : Cond.methodLink RL 27 yX10_tear ∈ xwl := xin2 (List.mem_of_getElem? (i := 134) (by decide +kernel)) rfl
theorem xw464 : Cond.instanceMethod yX10_tear ∈ xwl := xin2 (List.mem_of_getElem? (i := 135) (by decide +kernel)) rfl
theorem xw465 : Cond.selects RX10 yX10_tear yX10_tear ∈ xwl := xin2 (List.mem_of_getElem? (i := 136) (by decide +kernel)) rfl
theorem xw466 : Cond.code yX10_tear cX10_tear 2 (some .int) ∈ xwl := xin2 (List.mem_of_getElem? (i := 137) rfl) rfl
theorem xw467 : Cond.methodLink RL 32 yX10_copy ∈ xwl := xin2 (List.mem_of_getElem? (i := 138) (by decide +kernel)) rfl
theorem xw468 : Cond.instanceMethod yX10_copy ∈ xwl := xin2 (List.mem_of_getElem? (i := 139) (by decide +kernel)) rfl
theorem xw469 : Cond.selects RX10 yX10_copy yX10_copy ∈ xwl := xin2 (List.mem_of_getElem? (i := 140) (by decide +kernel)) rfl
theorem xw470 : Cond.code yX10_copy cX10_copy 8 (some .int) ∈ xwl := xin2 (List.mem_of_getElem? (i := 141) rfl) rfl
theorem xw471 : Cond.methodLink RX10 109 yX5_holds ∈ xwl := xin2 (List.mem_of_getElem? (i := 142) (by decide +kernel)) rfl
theorem xw472 : Cond.instanceMethod yX5_holds ∈ xwl := xin2 (List.mem_of_getElem? (i := 143) (by decide +kernel)) rfl
theorem xw473 : Cond.selects RX5 yX5_holds yX5_holds ∈ xwl := xin2 (List.mem_of_getElem? (i := 144) (by decide +kernel)) rfl
theorem xw474 : Cond.code yX5_holds cX5_holds 3 (some .boolean) ∈ xwl := xin2 (List.mem_of_getElem? (i := 145) rfl) rfl
theorem xw475 : Cond.methodLink RX10 112 ⟨"java/lang/System", "arraycopy", "(Ljava/lang/Object;ILjava/lang/Object;II)V"⟩ ∈ xwl := xin2 (List.mem_of_getElem? (i := 146) (by decide +kernel)) rfl
theorem xw476 : Cond.static ⟨"java/lang/System", "arraycopy", "(Ljava/lang/Object;ILjava/lang/Object;II)V"⟩ ∈ xwl := xin2 (List.mem_of_getElem? (i := 147) (by decide +kernel)) rfl
theorem xw477 : Cond.native arraycopyName ∈ xwl := xin2 (List.mem_of_getElem? (i := 148) (by decide +kernel)) rfl
theorem xw478 : Cond.methodLink RL 37 yX10_mean ∈ xwl := xin2 (List.mem_of_getElem? (i := 149) (by decide +kernel)) rfl
theorem xw479 : Cond.instanceMethod yX10_mean ∈ xwl := xin2 (List.mem_of_getElem? (i := 150) (by decide +kernel)) rfl
theorem xw480 : Cond.selects RX10 yX10_mean yX10_mean ∈ xwl := xin2 (List.mem_of_getElem? (i := 151) (by decide +kernel)) rfl
theorem xw481 : Cond.code yX10_mean cX10_mean 3 (some .int) ∈ xwl := xin2 (List.mem_of_getElem? (i := 152) rfl) rfl
theorem xw482 : Cond.methodLink RX10 118 yX5_sum ∈ xwl := xin2 (List.mem_of_getElem? (i := 153) (by decide +kernel)) rfl
theorem xw483 : Cond.instanceMethod yX5_sum ∈ xwl := xin2 (List.mem_of_getElem? (i := 154) (by decide +kernel)) rfl
theorem xw484 : Cond.selects RX5 yX5_sum yX5_sum ∈ xwl := xin2 (List.mem_of_getElem? (i := 155) (by decide +kernel)) rfl
theorem xw485 : Cond.code yX5_sum cX5_sum 4 (some .long) ∈ xwl := xin2 (List.mem_of_getElem? (i := 156) rfl) rfl
theorem xw486 : Cond.methodLink RL 41 yX10_text ∈ xwl := xin2 (List.mem_of_getElem? (i := 157) (by decide +kernel)) rfl
theorem xw487 : Cond.instanceMethod yX10_text ∈ xwl := xin2 (List.mem_of_getElem? (i := 158) (by decide +kernel)) rfl
theorem xw488 : Cond.selects RX10 yX10_text yX10_text ∈ xwl := xin2 (List.mem_of_getElem? (i := 159) (by decide +kernel)) rfl
theorem xw489 : Cond.code yX10_text cX10_text 3 (some .int) ∈ xwl := xin2 (List.mem_of_getElem? (i := 160) rfl) rfl
theorem xw490 : Cond.methodLink RX10 122 yX9_renew ∈ xwl := xin2 (List.mem_of_getElem? (i := 161) (by decide +kernel)) rfl
theorem xw491 : Cond.instanceMethod yX9_renew ∈ xwl := xin2 (List.mem_of_getElem? (i := 162) (by decide +kernel)) rfl
theorem xw492 : Cond.selects RX9 yX9_renew yX9_renew ∈ xwl := xin2 (List.mem_of_getElem? (i := 163) (by decide +kernel)) rfl
theorem xw493 : Cond.code yX9_renew cX9_renew 3 none ∈ xwl := xin2 (List.mem_of_getElem? (i := 164) rfl) rfl
theorem xw494 : Cond.methodLink RX9 19 ⟨"java/lang/Math", "min", "(II)I"⟩ ∈ xwl := xin2 (List.mem_of_getElem? (i := 165) (by decide +kernel)) rfl
theorem xw495 : Cond.methodLink RX9 25 ⟨"java/lang/Math", "max", "(II)I"⟩ ∈ xwl := xin2 (List.mem_of_getElem? (i := 166) (by decide +kernel)) rfl
theorem xw496 : Cond.methodLink RL 45 yX10_put ∈ xwl := xin2 (List.mem_of_getElem? (i := 167) (by decide +kernel)) rfl
theorem xw497 : Cond.instanceMethod yX10_put ∈ xwl := xin2 (List.mem_of_getElem? (i := 168) (by decide +kernel)) rfl
theorem xw498 : Cond.selects RX10 yX10_put yX10_put ∈ xwl := xin2 (List.mem_of_getElem? (i := 169) (by decide +kernel)) rfl
theorem xw499 : Cond.code yX10_put cX10_put 6 (some .int) ∈ xwl := xin2 (List.mem_of_getElem? (i := 170) rfl) rfl
theorem xw500 : Cond.methodLink RX10 123 yX9_isMissing ∈ xwl := xin2 (List.mem_of_getElem? (i := 171) (by decide +kernel)) rfl
theorem xw501 : Cond.instanceMethod yX9_isMissing ∈ xwl := xin2 (List.mem_of_getElem? (i := 172) (by decide +kernel)) rfl
theorem xw502 : Cond.selects RX9 yX9_isMissing yX9_isMissing ∈ xwl := xin2 (List.mem_of_getElem? (i := 173) (by decide +kernel)) rfl
theorem xw503 : Cond.code yX9_isMissing cX9_isMissing 1 (some .boolean) ∈ xwl := xin2 (List.mem_of_getElem? (i := 174) rfl) rfl
theorem xw504 : Cond.methodLink RL 49 yX10_fault ∈ xwl := xin2 (List.mem_of_getElem? (i := 175) (by decide +kernel)) rfl
theorem xw505 : Cond.instanceMethod yX10_fault ∈ xwl := xin2 (List.mem_of_getElem? (i := 176) (by decide +kernel)) rfl
theorem xw506 : Cond.selects RX10 yX10_fault yX10_fault ∈ xwl := xin2 (List.mem_of_getElem? (i := 177) (by decide +kernel)) rfl
theorem xw507 : Cond.code yX10_fault cX10_fault 2 (some .int) ∈ xwl := xin2 (List.mem_of_getElem? (i := 178) rfl) rfl
theorem xw508 : Cond.methodLink RX10 129 yX3_faultOf ∈ xwl := xin2 (List.mem_of_getElem? (i := 179) (by decide +kernel)) rfl
theorem xw509 : Cond.instanceMethod yX3_faultOf ∈ xwl := xin2 (List.mem_of_getElem? (i := 180) (by decide +kernel)) rfl
theorem xw510 : Cond.selects RX3 yX3_faultOf yX3_faultOf ∈ xwl := xin2 (List.mem_of_getElem? (i := 181) (by decide +kernel)) rfl
theorem xw511 : Cond.code yX3_faultOf cX3_faultOf 3 (some .int) ∈ xwl := xin2 (List.mem_of_getElem? (i := 182) rfl) rfl
theorem xw512 : Cond.methodLink RX3 46 ⟨"java/lang/Math", "min", "(II)I"⟩ ∈ xwl := xin2 (List.mem_of_getElem? (i := 183) (by decide +kernel)) rfl
theorem xw513 : Cond.methodLink RX3 56 yX3_advance ∈ xwl := xin2 (List.mem_of_getElem? (i := 184) (by decide +kernel)) rfl
theorem xw515 : Cond.instanceMethod yX3_advance ∈ xwl := xin2 (List.mem_of_getElem? (i := 186) (by decide +kernel)) rfl
theorem xw516 : Cond.code yX3_advance cX3_advance 2 none ∈ xwl := xin2 (List.mem_of_getElem? (i := 187) rfl) rfl
theorem xw517 : Cond.methodLink RX3 142 yX3_isLetter ∈ xwl := xin2 (List.mem_of_getElem? (i := 188) (by decide +kernel)) rfl
theorem xw518 : Cond.static yX3_isLetter ∈ xwl := xin2 (List.mem_of_getElem? (i := 189) (by decide +kernel)) rfl
theorem xw519 : Cond.code yX3_isLetter cX3_isLetter 1 (some .boolean) ∈ xwl := xin2 (List.mem_of_getElem? (i := 190) rfl) rfl
theorem xw520 : Cond.methodLink RX3 146 yX3_isFigure ∈ xwl := xin2 (List.mem_of_getElem? (i := 191) (by decide +kernel)) rfl
theorem xw521 : Cond.static yX3_isFigure ∈ xwl := xin2 (List.mem_of_getElem? (i := 192) (by decide +kernel)) rfl
theorem xw522 : Cond.code yX3_isFigure cX3_isFigure 1 (some .boolean) ∈ xwl := xin2 (List.mem_of_getElem? (i := 193) rfl) rfl
theorem xw523 : Cond.methodLink RX3 59 yX3_readPage ∈ xwl := xin2 (List.mem_of_getElem? (i := 194) (by decide +kernel)) rfl
theorem xw525 : Cond.instanceMethod yX3_readPage ∈ xwl := xin2 (List.mem_of_getElem? (i := 196) (by decide +kernel)) rfl
theorem xw526 : Cond.code yX3_readPage cX3_readPage 1 (some .boolean) ∈ xwl := xin2 (List.mem_of_getElem? (i := 197) rfl) rfl
theorem xw528 : Cond.methodLink RX3 71 yX3_isAtWord ∈ xwl := xin2 (List.mem_of_getElem? (i := 199) (by decide +kernel)) rfl
theorem xw530 : Cond.instanceMethod yX3_isAtWord ∈ xwl := xin2 (List.mem_of_getElem? (i := 201) (by decide +kernel)) rfl
theorem xw531 : Cond.code yX3_isAtWord cX3_isAtWord 3 (some .boolean) ∈ xwl := xin2 (List.mem_of_getElem? (i := 202) rfl) rfl
theorem xw532 : Cond.methodLink RX3 133 ⟨"java/lang/String", "length", "()I"⟩ ∈ xwl := xin2 (List.mem_of_getElem? (i := 203) (by decide +kernel)) rfl
theorem xw533 : Cond.instanceMethod ⟨"java/lang/String", "length", "()I"⟩ ∈ xwl := xin2 (List.mem_of_getElem? (i := 204) (by decide +kernel)) rfl
theorem xw534 : Cond.selects "java/lang/String" ⟨"java/lang/String", "length", "()I"⟩ ⟨"java/lang/String", "length", "()I"⟩ ∈ xwl := xin2 (List.mem_of_getElem? (i := 205) (by decide +kernel)) rfl
theorem xw535 : Cond.code ⟨"java/lang/String", "length", "()I"⟩ prog_15_method_54_code 1 (some .int) ∈ xwl := xin2 (List.mem_of_getElem? (i := 206) rfl) rfl
theorem xw536 : Cond.methodLink "java/lang/String" 335 ⟨"java/lang/String", "coder", "()B"⟩ ∈ xwl := xin2 (List.mem_of_getElem? (i := 207) (by decide +kernel)) rfl
theorem xw537 : Cond.instanceMethod ⟨"java/lang/String", "coder", "()B"⟩ ∈ xwl := xin2 (List.mem_of_getElem? (i := 208) (by decide +kernel)) rfl
theorem xw538 : Cond.selects "java/lang/String" ⟨"java/lang/String", "coder", "()B"⟩ ⟨"java/lang/String", "coder", "()B"⟩ ∈ xwl := xin2 (List.mem_of_getElem? (i := 209) (by decide +kernel)) rfl
theorem xw539 : Cond.code ⟨"java/lang/String", "coder", "()B"⟩ prog_15_method_152_code 1 (some .byte) ∈ xwl := xin2 (List.mem_of_getElem? (i := 210) rfl) rfl
theorem xw540 : Cond.fieldLink "java/lang/String" 38 "java/lang/String" "COMPACT_STRINGS" "Z" ∈ xwl := xin2 (List.mem_of_getElem? (i := 211) (by decide +kernel)) rfl
theorem xw542 : Cond.methodLink RX3 138 ⟨"java/lang/String", "charAt", "(I)C"⟩ ∈ xwl := xin2 (List.mem_of_getElem? (i := 213) (by decide +kernel)) rfl
theorem xw543 : Cond.instanceMethod ⟨"java/lang/String", "charAt", "(I)C"⟩ ∈ xwl := xin2 (List.mem_of_getElem? (i := 214) (by decide +kernel)) rfl
theorem xw544 : Cond.selects "java/lang/String" ⟨"java/lang/String", "charAt", "(I)C"⟩ ⟨"java/lang/String", "charAt", "(I)C"⟩ ∈ xwl := xin2 (List.mem_of_getElem? (i := 215) (by decide +kernel)) rfl
theorem xw545 : Cond.code ⟨"java/lang/String", "charAt", "(I)C"⟩ prog_15_method_56_code 2 (some .char) ∈ xwl := xin2 (List.mem_of_getElem? (i := 216) rfl) rfl
theorem xw546 : Cond.methodLink "java/lang/String" 492 ⟨"java/lang/String", "isLatin1", "()Z"⟩ ∈ xwl := xin2 (List.mem_of_getElem? (i := 217) (by decide +kernel)) rfl
theorem xw547 : Cond.instanceMethod ⟨"java/lang/String", "isLatin1", "()Z"⟩ ∈ xwl := xin2 (List.mem_of_getElem? (i := 218) (by decide +kernel)) rfl
theorem xw548 : Cond.selects "java/lang/String" ⟨"java/lang/String", "isLatin1", "()Z"⟩ ⟨"java/lang/String", "isLatin1", "()Z"⟩ ∈ xwl := xin2 (List.mem_of_getElem? (i := 219) (by decide +kernel)) rfl
theorem xw549 : Cond.code ⟨"java/lang/String", "isLatin1", "()Z"⟩ prog_15_method_154_code 1 (some .boolean) ∈ xwl := xin2 (List.mem_of_getElem? (i := 220) rfl) rfl
theorem xw550 : Cond.methodLink "java/lang/String" 495 ⟨"java/lang/StringLatin1", "charAt", "([BI)C"⟩ ∈ xwl := xin2 (List.mem_of_getElem? (i := 221) (by decide +kernel)) rfl
theorem xw551 : Cond.static ⟨"java/lang/StringLatin1", "charAt", "([BI)C"⟩ ∈ xwl := xin2 (List.mem_of_getElem? (i := 222) (by decide +kernel)) rfl
theorem xw552 : Cond.code ⟨"java/lang/StringLatin1", "charAt", "([BI)C"⟩ prog_16_method_2_code 2 (some .char) ∈ xwl := xin2 (List.mem_of_getElem? (i := 223) rfl) rfl
theorem xw553 : Cond.methodLink "java/lang/StringLatin1" 9 ⟨"java/lang/String", "checkIndex", "(II)V"⟩ ∈ xwl := xin2 (List.mem_of_getElem? (i := 224) (by decide +kernel)) rfl
theorem xw554 : Cond.static ⟨"java/lang/String", "checkIndex", "(II)V"⟩ ∈ xwl := xin2 (List.mem_of_getElem? (i := 225) (by decide +kernel)) rfl
theorem xw555 : Cond.code ⟨"java/lang/String", "checkIndex", "(II)V"⟩ prog_15_method_155_code 2 none ∈ xwl := xin2 (List.mem_of_getElem? (i := 226) rfl) rfl
theorem xw556 : Cond.fieldLink "java/lang/String" 1053 "jdk/internal/util/Preconditions" "SIOOBE_FORMATTER" "Ljava/util/function/BiFunction;" ∈ xwl := xin2 (List.mem_of_getElem? (i := 227) (by decide +kernel)) rfl
theorem xw558 : Cond.methodLink "java/lang/String" 1059 ⟨"jdk/internal/util/Preconditions", "checkIndex", "(IILjava/util/function/BiFunction;)I"⟩ ∈ xwl := xin2 (List.mem_of_getElem? (i := 229) (by decide +kernel)) rfl
theorem xw559 : Cond.static ⟨"jdk/internal/util/Preconditions", "checkIndex", "(IILjava/util/function/BiFunction;)I"⟩ ∈ xwl := xin2 (List.mem_of_getElem? (i := 230) (by decide +kernel)) rfl
theorem xw560 : Cond.code ⟨"jdk/internal/util/Preconditions", "checkIndex", "(IILjava/util/function/BiFunction;)I"⟩ prog_19_method_11_code 3 (some .int) ∈ xwl := xin2 (List.mem_of_getElem? (i := 231) rfl) rfl
theorem xw561 : Cond.methodLink "java/lang/String" 498 ⟨"java/lang/StringUTF16", "charAt", "([BI)C"⟩ ∈ xwl := xin2 (List.mem_of_getElem? (i := 232) (by decide +kernel)) rfl
theorem xw562 : Cond.static ⟨"java/lang/StringUTF16", "charAt", "([BI)C"⟩ ∈ xwl := xin2 (List.mem_of_getElem? (i := 233) (by decide +kernel)) rfl
theorem xw563 : Cond.code ⟨"java/lang/StringUTF16", "charAt", "([BI)C"⟩ prog_17_method_83_code 2 (some .char) ∈ xwl := xin2 (List.mem_of_getElem? (i := 234) rfl) rfl
theorem xw564 : Cond.methodLink "java/lang/StringUTF16" 67 ⟨"java/lang/StringUTF16", "checkIndex", "(I[B)V"⟩ ∈ xwl := xin2 (List.mem_of_getElem? (i := 235) (by decide +kernel)) rfl
theorem xw565 : Cond.static ⟨"java/lang/StringUTF16", "checkIndex", "(I[B)V"⟩ ∈ xwl := xin2 (List.mem_of_getElem? (i := 236) (by decide +kernel)) rfl
theorem xw566 : Cond.code ⟨"java/lang/StringUTF16", "checkIndex", "(I[B)V"⟩ prog_17_method_91_code 2 none ∈ xwl := xin2 (List.mem_of_getElem? (i := 237) rfl) rfl
theorem xw567 : Cond.methodLink "java/lang/StringUTF16" 48 ⟨"java/lang/StringUTF16", "length", "([B)I"⟩ ∈ xwl := xin2 (List.mem_of_getElem? (i := 238) (by decide +kernel)) rfl
theorem xw568 : Cond.static ⟨"java/lang/StringUTF16", "length", "([B)I"⟩ ∈ xwl := xin2 (List.mem_of_getElem? (i := 239) (by decide +kernel)) rfl
theorem xw569 : Cond.code ⟨"java/lang/StringUTF16", "length", "([B)I"⟩ prog_17_method_6_code 1 (some .int) ∈ xwl := xin3 (List.mem_of_getElem? (i := 0) rfl) rfl
theorem xw570 : Cond.methodLink "java/lang/StringUTF16" 414 ⟨"java/lang/String", "checkIndex", "(II)V"⟩ ∈ xwl := xin3 (List.mem_of_getElem? (i := 1) (by decide +kernel)) rfl
theorem xw571 : Cond.methodLink "java/lang/StringUTF16" 71 ⟨"java/lang/StringUTF16", "getChar", "([BI)C"⟩ ∈ xwl := xin3 (List.mem_of_getElem? (i := 2) (by decide +kernel)) rfl
theorem xw572 : Cond.static ⟨"java/lang/StringUTF16", "getChar", "([BI)C"⟩ ∈ xwl := xin3 (List.mem_of_getElem? (i := 3) (by decide +kernel)) rfl
theorem xw573 : Cond.code ⟨"java/lang/StringUTF16", "getChar", "([BI)C"⟩ prog_17_method_5_code 2 (some .char) ∈ xwl := xin3 (List.mem_of_getElem? (i := 4) rfl) rfl
theorem xw574 : Cond.fieldLink "java/lang/StringUTF16" 44 "java/lang/StringUTF16" "$assertionsDisabled" "Z" ∈ xwl := xin3 (List.mem_of_getElem? (i := 5) (by decide +kernel)) rfl
theorem xw576 : Cond.fieldLink "java/lang/StringUTF16" 59 "java/lang/StringUTF16" "HI_BYTE_SHIFT" "I" ∈ xwl := xin3 (List.mem_of_getElem? (i := 7) (by decide +kernel)) rfl
theorem xw578 : Cond.fieldLink "java/lang/StringUTF16" 63 "java/lang/StringUTF16" "LO_BYTE_SHIFT" "I" ∈ xwl := xin3 (List.mem_of_getElem? (i := 9) (by decide +kernel)) rfl
theorem xw580 : Cond.methodLink RX3 75 yX3_takeNumber ∈ xwl := xin3 (List.mem_of_getElem? (i := 11) (by decide +kernel)) rfl
theorem xw582 : Cond.instanceMethod yX3_takeNumber ∈ xwl := xin3 (List.mem_of_getElem? (i := 13) (by decide +kernel)) rfl
theorem xw583 : Cond.code yX3_takeNumber cX3_takeNumber 4 (some .int) ∈ xwl := xin3 (List.mem_of_getElem? (i := 14) rfl) rfl
theorem xw584 : Cond.methodLink RX3 84 yX3_takeStop ∈ xwl := xin3 (List.mem_of_getElem? (i := 15) (by decide +kernel)) rfl
theorem xw586 : Cond.instanceMethod yX3_takeStop ∈ xwl := xin3 (List.mem_of_getElem? (i := 17) (by decide +kernel)) rfl
theorem xw587 : Cond.code yX3_takeStop cX3_takeStop 1 (some .boolean) ∈ xwl := xin3 (List.mem_of_getElem? (i := 18) rfl) rfl
theorem xw588 : Cond.methodLink RX3 63 yX3_readStatement ∈ xwl := xin3 (List.mem_of_getElem? (i := 19) (by decide +kernel)) rfl
theorem xw590 : Cond.instanceMethod yX3_readStatement ∈ xwl := xin3 (List.mem_of_getElem? (i := 21) (by decide +kernel)) rfl
theorem xw591 : Cond.code yX3_readStatement cX3_readStatement 3 (some .boolean) ∈ xwl := xin3 (List.mem_of_getElem? (i := 22) rfl) rfl
theorem xw593 : Cond.methodLink RX3 88 yX3_readBleed ∈ xwl := xin3 (List.mem_of_getElem? (i := 24) (by decide +kernel)) rfl
theorem xw595 : Cond.instanceMethod yX3_readBleed ∈ xwl := xin3 (List.mem_of_getElem? (i := 26) (by decide +kernel)) rfl
theorem xw596 : Cond.code yX3_readBleed cX3_readBleed 1 (some .boolean) ∈ xwl := xin3 (List.mem_of_getElem? (i := 27) rfl) rfl
theorem xw597 : Cond.methodLink RX3 91 yX3_kindAtHand ∈ xwl := xin3 (List.mem_of_getElem? (i := 28) (by decide +kernel)) rfl
theorem xw599 : Cond.instanceMethod yX3_kindAtHand ∈ xwl := xin3 (List.mem_of_getElem? (i := 30) (by decide +kernel)) rfl
theorem xw600 : Cond.code yX3_kindAtHand cX3_kindAtHand 2 (some .int) ∈ xwl := xin3 (List.mem_of_getElem? (i := 31) rfl) rfl
theorem xw602 : Cond.static yX10_wordOf ∈ xwl := xin3 (List.mem_of_getElem? (i := 33) (by decide +kernel)) rfl
theorem xw603 : Cond.code yX10_wordOf cX10_wordOf 1 (some (.object "java/lang/String")) ∈ xwl := xin3 (List.mem_of_getElem? (i := 34) rfl) rfl
theorem xw608 : Cond.methodLink RX3 104 yX3_readSides ∈ xwl := xin3 (List.mem_of_getElem? (i := 39) (by decide +kernel)) rfl
theorem xw610 : Cond.instanceMethod yX3_readSides ∈ xwl := xin3 (List.mem_of_getElem? (i := 41) (by decide +kernel)) rfl
theorem xw611 : Cond.code yX3_readSides cX3_readSides 2 (some .boolean) ∈ xwl := xin3 (List.mem_of_getElem? (i := 42) rfl) rfl
theorem xw612 : Cond.methodLink RX3 108 yX3_readEmpty ∈ xwl := xin3 (List.mem_of_getElem? (i := 43) (by decide +kernel)) rfl
theorem xw614 : Cond.instanceMethod yX3_readEmpty ∈ xwl := xin3 (List.mem_of_getElem? (i := 45) (by decide +kernel)) rfl
theorem xw615 : Cond.code yX3_readEmpty cX3_readEmpty 2 (some .boolean) ∈ xwl := xin3 (List.mem_of_getElem? (i := 46) rfl) rfl
theorem xw616 : Cond.methodLink RX3 66 yX7_settleFrames ∈ xwl := xin3 (List.mem_of_getElem? (i := 47) (by decide +kernel)) rfl
theorem xw617 : Cond.instanceMethod yX7_settleFrames ∈ xwl := xin3 (List.mem_of_getElem? (i := 48) (by decide +kernel)) rfl
theorem xw618 : Cond.selects RX7 yX7_settleFrames yX7_settleFrames ∈ xwl := xin3 (List.mem_of_getElem? (i := 49) (by decide +kernel)) rfl
theorem xw619 : Cond.code yX7_settleFrames cX7_settleFrames 2 none ∈ xwl := xin3 (List.mem_of_getElem? (i := 50) rfl) rfl
theorem xw620 : Cond.methodLink RX7 31 yX0_settle ∈ xwl := xin3 (List.mem_of_getElem? (i := 51) (by decide +kernel)) rfl
theorem xw621 : Cond.instanceMethod yX0_settle ∈ xwl := xin3 (List.mem_of_getElem? (i := 52) (by decide +kernel)) rfl
theorem xw622 : Cond.selects RX0 yX0_settle yX0_settle ∈ xwl := xin3 (List.mem_of_getElem? (i := 53) (by decide +kernel)) rfl
theorem xw623 : Cond.code yX0_settle cX0_settle 3 none ∈ xwl := xin3 (List.mem_of_getElem? (i := 54) rfl) rfl
theorem xw624 : Cond.methodLink RL 53 yX10_sheet ∈ xwl := xin3 (List.mem_of_getElem? (i := 55) (by decide +kernel)) rfl
theorem xw625 : Cond.instanceMethod yX10_sheet ∈ xwl := xin3 (List.mem_of_getElem? (i := 56) (by decide +kernel)) rfl
theorem xw626 : Cond.selects RX10 yX10_sheet yX10_sheet ∈ xwl := xin3 (List.mem_of_getElem? (i := 57) (by decide +kernel)) rfl
theorem xw627 : Cond.code yX10_sheet cX10_sheet 3 (some .int) ∈ xwl := xin3 (List.mem_of_getElem? (i := 58) rfl) rfl
theorem xw628 : Cond.methodLink RX10 133 yX3_exchangeDraft ∈ xwl := xin3 (List.mem_of_getElem? (i := 59) (by decide +kernel)) rfl
theorem xw629 : Cond.instanceMethod yX3_exchangeDraft ∈ xwl := xin3 (List.mem_of_getElem? (i := 60) (by decide +kernel)) rfl
theorem xw630 : Cond.selects RX3 yX3_exchangeDraft yX3_exchangeDraft ∈ xwl := xin3 (List.mem_of_getElem? (i := 61) (by decide +kernel)) rfl
theorem xw631 : Cond.code yX3_exchangeDraft cX3_exchangeDraft 3 (some (.object "FrameSheets$Sheet")) ∈ xwl := xin3 (List.mem_of_getElem? (i := 62) rfl) rfl
theorem xw632 : Cond.methodLink RX10 137 yX8_start ∈ xwl := xin3 (List.mem_of_getElem? (i := 63) (by decide +kernel)) rfl
theorem xw633 : Cond.instanceMethod yX8_start ∈ xwl := xin3 (List.mem_of_getElem? (i := 64) (by decide +kernel)) rfl
theorem xw634 : Cond.selects RX8 yX8_start yX8_start ∈ xwl := xin3 (List.mem_of_getElem? (i := 65) (by decide +kernel)) rfl
theorem xw635 : Cond.code yX8_start cX8_start 1 none ∈ xwl := xin3 (List.mem_of_getElem? (i := 66) rfl) rfl
theorem xw636 : Cond.methodLink RX8 26 yX1_liftAll ∈ xwl := xin3 (List.mem_of_getElem? (i := 67) (by decide +kernel)) rfl
theorem xw637 : Cond.instanceMethod yX1_liftAll ∈ xwl := xin3 (List.mem_of_getElem? (i := 68) (by decide +kernel)) rfl
theorem xw638 : Cond.selects RX1 yX1_liftAll yX1_liftAll ∈ xwl := xin3 (List.mem_of_getElem? (i := 69) (by decide +kernel)) rfl
theorem xw639 : Cond.code yX1_liftAll cX1_liftAll 2 none ∈ xwl := xin3 (List.mem_of_getElem? (i := 70) rfl) rfl
theorem xw640 : Cond.methodLink RL 57 yX10_write ∈ xwl := xin3 (List.mem_of_getElem? (i := 71) (by decide +kernel)) rfl
theorem xw641 : Cond.instanceMethod yX10_write ∈ xwl := xin3 (List.mem_of_getElem? (i := 72) (by decide +kernel)) rfl
theorem xw642 : Cond.selects RX10 yX10_write yX10_write ∈ xwl := xin3 (List.mem_of_getElem? (i := 73) (by decide +kernel)) rfl
theorem xw643 : Cond.code yX10_write cX10_write 2 (some .int) ∈ xwl := xin3 (List.mem_of_getElem? (i := 74) rfl) rfl
theorem xw644 : Cond.methodLink RX10 141 yX10_hasNoSheet ∈ xwl := xin3 (List.mem_of_getElem? (i := 75) (by decide +kernel)) rfl
theorem xw646 : Cond.instanceMethod yX10_hasNoSheet ∈ xwl := xin3 (List.mem_of_getElem? (i := 77) (by decide +kernel)) rfl
theorem xw647 : Cond.code yX10_hasNoSheet cX10_hasNoSheet 1 (some .boolean) ∈ xwl := xin3 (List.mem_of_getElem? (i := 78) rfl) rfl
theorem xw648 : Cond.methodLink RX10 144 yX6_writeSheet ∈ xwl := xin3 (List.mem_of_getElem? (i := 79) (by decide +kernel)) rfl
theorem xw649 : Cond.instanceMethod yX6_writeSheet ∈ xwl := xin3 (List.mem_of_getElem? (i := 80) (by decide +kernel)) rfl
theorem xw650 : Cond.selects RX6 yX6_writeSheet yX6_writeSheet ∈ xwl := xin3 (List.mem_of_getElem? (i := 81) (by decide +kernel)) rfl
theorem xw651 : Cond.code yX6_writeSheet cX6_writeSheet 3 none ∈ xwl := xin3 (List.mem_of_getElem? (i := 82) rfl) rfl
theorem xw653 : Cond.methodLink RX6 21 yX6_addWord ∈ xwl := xin3 (List.mem_of_getElem? (i := 84) (by decide +kernel)) rfl
theorem xw655 : Cond.instanceMethod yX6_addWord ∈ xwl := xin3 (List.mem_of_getElem? (i := 86) (by decide +kernel)) rfl
theorem xw656 : Cond.code yX6_addWord cX6_addWord 3 none ∈ xwl := xin3 (List.mem_of_getElem? (i := 87) rfl) rfl
theorem xw657 : Cond.methodLink RX6 80 ⟨"java/lang/String", "length", "()I"⟩ ∈ xwl := xin3 (List.mem_of_getElem? (i := 88) (by decide +kernel)) rfl
theorem xw658 : Cond.methodLink RX6 86 ⟨"java/lang/String", "charAt", "(I)C"⟩ ∈ xwl := xin3 (List.mem_of_getElem? (i := 89) (by decide +kernel)) rfl
theorem xw659 : Cond.methodLink RX6 37 yX6_addSign ∈ xwl := xin3 (List.mem_of_getElem? (i := 90) (by decide +kernel)) rfl
theorem xw661 : Cond.instanceMethod yX6_addSign ∈ xwl := xin3 (List.mem_of_getElem? (i := 92) (by decide +kernel)) rfl
theorem xw662 : Cond.code yX6_addSign cX6_addSign 2 none ∈ xwl := xin3 (List.mem_of_getElem? (i := 93) rfl) rfl
theorem xw663 : Cond.methodLink RX6 30 yX6_addNumber ∈ xwl := xin3 (List.mem_of_getElem? (i := 94) (by decide +kernel)) rfl
theorem xw665 : Cond.instanceMethod yX6_addNumber ∈ xwl := xin3 (List.mem_of_getElem? (i := 96) (by decide +kernel)) rfl
theorem xw666 : Cond.code yX6_addNumber cX6_addNumber 2 none ∈ xwl := xin3 (List.mem_of_getElem? (i := 97) rfl) rfl
theorem xw668 : Cond.methodLink RX6 49 yX6_writeFrame ∈ xwl := xin3 (List.mem_of_getElem? (i := 99) (by decide +kernel)) rfl
theorem xw670 : Cond.instanceMethod yX6_writeFrame ∈ xwl := xin3 (List.mem_of_getElem? (i := 101) (by decide +kernel)) rfl
theorem xw671 : Cond.code yX6_writeFrame cX6_writeFrame 2 none ∈ xwl := xin3 (List.mem_of_getElem? (i := 102) rfl) rfl
theorem xw673 : Cond.methodLink RX10 150 yX9_takeOver ∈ xwl := xin3 (List.mem_of_getElem? (i := 104) (by decide +kernel)) rfl
theorem xw674 : Cond.instanceMethod yX9_takeOver ∈ xwl := xin3 (List.mem_of_getElem? (i := 105) (by decide +kernel)) rfl
theorem xw675 : Cond.selects RX9 yX9_takeOver yX9_takeOver ∈ xwl := xin3 (List.mem_of_getElem? (i := 106) (by decide +kernel)) rfl
theorem xw676 : Cond.code yX9_takeOver cX9_takeOver 3 none ∈ xwl := xin3 (List.mem_of_getElem? (i := 107) rfl) rfl
theorem xw677 : Cond.methodLink RX9 28 ⟨"java/lang/System", "arraycopy", "(Ljava/lang/Object;ILjava/lang/Object;II)V"⟩ ∈ xwl := xin3 (List.mem_of_getElem? (i := 108) (by decide +kernel)) rfl
theorem xw678 : Cond.methodLink RL 61 yX10_frame ∈ xwl := xin3 (List.mem_of_getElem? (i := 109) (by decide +kernel)) rfl
theorem xw679 : Cond.instanceMethod yX10_frame ∈ xwl := xin3 (List.mem_of_getElem? (i := 110) (by decide +kernel)) rfl
theorem xw680 : Cond.selects RX10 yX10_frame yX10_frame ∈ xwl := xin3 (List.mem_of_getElem? (i := 111) (by decide +kernel)) rfl
theorem xw681 : Cond.code yX10_frame cX10_frame 3 (some .int) ∈ xwl := xin3 (List.mem_of_getElem? (i := 112) rfl) rfl
theorem xw682 : Cond.methodLink RX10 158 yX0_part ∈ xwl := xin3 (List.mem_of_getElem? (i := 113) (by decide +kernel)) rfl
theorem xw683 : Cond.instanceMethod yX0_part ∈ xwl := xin3 (List.mem_of_getElem? (i := 114) (by decide +kernel)) rfl
theorem xw684 : Cond.selects RX0 yX0_part yX0_part ∈ xwl := xin3 (List.mem_of_getElem? (i := 115) (by decide +kernel)) rfl
theorem xw685 : Cond.code yX0_part cX0_part 2 (some .int) ∈ xwl := xin3 (List.mem_of_getElem? (i := 116) rfl) rfl
theorem xw686 : Cond.methodLink RX0 52 yX0_needsAcross ∈ xwl := xin3 (List.mem_of_getElem? (i := 117) (by decide +kernel)) rfl
theorem xw687 : Cond.instanceMethod yX0_needsAcross ∈ xwl := xin3 (List.mem_of_getElem? (i := 118) (by decide +kernel)) rfl
theorem xw688 : Cond.selects RX0 yX0_needsAcross yX0_needsAcross ∈ xwl := xin3 (List.mem_of_getElem? (i := 119) (by decide +kernel)) rfl
theorem xw689 : Cond.code yX0_needsAcross cX0_needsAcross 2 (some .int) ∈ xwl := xin3 (List.mem_of_getElem? (i := 120) rfl) rfl
theorem xw690 : Cond.methodLink RX0 56 yX0_needsDown ∈ xwl := xin3 (List.mem_of_getElem? (i := 121) (by decide +kernel)) rfl
theorem xw691 : Cond.instanceMethod yX0_needsDown ∈ xwl := xin3 (List.mem_of_getElem? (i := 122) (by decide +kernel)) rfl
theorem xw692 : Cond.selects RX0 yX0_needsDown yX0_needsDown ∈ xwl := xin3 (List.mem_of_getElem? (i := 123) (by decide +kernel)) rfl
theorem xw693 : Cond.code yX0_needsDown cX0_needsDown 2 (some .int) ∈ xwl := xin3 (List.mem_of_getElem? (i := 124) rfl) rfl
theorem xw694 : Cond.methodLink RL 65 yX10_place ∈ xwl := xin3 (List.mem_of_getElem? (i := 125) (by decide +kernel)) rfl
theorem xw695 : Cond.instanceMethod yX10_place ∈ xwl := xin3 (List.mem_of_getElem? (i := 126) (by decide +kernel)) rfl
theorem xw696 : Cond.selects RX10 yX10_place yX10_place ∈ xwl := xin3 (List.mem_of_getElem? (i := 127) (by decide +kernel)) rfl
theorem xw697 : Cond.code yX10_place cX10_place 3 (some .int) ∈ xwl := xin3 (List.mem_of_getElem? (i := 128) rfl) rfl
theorem xw698 : Cond.methodLink RX10 166 yX1_isSet ∈ xwl := xin3 (List.mem_of_getElem? (i := 129) (by decide +kernel)) rfl
theorem xw699 : Cond.instanceMethod yX1_isSet ∈ xwl := xin3 (List.mem_of_getElem? (i := 130) (by decide +kernel)) rfl
theorem xw700 : Cond.selects RX1 yX1_isSet yX1_isSet ∈ xwl := xin3 (List.mem_of_getElem? (i := 131) (by decide +kernel)) rfl
theorem xw701 : Cond.code yX1_isSet cX1_isSet 2 (some .boolean) ∈ xwl := xin3 (List.mem_of_getElem? (i := 132) rfl) rfl
theorem xw702 : Cond.methodLink RX10 170 yX1_part ∈ xwl := xin3 (List.mem_of_getElem? (i := 133) (by decide +kernel)) rfl
theorem xw703 : Cond.instanceMethod yX1_part ∈ xwl := xin3 (List.mem_of_getElem? (i := 134) (by decide +kernel)) rfl
theorem xw704 : Cond.selects RX1 yX1_part yX1_part ∈ xwl := xin3 (List.mem_of_getElem? (i := 135) (by decide +kernel)) rfl
theorem xw705 : Cond.code yX1_part cX1_part 3 (some .int) ∈ xwl := xin3 (List.mem_of_getElem? (i := 136) rfl) rfl
theorem xw706 : Cond.methodLink RX1 19 yX1_pageOf ∈ xwl := xin3 (List.mem_of_getElem? (i := 137) (by decide +kernel)) rfl
theorem xw707 : Cond.instanceMethod yX1_pageOf ∈ xwl := xin3 (List.mem_of_getElem? (i := 138) (by decide +kernel)) rfl
theorem xw708 : Cond.selects RX1 yX1_pageOf yX1_pageOf ∈ xwl := xin3 (List.mem_of_getElem? (i := 139) (by decide +kernel)) rfl
theorem xw709 : Cond.code yX1_pageOf cX1_pageOf 2 (some .int) ∈ xwl := xin3 (List.mem_of_getElem? (i := 140) rfl) rfl
theorem xw710 : Cond.methodLink RX1 23 yX1_xOf ∈ xwl := xin3 (List.mem_of_getElem? (i := 141) (by decide +kernel)) rfl
theorem xw711 : Cond.instanceMethod yX1_xOf ∈ xwl := xin3 (List.mem_of_getElem? (i := 142) (by decide +kernel)) rfl
theorem xw712 : Cond.selects RX1 yX1_xOf yX1_xOf ∈ xwl := xin3 (List.mem_of_getElem? (i := 143) (by decide +kernel)) rfl
theorem xw713 : Cond.code yX1_xOf cX1_xOf 2 (some .int) ∈ xwl := xin3 (List.mem_of_getElem? (i := 144) rfl) rfl
theorem xw714 : Cond.methodLink RX1 26 yX1_yOf ∈ xwl := xin3 (List.mem_of_getElem? (i := 145) (by decide +kernel)) rfl
theorem xw715 : Cond.instanceMethod yX1_yOf ∈ xwl := xin3 (List.mem_of_getElem? (i := 146) (by decide +kernel)) rfl
theorem xw716 : Cond.selects RX1 yX1_yOf yX1_yOf ∈ xwl := xin3 (List.mem_of_getElem? (i := 147) (by decide +kernel)) rfl
theorem xw717 : Cond.code yX1_yOf cX1_yOf 2 (some .int) ∈ xwl := xin3 (List.mem_of_getElem? (i := 148) rfl) rfl
theorem xw718 : Cond.methodLink RX1 29 yX1_isTurned ∈ xwl := xin3 (List.mem_of_getElem? (i := 149) (by decide +kernel)) rfl
theorem xw719 : Cond.instanceMethod yX1_isTurned ∈ xwl := xin3 (List.mem_of_getElem? (i := 150) (by decide +kernel)) rfl
theorem xw720 : Cond.selects RX1 yX1_isTurned yX1_isTurned ∈ xwl := xin3 (List.mem_of_getElem? (i := 151) (by decide +kernel)) rfl
theorem xw721 : Cond.code yX1_isTurned cX1_isTurned 2 (some .boolean) ∈ xwl := xin3 (List.mem_of_getElem? (i := 152) rfl) rfl
theorem xw722 : Cond.methodLink RL 69 yX10_mark ∈ xwl := xin3 (List.mem_of_getElem? (i := 153) (by decide +kernel)) rfl
theorem xw723 : Cond.instanceMethod yX10_mark ∈ xwl := xin3 (List.mem_of_getElem? (i := 154) (by decide +kernel)) rfl
theorem xw724 : Cond.selects RX10 yX10_mark yX10_mark ∈ xwl := xin3 (List.mem_of_getElem? (i := 155) (by decide +kernel)) rfl
theorem xw725 : Cond.code yX10_mark cX10_mark 4 (some .int) ∈ xwl := xin3 (List.mem_of_getElem? (i := 156) rfl) rfl
theorem xw726 : Cond.methodLink RX10 173 yX0_isOf ∈ xwl := xin3 (List.mem_of_getElem? (i := 157) (by decide +kernel)) rfl
theorem xw727 : Cond.instanceMethod yX0_isOf ∈ xwl := xin3 (List.mem_of_getElem? (i := 158) (by decide +kernel)) rfl
theorem xw728 : Cond.selects RX0 yX0_isOf yX0_isOf ∈ xwl := xin3 (List.mem_of_getElem? (i := 159) (by decide +kernel)) rfl
theorem xw729 : Cond.code yX0_isOf cX0_isOf 2 (some .boolean) ∈ xwl := xin3 (List.mem_of_getElem? (i := 160) rfl) rfl
theorem xw730 : Cond.methodLink RX10 182 ⟨"java/lang/Math", "abs", "(I)I"⟩ ∈ xwl := xin3 (List.mem_of_getElem? (i := 161) (by decide +kernel)) rfl
theorem xw731 : Cond.static ⟨"java/lang/Math", "abs", "(I)I"⟩ ∈ xwl := xin3 (List.mem_of_getElem? (i := 162) (by decide +kernel)) rfl
theorem xw732 : Cond.code ⟨"java/lang/Math", "abs", "(I)I"⟩ prog_14_method_59_code 1 (some .int) ∈ xwl := xin3 (List.mem_of_getElem? (i := 163) rfl) rfl
theorem xw733 : Cond.methodLink RX10 187 yX0_edgePlaces ∈ xwl := xin3 (List.mem_of_getElem? (i := 164) (by decide +kernel)) rfl
theorem xw734 : Cond.instanceMethod yX0_edgePlaces ∈ xwl := xin3 (List.mem_of_getElem? (i := 165) (by decide +kernel)) rfl
theorem xw735 : Cond.selects RX0 yX0_edgePlaces yX0_edgePlaces ∈ xwl := xin3 (List.mem_of_getElem? (i := 166) (by decide +kernel)) rfl
theorem xw736 : Cond.code yX0_edgePlaces cX0_edgePlaces 1 (some .int) ∈ xwl := xin3 (List.mem_of_getElem? (i := 167) rfl) rfl
theorem xw737 : Cond.methodLink RX0 59 yX0_needsPlaces ∈ xwl := xin3 (List.mem_of_getElem? (i := 168) (by decide +kernel)) rfl
theorem xw738 : Cond.instanceMethod yX0_needsPlaces ∈ xwl := xin3 (List.mem_of_getElem? (i := 169) (by decide +kernel)) rfl
theorem xw739 : Cond.selects RX0 yX0_needsPlaces yX0_needsPlaces ∈ xwl := xin3 (List.mem_of_getElem? (i := 170) (by decide +kernel)) rfl
theorem xw740 : Cond.code yX0_needsPlaces cX0_needsPlaces 1 (some .int) ∈ xwl := xin3 (List.mem_of_getElem? (i := 171) rfl) rfl
theorem xw741 : Cond.methodLink RX10 191 yX0_emptyPoints ∈ xwl := xin3 (List.mem_of_getElem? (i := 172) (by decide +kernel)) rfl
theorem xw742 : Cond.instanceMethod yX0_emptyPoints ∈ xwl := xin3 (List.mem_of_getElem? (i := 173) (by decide +kernel)) rfl
theorem xw743 : Cond.selects RX0 yX0_emptyPoints yX0_emptyPoints ∈ xwl := xin3 (List.mem_of_getElem? (i := 174) (by decide +kernel)) rfl
theorem xw744 : Cond.code yX0_emptyPoints cX0_emptyPoints 1 (some .int) ∈ xwl := xin3 (List.mem_of_getElem? (i := 175) rfl) rfl
theorem xw745 : Cond.methodLink RL 73 yX10_set ∈ xwl := xin3 (List.mem_of_getElem? (i := 176) (by decide +kernel)) rfl
theorem xw746 : Cond.instanceMethod yX10_set ∈ xwl := xin3 (List.mem_of_getElem? (i := 177) (by decide +kernel)) rfl
theorem xw747 : Cond.selects RX10 yX10_set yX10_set ∈ xwl := xin3 (List.mem_of_getElem? (i := 178) (by decide +kernel)) rfl
theorem xw748 : Cond.code yX10_set cX10_set 3 (some .int) ∈ xwl := xin3 (List.mem_of_getElem? (i := 179) rfl) rfl
theorem xw749 : Cond.methodLink RX10 194 yX2_spotFor ∈ xwl := xin3 (List.mem_of_getElem? (i := 180) (by decide +kernel)) rfl
theorem xw750 : Cond.instanceMethod yX2_spotFor ∈ xwl := xin3 (List.mem_of_getElem? (i := 181) (by decide +kernel)) rfl
theorem xw751 : Cond.selects RX2 yX2_spotFor yX2_spotFor ∈ xwl := xin3 (List.mem_of_getElem? (i := 182) (by decide +kernel)) rfl
theorem xw752 : Cond.code yX2_spotFor cX2_spotFor 7 (some .int) ∈ xwl := xin3 (List.mem_of_getElem? (i := 183) rfl) rfl
theorem xw753 : Cond.methodLink RX2 22 yX1_pages ∈ xwl := xin3 (List.mem_of_getElem? (i := 184) (by decide +kernel)) rfl
theorem xw754 : Cond.instanceMethod yX1_pages ∈ xwl := xin3 (List.mem_of_getElem? (i := 185) (by decide +kernel)) rfl
theorem xw755 : Cond.selects RX1 yX1_pages yX1_pages ∈ xwl := xin3 (List.mem_of_getElem? (i := 186) (by decide +kernel)) rfl
theorem xw756 : Cond.code yX1_pages cX1_pages 3 (some .int) ∈ xwl := xin3 (List.mem_of_getElem? (i := 187) rfl) rfl
theorem xw757 : Cond.methodLink RX1 33 yX1_isSet ∈ xwl := xin3 (List.mem_of_getElem? (i := 188) (by decide +kernel)) rfl
theorem xw758 : Cond.methodLink RX1 36 ⟨"java/lang/Math", "max", "(II)I"⟩ ∈ xwl := xin3 (List.mem_of_getElem? (i := 189) (by decide +kernel)) rfl
theorem xw759 : Cond.methodLink RX2 28 yX4_look ∈ xwl := xin3 (List.mem_of_getElem? (i := 190) (by decide +kernel)) rfl
theorem xw760 : Cond.instanceMethod yX4_look ∈ xwl := xin3 (List.mem_of_getElem? (i := 191) (by decide +kernel)) rfl
theorem xw761 : Cond.selects RX4 yX4_look yX4_look ∈ xwl := xin3 (List.mem_of_getElem? (i := 192) (by decide +kernel)) rfl
theorem xw762 : Cond.code yX4_look cX4_look 5 none ∈ xwl := xin3 (List.mem_of_getElem? (i := 193) rfl) rfl
theorem xw763 : Cond.methodLink RX4 31 ⟨"java/lang/Math", "min", "(II)I"⟩ ∈ xwl := xin3 (List.mem_of_getElem? (i := 194) (by decide +kernel)) rfl
theorem xw764 : Cond.methodLink RX4 39 yX1_isSet ∈ xwl := xin3 (List.mem_of_getElem? (i := 195) (by decide +kernel)) rfl
theorem xw765 : Cond.methodLink RX4 45 yX1_pageOf ∈ xwl := xin3 (List.mem_of_getElem? (i := 196) (by decide +kernel)) rfl
theorem xw766 : Cond.methodLink RX4 53 yX4_cover ∈ xwl := xin3 (List.mem_of_getElem? (i := 197) (by decide +kernel)) rfl
theorem xw768 : Cond.instanceMethod yX4_cover ∈ xwl := xin3 (List.mem_of_getElem? (i := 199) (by decide +kernel)) rfl
theorem xw769 : Cond.code yX4_cover cX4_cover 9 none ∈ xwl := xin3 (List.mem_of_getElem? (i := 200) rfl) rfl
theorem xw770 : Cond.methodLink RX4 60 yX1_isTurned ∈ xwl := xin3 (List.mem_of_getElem? (i := 201) (by decide +kernel)) rfl
theorem xw771 : Cond.methodLink RX4 63 yX1_xOf ∈ xwl := xin3 (List.mem_of_getElem? (i := 202) (by decide +kernel)) rfl
theorem xw772 : Cond.methodLink RX4 66 yX0_needsAcross ∈ xwl := xin3 (List.mem_of_getElem? (i := 203) (by decide +kernel)) rfl
theorem xw773 : Cond.methodLink RX4 72 yX4_span ∈ xwl := xin3 (List.mem_of_getElem? (i := 204) (by decide +kernel)) rfl
theorem xw774 : Cond.static yX4_span ∈ xwl := xin3 (List.mem_of_getElem? (i := 205) (by decide +kernel)) rfl
theorem xw775 : Cond.code yX4_span cX4_span 2 (some .int) ∈ xwl := xin3 (List.mem_of_getElem? (i := 206) rfl) rfl
theorem xw776 : Cond.methodLink RX4 75 yX1_yOf ∈ xwl := xin3 (List.mem_of_getElem? (i := 207) (by decide +kernel)) rfl
theorem xw777 : Cond.methodLink RX4 78 yX0_needsDown ∈ xwl := xin3 (List.mem_of_getElem? (i := 208) (by decide +kernel)) rfl
theorem xw778 : Cond.methodLink RX4 57 yX4_findFree ∈ xwl := xin3 (List.mem_of_getElem? (i := 209) (by decide +kernel)) rfl
theorem xw780 : Cond.instanceMethod yX4_findFree ∈ xwl := xin3 (List.mem_of_getElem? (i := 211) (by decide +kernel)) rfl
theorem xw781 : Cond.code yX4_findFree cX4_findFree 7 none ∈ xwl := xin3 (List.mem_of_getElem? (i := 212) rfl) rfl
theorem xw782 : Cond.methodLink RX4 81 yX4_addRuns ∈ xwl := xin3 (List.mem_of_getElem? (i := 213) (by decide +kernel)) rfl
theorem xw784 : Cond.instanceMethod yX4_addRuns ∈ xwl := xin3 (List.mem_of_getElem? (i := 215) (by decide +kernel)) rfl
theorem xw785 : Cond.code yX4_addRuns cX4_addRuns 9 none ∈ xwl := xin3 (List.mem_of_getElem? (i := 216) rfl) rfl
theorem xw786 : Cond.methodLink RX4 85 yX4_insert ∈ xwl := xin3 (List.mem_of_getElem? (i := 217) (by decide +kernel)) rfl
theorem xw788 : Cond.instanceMethod yX4_insert ∈ xwl := xin3 (List.mem_of_getElem? (i := 219) (by decide +kernel)) rfl
theorem xw789 : Cond.code yX4_insert cX4_insert 3 none ∈ xwl := xin3 (List.mem_of_getElem? (i := 220) rfl) rfl
theorem xw790 : Cond.methodLink RX2 42 yX4_bestSpot ∈ xwl := xin3 (List.mem_of_getElem? (i := 221) (by decide +kernel)) rfl
theorem xw791 : Cond.instanceMethod yX4_bestSpot ∈ xwl := xin3 (List.mem_of_getElem? (i := 222) (by decide +kernel)) rfl
theorem xw792 : Cond.selects RX4 yX4_bestSpot yX4_bestSpot ∈ xwl := xin3 (List.mem_of_getElem? (i := 223) (by decide +kernel)) rfl
theorem xw793 : Cond.code yX4_bestSpot cX4_bestSpot 12 (some .int) ∈ xwl := xin3 (List.mem_of_getElem? (i := 224) rfl) rfl
theorem xw794 : Cond.methodLink RX4 101 yX0_mayTurn ∈ xwl := xin3 (List.mem_of_getElem? (i := 225) (by decide +kernel)) rfl
theorem xw795 : Cond.instanceMethod yX0_mayTurn ∈ xwl := xin3 (List.mem_of_getElem? (i := 226) (by decide +kernel)) rfl
theorem xw796 : Cond.selects RX0 yX0_mayTurn yX0_mayTurn ∈ xwl := xin3 (List.mem_of_getElem? (i := 227) (by decide +kernel)) rfl
theorem xw797 : Cond.code yX0_mayTurn cX0_mayTurn 1 (some .boolean) ∈ xwl := xin3 (List.mem_of_getElem? (i := 228) rfl) rfl
theorem xw798 : Cond.methodLink RX0 48 yX0_isOf ∈ xwl := xin3 (List.mem_of_getElem? (i := 229) (by decide +kernel)) rfl
theorem xw799 : Cond.methodLink RX4 91 yX4_acrossOf ∈ xwl := xin3 (List.mem_of_getElem? (i := 230) (by decide +kernel)) rfl
theorem xw800 : Cond.static yX4_acrossOf ∈ xwl := xin3 (List.mem_of_getElem? (i := 231) (by decide +kernel)) rfl
theorem xw801 : Cond.code yX4_acrossOf cX4_acrossOf 1 (some .int) ∈ xwl := xin3 (List.mem_of_getElem? (i := 232) rfl) rfl
theorem xw802 : Cond.methodLink RX4 94 yX4_downOf ∈ xwl := xin3 (List.mem_of_getElem? (i := 233) (by decide +kernel)) rfl
theorem xw803 : Cond.static yX4_downOf ∈ xwl := xin3 (List.mem_of_getElem? (i := 234) (by decide +kernel)) rfl
theorem xw804 : Cond.code yX4_downOf cX4_downOf 1 (some .int) ∈ xwl := xin3 (List.mem_of_getElem? (i := 235) rfl) rfl
theorem xw805 : Cond.methodLink RX4 105 yX4_numbersOf ∈ xwl := xin3 (List.mem_of_getElem? (i := 236) (by decide +kernel)) rfl
theorem xw806 : Cond.static yX4_numbersOf ∈ xwl := xin3 (List.mem_of_getElem? (i := 237) (by decide +kernel)) rfl
theorem xw807 : Cond.code yX4_numbersOf cX4_numbersOf 9 (some .int) ∈ xwl := xin3 (List.mem_of_getElem? (i := 238) rfl) rfl
theorem xw808 : Cond.methodLink RX4 98 ⟨"java/lang/Math", "max", "(II)I"⟩ ∈ xwl := xin3 (List.mem_of_getElem? (i := 239) (by decide +kernel)) rfl
theorem xw809 : Cond.methodLink RX4 90 yX4_yOf ∈ xwl := xin4 (List.mem_of_getElem? (i := 0) (by decide +kernel)) rfl
theorem xw810 : Cond.static yX4_yOf ∈ xwl := xin4 (List.mem_of_getElem? (i := 1) (by decide +kernel)) rfl
theorem xw811 : Cond.code yX4_yOf cX4_yOf 1 (some .int) ∈ xwl := xin4 (List.mem_of_getElem? (i := 2) rfl) rfl
theorem xw812 : Cond.constant RX4 97 (32768) ∈ xwl := xin4 (List.mem_of_getElem? (i := 3) (by decide +kernel)) rfl
theorem xw813 : Cond.methodLink RX4 89 yX4_xOf ∈ xwl := xin4 (List.mem_of_getElem? (i := 4) (by decide +kernel)) rfl
theorem xw814 : Cond.static yX4_xOf ∈ xwl := xin4 (List.mem_of_getElem? (i := 5) (by decide +kernel)) rfl
theorem xw815 : Cond.code yX4_xOf cX4_xOf 1 (some .int) ∈ xwl := xin4 (List.mem_of_getElem? (i := 6) rfl) rfl
theorem xw816 : Cond.methodLink RX4 109 yX1_spotAt ∈ xwl := xin4 (List.mem_of_getElem? (i := 7) (by decide +kernel)) rfl
theorem xw817 : Cond.static yX1_spotAt ∈ xwl := xin4 (List.mem_of_getElem? (i := 8) (by decide +kernel)) rfl
theorem xw818 : Cond.code yX1_spotAt cX1_spotAt 3 (some .int) ∈ xwl := xin4 (List.mem_of_getElem? (i := 9) rfl) rfl
theorem xw819 : Cond.methodLink RX2 46 yX1_spotOnPage ∈ xwl := xin4 (List.mem_of_getElem? (i := 10) (by decide +kernel)) rfl
theorem xw820 : Cond.static yX1_spotOnPage ∈ xwl := xin4 (List.mem_of_getElem? (i := 11) (by decide +kernel)) rfl
theorem xw821 : Cond.code yX1_spotOnPage cX1_spotOnPage 2 (some .int) ∈ xwl := xin4 (List.mem_of_getElem? (i := 12) rfl) rfl
theorem xw822 : Cond.methodLink RX10 198 yX8_isFull ∈ xwl := xin4 (List.mem_of_getElem? (i := 13) (by decide +kernel)) rfl
theorem xw823 : Cond.instanceMethod yX8_isFull ∈ xwl := xin4 (List.mem_of_getElem? (i := 14) (by decide +kernel)) rfl
theorem xw824 : Cond.selects RX8 yX8_isFull yX8_isFull ∈ xwl := xin4 (List.mem_of_getElem? (i := 15) (by decide +kernel)) rfl
theorem xw825 : Cond.code yX8_isFull cX8_isFull 1 (some .boolean) ∈ xwl := xin4 (List.mem_of_getElem? (i := 16) rfl) rfl
theorem xw826 : Cond.methodLink RX10 201 yX8_beginDeed ∈ xwl := xin4 (List.mem_of_getElem? (i := 17) (by decide +kernel)) rfl
theorem xw827 : Cond.instanceMethod yX8_beginDeed ∈ xwl := xin4 (List.mem_of_getElem? (i := 18) (by decide +kernel)) rfl
theorem xw828 : Cond.selects RX8 yX8_beginDeed yX8_beginDeed ∈ xwl := xin4 (List.mem_of_getElem? (i := 19) (by decide +kernel)) rfl
theorem xw829 : Cond.code yX8_beginDeed cX8_beginDeed 2 none ∈ xwl := xin4 (List.mem_of_getElem? (i := 20) rfl) rfl
theorem xw830 : Cond.methodLink RX8 32 yX8_isFull ∈ xwl := xin4 (List.mem_of_getElem? (i := 21) (by decide +kernel)) rfl
theorem xw831 : Cond.methodLink RX8 39 ⟨"java/lang/System", "arraycopy", "(Ljava/lang/Object;ILjava/lang/Object;II)V"⟩ ∈ xwl := xin4 (List.mem_of_getElem? (i := 22) (by decide +kernel)) rfl
theorem xw832 : Cond.methodLink RX10 207 yX1_pageOf ∈ xwl := xin4 (List.mem_of_getElem? (i := 23) (by decide +kernel)) rfl
theorem xw833 : Cond.methodLink RL 77 yX10_lift ∈ xwl := xin4 (List.mem_of_getElem? (i := 24) (by decide +kernel)) rfl
theorem xw834 : Cond.instanceMethod yX10_lift ∈ xwl := xin4 (List.mem_of_getElem? (i := 25) (by decide +kernel)) rfl
theorem xw835 : Cond.selects RX10 yX10_lift yX10_lift ∈ xwl := xin4 (List.mem_of_getElem? (i := 26) (by decide +kernel)) rfl
theorem xw836 : Cond.code yX10_lift cX10_lift 2 (some .int) ∈ xwl := xin4 (List.mem_of_getElem? (i := 27) rfl) rfl
theorem xw837 : Cond.methodLink RX10 210 yX1_pages ∈ xwl := xin4 (List.mem_of_getElem? (i := 28) (by decide +kernel)) rfl
theorem xw838 : Cond.methodLink RL 81 yX10_all ∈ xwl := xin4 (List.mem_of_getElem? (i := 29) (by decide +kernel)) rfl
theorem xw839 : Cond.instanceMethod yX10_all ∈ xwl := xin4 (List.mem_of_getElem? (i := 30) (by decide +kernel)) rfl
theorem xw840 : Cond.selects RX10 yX10_all yX10_all ∈ xwl := xin4 (List.mem_of_getElem? (i := 31) (by decide +kernel)) rfl
theorem xw841 : Cond.code yX10_all cX10_all 2 (some .int) ∈ xwl := xin4 (List.mem_of_getElem? (i := 32) rfl) rfl
theorem xw842 : Cond.methodLink RX10 213 yX2_setAllAnew ∈ xwl := xin4 (List.mem_of_getElem? (i := 33) (by decide +kernel)) rfl
theorem xw843 : Cond.instanceMethod yX2_setAllAnew ∈ xwl := xin4 (List.mem_of_getElem? (i := 34) (by decide +kernel)) rfl
theorem xw844 : Cond.selects RX2 yX2_setAllAnew yX2_setAllAnew ∈ xwl := xin4 (List.mem_of_getElem? (i := 35) (by decide +kernel)) rfl
theorem xw845 : Cond.code yX2_setAllAnew cX2_setAllAnew 5 none ∈ xwl := xin4 (List.mem_of_getElem? (i := 36) rfl) rfl
theorem xw846 : Cond.methodLink RX2 50 yX1_liftAll ∈ xwl := xin4 (List.mem_of_getElem? (i := 37) (by decide +kernel)) rfl
theorem xw847 : Cond.methodLink RX2 53 yX2_fillQueue ∈ xwl := xin4 (List.mem_of_getElem? (i := 38) (by decide +kernel)) rfl
theorem xw849 : Cond.instanceMethod yX2_fillQueue ∈ xwl := xin4 (List.mem_of_getElem? (i := 40) (by decide +kernel)) rfl
theorem xw850 : Cond.code yX2_fillQueue cX2_fillQueue 6 none ∈ xwl := xin4 (List.mem_of_getElem? (i := 41) rfl) rfl
theorem xw851 : Cond.methodLink RX2 67 yX2_weightOf ∈ xwl := xin4 (List.mem_of_getElem? (i := 42) (by decide +kernel)) rfl
theorem xw852 : Cond.static yX2_weightOf ∈ xwl := xin4 (List.mem_of_getElem? (i := 43) (by decide +kernel)) rfl
theorem xw853 : Cond.code yX2_weightOf cX2_weightOf 2 (some .int) ∈ xwl := xin4 (List.mem_of_getElem? (i := 44) rfl) rfl
theorem xw854 : Cond.methodLink RX2 70 yX0_needsPlaces ∈ xwl := xin4 (List.mem_of_getElem? (i := 45) (by decide +kernel)) rfl
theorem xw855 : Cond.methodLink RX2 75 yX0_needsAcross ∈ xwl := xin4 (List.mem_of_getElem? (i := 46) (by decide +kernel)) rfl
theorem xw856 : Cond.methodLink RX2 79 yX0_needsDown ∈ xwl := xin4 (List.mem_of_getElem? (i := 47) (by decide +kernel)) rfl
theorem xw857 : Cond.methodLink RX2 82 ⟨"java/lang/Math", "max", "(II)I"⟩ ∈ xwl := xin4 (List.mem_of_getElem? (i := 48) (by decide +kernel)) rfl
theorem xw858 : Cond.methodLink RX2 63 yX2_spotFor ∈ xwl := xin4 (List.mem_of_getElem? (i := 49) (by decide +kernel)) rfl
theorem xw859 : Cond.methodLink RL 85 yX10_rule ∈ xwl := xin4 (List.mem_of_getElem? (i := 50) (by decide +kernel)) rfl
theorem xw860 : Cond.instanceMethod yX10_rule ∈ xwl := xin4 (List.mem_of_getElem? (i := 51) (by decide +kernel)) rfl
theorem xw861 : Cond.selects RX10 yX10_rule yX10_rule ∈ xwl := xin4 (List.mem_of_getElem? (i := 52) (by decide +kernel)) rfl
theorem xw862 : Cond.code yX10_rule cX10_rule 3 (some .int) ∈ xwl := xin4 (List.mem_of_getElem? (i := 53) rfl) rfl
theorem xw863 : Cond.methodLink RL 89 yX10_undo ∈ xwl := xin4 (List.mem_of_getElem? (i := 54) (by decide +kernel)) rfl
theorem xw864 : Cond.instanceMethod yX10_undo ∈ xwl := xin4 (List.mem_of_getElem? (i := 55) (by decide +kernel)) rfl
theorem xw865 : Cond.selects RX10 yX10_undo yX10_undo ∈ xwl := xin4 (List.mem_of_getElem? (i := 56) (by decide +kernel)) rfl
theorem xw866 : Cond.code yX10_undo cX10_undo 3 (some .int) ∈ xwl := xin4 (List.mem_of_getElem? (i := 57) rfl) rfl
theorem xw867 : Cond.methodLink RX10 223 yX8_goBackTo ∈ xwl := xin4 (List.mem_of_getElem? (i := 58) (by decide +kernel)) rfl
theorem xw868 : Cond.instanceMethod yX8_goBackTo ∈ xwl := xin4 (List.mem_of_getElem? (i := 59) (by decide +kernel)) rfl
theorem xw869 : Cond.selects RX8 yX8_goBackTo yX8_goBackTo ∈ xwl := xin4 (List.mem_of_getElem? (i := 60) (by decide +kernel)) rfl
theorem xw870 : Cond.code yX8_goBackTo cX8_goBackTo 3 none ∈ xwl := xin4 (List.mem_of_getElem? (i := 61) rfl) rfl
theorem xw871 : Cond.methodLink RL 93 yX10_keep ∈ xwl := xin4 (List.mem_of_getElem? (i := 62) (by decide +kernel)) rfl
theorem xw872 : Cond.instanceMethod yX10_keep ∈ xwl := xin4 (List.mem_of_getElem? (i := 63) (by decide +kernel)) rfl
theorem xw873 : Cond.selects RX10 yX10_keep yX10_keep ∈ xwl := xin4 (List.mem_of_getElem? (i := 64) (by decide +kernel)) rfl
theorem xw874 : Cond.code yX10_keep cX10_keep 2 (some .int) ∈ xwl := xin4 (List.mem_of_getElem? (i := 65) rfl) rfl
theorem xw875 : Cond.methodLink RX10 226 yX8_takeOver ∈ xwl := xin4 (List.mem_of_getElem? (i := 66) (by decide +kernel)) rfl
theorem xw876 : Cond.instanceMethod yX8_takeOver ∈ xwl := xin4 (List.mem_of_getElem? (i := 67) (by decide +kernel)) rfl
theorem xw877 : Cond.selects RX8 yX8_takeOver yX8_takeOver ∈ xwl := xin4 (List.mem_of_getElem? (i := 68) (by decide +kernel)) rfl
theorem xw878 : Cond.code yX8_takeOver cX8_takeOver 2 none ∈ xwl := xin4 (List.mem_of_getElem? (i := 69) rfl) rfl
theorem xw879 : Cond.methodLink RL 97 yX10_on ∈ xwl := xin4 (List.mem_of_getElem? (i := 70) (by decide +kernel)) rfl
theorem xw880 : Cond.instanceMethod yX10_on ∈ xwl := xin4 (List.mem_of_getElem? (i := 71) (by decide +kernel)) rfl
theorem xw881 : Cond.selects RX10 yX10_on yX10_on ∈ xwl := xin4 (List.mem_of_getElem? (i := 72) (by decide +kernel)) rfl
theorem xw882 : Cond.code yX10_on cX10_on 2 (some .int) ∈ xwl := xin4 (List.mem_of_getElem? (i := 73) rfl) rfl
theorem xw883 : Cond.methodLink RL 101 yX10_free ∈ xwl := xin4 (List.mem_of_getElem? (i := 74) (by decide +kernel)) rfl
theorem xw884 : Cond.instanceMethod yX10_free ∈ xwl := xin4 (List.mem_of_getElem? (i := 75) (by decide +kernel)) rfl
theorem xw885 : Cond.selects RX10 yX10_free yX10_free ∈ xwl := xin4 (List.mem_of_getElem? (i := 76) (by decide +kernel)) rfl
theorem xw886 : Cond.code yX10_free cX10_free 5 (some .int) ∈ xwl := xin4 (List.mem_of_getElem? (i := 77) rfl) rfl
theorem xw887 : Cond.methodLink RX10 229 yX10_isPage ∈ xwl := xin4 (List.mem_of_getElem? (i := 78) (by decide +kernel)) rfl
theorem xw889 : Cond.instanceMethod yX10_isPage ∈ xwl := xin4 (List.mem_of_getElem? (i := 80) (by decide +kernel)) rfl
theorem xw890 : Cond.code yX10_isPage cX10_isPage 2 (some .boolean) ∈ xwl := xin4 (List.mem_of_getElem? (i := 81) rfl) rfl
theorem xw891 : Cond.methodLink RX10 236 yX4_look ∈ xwl := xin4 (List.mem_of_getElem? (i := 82) (by decide +kernel)) rfl
theorem xw892 : Cond.methodLink RX10 242 yX4_part ∈ xwl := xin4 (List.mem_of_getElem? (i := 83) (by decide +kernel)) rfl
theorem xw893 : Cond.instanceMethod yX4_part ∈ xwl := xin4 (List.mem_of_getElem? (i := 84) (by decide +kernel)) rfl
theorem xw894 : Cond.selects RX4 yX4_part yX4_part ∈ xwl := xin4 (List.mem_of_getElem? (i := 85) (by decide +kernel)) rfl
theorem xw895 : Cond.code yX4_part cX4_part 3 (some .int) ∈ xwl := xin4 (List.mem_of_getElem? (i := 86) rfl) rfl
theorem xw896 : Cond.methodLink RL 105 yX10_seen ∈ xwl := xin4 (List.mem_of_getElem? (i := 87) (by decide +kernel)) rfl
theorem xw897 : Cond.instanceMethod yX10_seen ∈ xwl := xin4 (List.mem_of_getElem? (i := 88) (by decide +kernel)) rfl
theorem xw898 : Cond.selects RX10 yX10_seen yX10_seen ∈ xwl := xin4 (List.mem_of_getElem? (i := 89) (by decide +kernel)) rfl
theorem xw899 : Cond.code yX10_seen cX10_seen 5 (some .int) ∈ xwl := xin4 (List.mem_of_getElem? (i := 90) rfl) rfl
theorem xw900 : Cond.methodLink RX10 249 yX10_takesPlace ∈ xwl := xin4 (List.mem_of_getElem? (i := 91) (by decide +kernel)) rfl
theorem xw902 : Cond.instanceMethod yX10_takesPlace ∈ xwl := xin4 (List.mem_of_getElem? (i := 93) (by decide +kernel)) rfl
theorem xw903 : Cond.code yX10_takesPlace cX10_takesPlace 8 (some .boolean) ∈ xwl := xin4 (List.mem_of_getElem? (i := 94) rfl) rfl
theorem xw904 : Cond.methodLink RX10 269 yX1_isTurned ∈ xwl := xin4 (List.mem_of_getElem? (i := 95) (by decide +kernel)) rfl
theorem xw905 : Cond.methodLink RX10 272 yX1_xOf ∈ xwl := xin4 (List.mem_of_getElem? (i := 96) (by decide +kernel)) rfl
theorem xw906 : Cond.methodLink RX10 339 yX0_needsAcross ∈ xwl := xin4 (List.mem_of_getElem? (i := 97) (by decide +kernel)) rfl
theorem xw907 : Cond.methodLink RX10 278 yX1_yOf ∈ xwl := xin4 (List.mem_of_getElem? (i := 98) (by decide +kernel)) rfl
theorem xw908 : Cond.methodLink RX10 343 yX0_needsDown ∈ xwl := xin4 (List.mem_of_getElem? (i := 99) (by decide +kernel)) rfl
theorem xw909 : Cond.methodLink RX10 253 yX10_pointSeen ∈ xwl := xin4 (List.mem_of_getElem? (i := 100) (by decide +kernel)) rfl
theorem xw911 : Cond.instanceMethod yX10_pointSeen ∈ xwl := xin4 (List.mem_of_getElem? (i := 102) (by decide +kernel)) rfl
theorem xw912 : Cond.code yX10_pointSeen cX10_pointSeen 11 (some .int) ∈ xwl := xin4 (List.mem_of_getElem? (i := 103) rfl) rfl
theorem xw913 : Cond.methodLink RX10 346 yX10_nearest ∈ xwl := xin4 (List.mem_of_getElem? (i := 104) (by decide +kernel)) rfl
theorem xw914 : Cond.static yX10_nearest ∈ xwl := xin4 (List.mem_of_getElem? (i := 105) (by decide +kernel)) rfl
theorem xw915 : Cond.code yX10_nearest cX10_nearest 2 (some .int) ∈ xwl := xin4 (List.mem_of_getElem? (i := 106) rfl) rfl
theorem xw916 : Cond.methodLink RX10 349 ⟨"java/lang/Math", "min", "(II)I"⟩ ∈ xwl := xin4 (List.mem_of_getElem? (i := 107) (by decide +kernel)) rfl
theorem xw917 : Cond.methodLink RX10 352 ⟨"java/lang/Math", "max", "(II)I"⟩ ∈ xwl := xin4 (List.mem_of_getElem? (i := 108) (by decide +kernel)) rfl
theorem xw918 : Cond.methodLink RL 109 yX10_point ∈ xwl := xin4 (List.mem_of_getElem? (i := 109) (by decide +kernel)) rfl
theorem xw919 : Cond.instanceMethod yX10_point ∈ xwl := xin4 (List.mem_of_getElem? (i := 110) (by decide +kernel)) rfl
theorem xw920 : Cond.selects RX10 yX10_point yX10_point ∈ xwl := xin4 (List.mem_of_getElem? (i := 111) (by decide +kernel)) rfl
theorem xw921 : Cond.code yX10_point cX10_point 11 (some .int) ∈ xwl := xin4 (List.mem_of_getElem? (i := 112) rfl) rfl
theorem xw922 : Cond.methodLink RL 113 yX10_used ∈ xwl := xin4 (List.mem_of_getElem? (i := 113) (by decide +kernel)) rfl
theorem xw923 : Cond.instanceMethod yX10_used ∈ xwl := xin4 (List.mem_of_getElem? (i := 114) (by decide +kernel)) rfl
theorem xw924 : Cond.selects RX10 yX10_used yX10_used ∈ xwl := xin4 (List.mem_of_getElem? (i := 115) (by decide +kernel)) rfl
theorem xw925 : Cond.code yX10_used cX10_used 4 (some .int) ∈ xwl := xin4 (List.mem_of_getElem? (i := 116) rfl) rfl
theorem xw926 : Cond.methodLink RX10 281 yX7_placesTaken ∈ xwl := xin4 (List.mem_of_getElem? (i := 117) (by decide +kernel)) rfl
theorem xw927 : Cond.instanceMethod yX7_placesTaken ∈ xwl := xin4 (List.mem_of_getElem? (i := 118) (by decide +kernel)) rfl
theorem xw928 : Cond.selects RX7 yX7_placesTaken yX7_placesTaken ∈ xwl := xin4 (List.mem_of_getElem? (i := 119) (by decide +kernel)) rfl
theorem xw929 : Cond.code yX7_placesTaken cX7_placesTaken 5 (some .int) ∈ xwl := xin4 (List.mem_of_getElem? (i := 120) rfl) rfl
theorem xw930 : Cond.methodLink RX7 35 yX1_isSet ∈ xwl := xin4 (List.mem_of_getElem? (i := 121) (by decide +kernel)) rfl
theorem xw931 : Cond.methodLink RX7 41 yX1_pageOf ∈ xwl := xin4 (List.mem_of_getElem? (i := 122) (by decide +kernel)) rfl
theorem xw932 : Cond.methodLink RX7 45 yX0_needsPlaces ∈ xwl := xin4 (List.mem_of_getElem? (i := 123) (by decide +kernel)) rfl
theorem xw933 : Cond.methodLink RL 117 yX10_takes ∈ xwl := xin4 (List.mem_of_getElem? (i := 124) (by decide +kernel)) rfl
theorem xw934 : Cond.instanceMethod yX10_takes ∈ xwl := xin4 (List.mem_of_getElem? (i := 125) (by decide +kernel)) rfl
theorem xw935 : Cond.selects RX10 yX10_takes yX10_takes ∈ xwl := xin4 (List.mem_of_getElem? (i := 126) (by decide +kernel)) rfl
theorem xw936 : Cond.code yX10_takes cX10_takes 5 (some .int) ∈ xwl := xin4 (List.mem_of_getElem? (i := 127) rfl) rfl
theorem xw937 : Cond.methodLink RX10 285 yX4_bestSpot ∈ xwl := xin4 (List.mem_of_getElem? (i := 128) (by decide +kernel)) rfl
theorem xw938 : Cond.methodLink RX10 289 yX4_greatest ∈ xwl := xin4 (List.mem_of_getElem? (i := 129) (by decide +kernel)) rfl
theorem xw939 : Cond.instanceMethod yX4_greatest ∈ xwl := xin4 (List.mem_of_getElem? (i := 130) (by decide +kernel)) rfl
theorem xw940 : Cond.selects RX4 yX4_greatest yX4_greatest ∈ xwl := xin4 (List.mem_of_getElem? (i := 131) (by decide +kernel)) rfl
theorem xw941 : Cond.code yX4_greatest cX4_greatest 3 (some .int) ∈ xwl := xin4 (List.mem_of_getElem? (i := 132) rfl) rfl
theorem xw942 : Cond.methodLink RL 121 yX10_would ∈ xwl := xin4 (List.mem_of_getElem? (i := 133) (by decide +kernel)) rfl
theorem xw943 : Cond.instanceMethod yX10_would ∈ xwl := xin4 (List.mem_of_getElem? (i := 134) (by decide +kernel)) rfl
theorem xw944 : Cond.selects RX10 yX10_would yX10_would ∈ xwl := xin4 (List.mem_of_getElem? (i := 135) (by decide +kernel)) rfl
theorem xw945 : Cond.code yX10_would cX10_would 5 (some .int) ∈ xwl := xin4 (List.mem_of_getElem? (i := 136) rfl) rfl
theorem xw946 : Cond.methodLink RL 125 yX10_best ∈ xwl := xin4 (List.mem_of_getElem? (i := 137) (by decide +kernel)) rfl
theorem xw947 : Cond.instanceMethod yX10_best ∈ xwl := xin4 (List.mem_of_getElem? (i := 138) (by decide +kernel)) rfl
theorem xw948 : Cond.selects RX10 yX10_best yX10_best ∈ xwl := xin4 (List.mem_of_getElem? (i := 139) (by decide +kernel)) rfl
theorem xw949 : Cond.code yX10_best cX10_best 7 (some .int) ∈ xwl := xin4 (List.mem_of_getElem? (i := 140) rfl) rfl
theorem xw950 : Cond.methodLink RX10 292 yX10_shortcoming ∈ xwl := xin4 (List.mem_of_getElem? (i := 141) (by decide +kernel)) rfl
theorem xw952 : Cond.instanceMethod yX10_shortcoming ∈ xwl := xin4 (List.mem_of_getElem? (i := 143) (by decide +kernel)) rfl
theorem xw953 : Cond.code yX10_shortcoming cX10_shortcoming 5 (some .int) ∈ xwl := xin4 (List.mem_of_getElem? (i := 144) rfl) rfl
theorem xw954 : Cond.methodLink RX10 304 yX1_framesSet ∈ xwl := xin4 (List.mem_of_getElem? (i := 145) (by decide +kernel)) rfl
theorem xw955 : Cond.instanceMethod yX1_framesSet ∈ xwl := xin4 (List.mem_of_getElem? (i := 146) (by decide +kernel)) rfl
theorem xw956 : Cond.selects RX1 yX1_framesSet yX1_framesSet ∈ xwl := xin4 (List.mem_of_getElem? (i := 147) (by decide +kernel)) rfl
theorem xw957 : Cond.code yX1_framesSet cX1_framesSet 3 (some .int) ∈ xwl := xin4 (List.mem_of_getElem? (i := 148) rfl) rfl
theorem xw958 : Cond.methodLink RL 130 yX10_lots ∈ xwl := xin4 (List.mem_of_getElem? (i := 149) (by decide +kernel)) rfl
theorem xw959 : Cond.instanceMethod yX10_lots ∈ xwl := xin4 (List.mem_of_getElem? (i := 150) (by decide +kernel)) rfl
theorem xw960 : Cond.selects RX10 yX10_lots yX10_lots ∈ xwl := xin4 (List.mem_of_getElem? (i := 151) (by decide +kernel)) rfl
theorem xw961 : Cond.code yX10_lots cX10_lots 6 (some .int) ∈ xwl := xin4 (List.mem_of_getElem? (i := 152) rfl) rfl
theorem xw962 : Cond.constant RX10 296 (2147483647) ∈ xwl := xin4 (List.mem_of_getElem? (i := 153) (by decide +kernel)) rfl
theorem xw963 : Cond.constantLong RX10 297 (48271) ∈ xwl := xin4 (List.mem_of_getElem? (i := 154) (by decide +kernel)) rfl
theorem xw964 : Cond.constantLong RX10 299 (2147483647) ∈ xwl := xin4 (List.mem_of_getElem? (i := 155) (by decide +kernel)) rfl
theorem xw965 : Cond.methodLink RX10 301 yX10_doLot ∈ xwl := xin4 (List.mem_of_getElem? (i := 156) (by decide +kernel)) rfl
theorem xw967 : Cond.instanceMethod yX10_doLot ∈ xwl := xin4 (List.mem_of_getElem? (i := 158) (by decide +kernel)) rfl
theorem xw968 : Cond.code yX10_doLot cX10_doLot 5 none ∈ xwl := xin4 (List.mem_of_getElem? (i := 159) rfl) rfl
theorem xw969 : Cond.methodLink RL 134 yX10_asked ∈ xwl := xin4 (List.mem_of_getElem? (i := 160) (by decide +kernel)) rfl
theorem xw970 : Cond.instanceMethod yX10_asked ∈ xwl := xin4 (List.mem_of_getElem? (i := 161) (by decide +kernel)) rfl
theorem xw971 : Cond.selects RX10 yX10_asked yX10_asked ∈ xwl := xin4 (List.mem_of_getElem? (i := 162) (by decide +kernel)) rfl
theorem xw972 : Cond.code yX10_asked cX10_asked 1 (some .int) ∈ xwl := xin4 (List.mem_of_getElem? (i := 163) rfl) rfl
theorem xw973 : Cond.methodLink RL 138 yX10_count ∈ xwl := xin4 (List.mem_of_getElem? (i := 164) (by decide +kernel)) rfl
theorem xw974 : Cond.instanceMethod yX10_count ∈ xwl := xin4 (List.mem_of_getElem? (i := 165) (by decide +kernel)) rfl
theorem xw975 : Cond.selects RX10 yX10_count yX10_count ∈ xwl := xin4 (List.mem_of_getElem? (i := 166) (by decide +kernel)) rfl
theorem xw976 : Cond.code yX10_count cX10_count 3 (some .int) ∈ xwl := xin4 (List.mem_of_getElem? (i := 167) rfl) rfl
theorem xw977 : Cond.methodLink RX10 310 yX10_placesTakenOnAllPages ∈ xwl := xin4 (List.mem_of_getElem? (i := 168) (by decide +kernel)) rfl
theorem xw979 : Cond.instanceMethod yX10_placesTakenOnAllPages ∈ xwl := xin4 (List.mem_of_getElem? (i := 170) (by decide +kernel)) rfl
theorem xw980 : Cond.code yX10_placesTakenOnAllPages cX10_placesTakenOnAllPages 4 (some .int) ∈ xwl := xin4 (List.mem_of_getElem? (i := 171) rfl) rfl
theorem xw981 : Cond.methodLink RX10 313 yX10_freeOnAllPages ∈ xwl := xin4 (List.mem_of_getElem? (i := 172) (by decide +kernel)) rfl
theorem xw983 : Cond.instanceMethod yX10_freeOnAllPages ∈ xwl := xin4 (List.mem_of_getElem? (i := 174) (by decide +kernel)) rfl
theorem xw984 : Cond.code yX10_freeOnAllPages cX10_freeOnAllPages 4 (some .int) ∈ xwl := xin4 (List.mem_of_getElem? (i := 175) rfl) rfl
theorem xw985 : Cond.methodLink RX10 316 yX1_framesTurned ∈ xwl := xin4 (List.mem_of_getElem? (i := 176) (by decide +kernel)) rfl
theorem xw986 : Cond.instanceMethod yX1_framesTurned ∈ xwl := xin4 (List.mem_of_getElem? (i := 177) (by decide +kernel)) rfl
theorem xw987 : Cond.selects RX1 yX1_framesTurned yX1_framesTurned ∈ xwl := xin4 (List.mem_of_getElem? (i := 178) (by decide +kernel)) rfl
theorem xw988 : Cond.code yX1_framesTurned cX1_framesTurned 3 (some .int) ∈ xwl := xin4 (List.mem_of_getElem? (i := 179) rfl) rfl
theorem xw989 : Cond.methodLink RX10 319 yX10_rowsThere ∈ xwl := xin4 (List.mem_of_getElem? (i := 180) (by decide +kernel)) rfl
theorem xw991 : Cond.instanceMethod yX10_rowsThere ∈ xwl := xin4 (List.mem_of_getElem? (i := 182) (by decide +kernel)) rfl
theorem xw992 : Cond.code yX10_rowsThere cX10_rowsThere 3 (some .int) ∈ xwl := xin4 (List.mem_of_getElem? (i := 183) rfl) rfl
theorem xw993 : Cond.methodLink RX10 322 yX10_textsThere ∈ xwl := xin4 (List.mem_of_getElem? (i := 184) (by decide +kernel)) rfl
theorem xw995 : Cond.instanceMethod yX10_textsThere ∈ xwl := xin4 (List.mem_of_getElem? (i := 186) (by decide +kernel)) rfl
theorem xw996 : Cond.code yX10_textsThere cX10_textsThere 3 (some .int) ∈ xwl := xin4 (List.mem_of_getElem? (i := 187) rfl) rfl
theorem xw997 : Cond.methodLink RX10 325 yX10_sheetsKept ∈ xwl := xin4 (List.mem_of_getElem? (i := 188) (by decide +kernel)) rfl
theorem xw999 : Cond.instanceMethod yX10_sheetsKept ∈ xwl := xin4 (List.mem_of_getElem? (i := 190) (by decide +kernel)) rfl
theorem xw1000 : Cond.code yX10_sheetsKept cX10_sheetsKept 3 (some .int) ∈ xwl := xin4 (List.mem_of_getElem? (i := 191) rfl) rfl
theorem xw1001 : Cond.methodLink RL 142 yX10_finding ∈ xwl := xin4 (List.mem_of_getElem? (i := 192) (by decide +kernel)) rfl
theorem xw1002 : Cond.instanceMethod yX10_finding ∈ xwl := xin4 (List.mem_of_getElem? (i := 193) (by decide +kernel)) rfl
theorem xw1003 : Cond.selects RX10 yX10_finding yX10_finding ∈ xwl := xin4 (List.mem_of_getElem? (i := 194) (by decide +kernel)) rfl
theorem xw1004 : Cond.code yX10_finding cX10_finding 1 (some .int) ∈ xwl := xin4 (List.mem_of_getElem? (i := 195) rfl) rfl
theorem xw1005 : Cond.methodLink RL 146 yX10_findings ∈ xwl := xin4 (List.mem_of_getElem? (i := 196) (by decide +kernel)) rfl
theorem xw1006 : Cond.instanceMethod yX10_findings ∈ xwl := xin4 (List.mem_of_getElem? (i := 197) (by decide +kernel)) rfl
theorem xw1007 : Cond.selects RX10 yX10_findings yX10_findings ∈ xwl := xin4 (List.mem_of_getElem? (i := 198) (by decide +kernel)) rfl
theorem xw1008 : Cond.code yX10_findings cX10_findings 2 (some .int) ∈ xwl := xin4 (List.mem_of_getElem? (i := 199) rfl) rfl
theorem xw1009 : Cond.methodLink RL 150 yX10_digest ∈ xwl := xin4 (List.mem_of_getElem? (i := 200) (by decide +kernel)) rfl
theorem xw1010 : Cond.instanceMethod yX10_digest ∈ xwl := xin4 (List.mem_of_getElem? (i := 201) (by decide +kernel)) rfl
theorem xw1011 : Cond.selects RX10 yX10_digest yX10_digest ∈ xwl := xin4 (List.mem_of_getElem? (i := 202) (by decide +kernel)) rfl
theorem xw1012 : Cond.code yX10_digest cX10_digest 5 (some .long) ∈ xwl := xin4 (List.mem_of_getElem? (i := 203) rfl) rfl
theorem xw1013 : Cond.constantLong RX10 328 (17) ∈ xwl := xin4 (List.mem_of_getElem? (i := 204) (by decide +kernel)) rfl
theorem xw1014 : Cond.constantLong RX10 330 (31) ∈ xwl := xin4 (List.mem_of_getElem? (i := 205) (by decide +kernel)) rfl
theorem xw1015 : Cond.methodLink RX10 332 yX10_count ∈ xwl := xin4 (List.mem_of_getElem? (i := 206) (by decide +kernel)) rfl
theorem xw1016 : Cond.methodLink RX10 335 yX10_withFrame ∈ xwl := xin4 (List.mem_of_getElem? (i := 207) (by decide +kernel)) rfl
theorem xw1018 : Cond.instanceMethod yX10_withFrame ∈ xwl := xin4 (List.mem_of_getElem? (i := 209) (by decide +kernel)) rfl
theorem xw1019 : Cond.code yX10_withFrame cX10_withFrame 7 (some .long) ∈ xwl := xin4 (List.mem_of_getElem? (i := 210) rfl) rfl
theorem xw1020 : Cond.classLink RL 10 RX11 ∈ xwl := xin4 (List.mem_of_getElem? (i := 211) (by decide +kernel)) rfl
theorem xw1021 : Cond.instantiable RX11 45 ∈ xwl := xin4 (List.mem_of_getElem? (i := 212) (by decide +kernel)) rfl
theorem xw1022 : Cond.methodLink RL 12 yX11_init ∈ xwl := xin4 (List.mem_of_getElem? (i := 213) (by decide +kernel)) rfl
theorem xw1023 : Cond.instanceMethod yX11_init ∈ xwl := xin4 (List.mem_of_getElem? (i := 214) (by decide +kernel)) rfl
theorem xw1024 : Cond.code yX11_init cX11_init 2 none ∈ xwl := xin4 (List.mem_of_getElem? (i := 215) rfl) rfl
theorem xw1025 : Cond.methodLink RX11 1 objectInit ∈ xwl := xin4 (List.mem_of_getElem? (i := 216) (by decide +kernel)) rfl
theorem xw1026 : Cond.fieldLink RX11 72 "FrameSheetsModel" "told" "I" ∈ xwl := xin4 (List.mem_of_getElem? (i := 217) (by decide +kernel)) rfl
theorem xw1027 : Cond.fieldLink RX11 68 "FrameSheetsModel" "latest" "I" ∈ xwl := xin4 (List.mem_of_getElem? (i := 218) (by decide +kernel)) rfl
theorem xw1028 : Cond.fieldLink RX11 7 "FrameSheetsModel" "came" "[I" ∈ xwl := xin4 (List.mem_of_getElem? (i := 219) (by decide +kernel)) rfl
theorem xw1029 : Cond.fieldLink RX11 13 "FrameSheetsModel" "sizes" "[I" ∈ xwl := xin4 (List.mem_of_getElem? (i := 220) (by decide +kernel)) rfl
theorem xw1030 : Cond.fieldLink RX11 16 "FrameSheetsModel" "rows" "[I" ∈ xwl := xin4 (List.mem_of_getElem? (i := 221) (by decide +kernel)) rfl
theorem xw1031 : Cond.fieldLink RX11 19 "FrameSheetsModel" "copied" "[I" ∈ xwl := xin4 (List.mem_of_getElem? (i := 222) (by decide +kernel)) rfl
theorem xw1032 : Cond.fieldLink RX11 22 "FrameSheetsModel" "textSizes" "[I" ∈ xwl := xin4 (List.mem_of_getElem? (i := 223) (by decide +kernel)) rfl
theorem xw1033 : Cond.fieldLink RX11 25 "FrameSheetsModel" "bytes" "[B" ∈ xwl := xin4 (List.mem_of_getElem? (i := 224) (by decide +kernel)) rfl
theorem xw1034 : Cond.fieldLink RX11 170 "FrameSheetsModel" "wide" "I" ∈ xwl := xin4 (List.mem_of_getElem? (i := 225) (by decide +kernel)) rfl
theorem xw1035 : Cond.fieldLink RX11 173 "FrameSheetsModel" "high" "I" ∈ xwl := xin4 (List.mem_of_getElem? (i := 226) (by decide +kernel)) rfl
theorem xw1036 : Cond.fieldLink RX11 176 "FrameSheetsModel" "bleed" "I" ∈ xwl := xin4 (List.mem_of_getElem? (i := 227) (by decide +kernel)) rfl
theorem xw1037 : Cond.fieldLink RX11 179 "FrameSheetsModel" "frameMany" "I" ∈ xwl := xin4 (List.mem_of_getElem? (i := 228) (by decide +kernel)) rfl
theorem xw1038 : Cond.fieldLink RX11 29 "FrameSheetsModel" "given" "[I" ∈ xwl := xin4 (List.mem_of_getElem? (i := 229) (by decide +kernel)) rfl
theorem xw1039 : Cond.fieldLink RX11 97 "FrameSheetsModel" "readAt" "I" ∈ xwl := xin4 (List.mem_of_getElem? (i := 230) (by decide +kernel)) rfl
theorem xw1040 : Cond.fieldLink RX11 107 "FrameSheetsModel" "tokenAt" "I" ∈ xwl := xin4 (List.mem_of_getElem? (i := 231) (by decide +kernel)) rfl
theorem xw1041 : Cond.fieldLink RX11 110 "FrameSheetsModel" "token" "I" ∈ xwl := xin4 (List.mem_of_getElem? (i := 232) (by decide +kernel)) rfl
theorem xw1042 : Cond.fieldLink RX11 119 "FrameSheetsModel" "value" "I" ∈ xwl := xin4 (List.mem_of_getElem? (i := 233) (by decide +kernel)) rfl
theorem xw1043 : Cond.fieldLink RX11 122 "FrameSheetsModel" "faultAt" "I" ∈ xwl := xin4 (List.mem_of_getElem? (i := 234) (by decide +kernel)) rfl
theorem xw1044 : Cond.fieldLink RX11 135 "FrameSheetsModel" "readWide" "I" ∈ xwl := xin4 (List.mem_of_getElem? (i := 235) (by decide +kernel)) rfl
theorem xw1045 : Cond.fieldLink RX11 138 "FrameSheetsModel" "readHigh" "I" ∈ xwl := xin4 (List.mem_of_getElem? (i := 236) (by decide +kernel)) rfl
theorem xw1046 : Cond.fieldLink RX11 144 "FrameSheetsModel" "readBleed" "I" ∈ xwl := xin4 (List.mem_of_getElem? (i := 237) (by decide +kernel)) rfl
theorem xw1047 : Cond.fieldLink RX11 147 "FrameSheetsModel" "readMany" "I" ∈ xwl := xin4 (List.mem_of_getElem? (i := 238) (by decide +kernel)) rfl
theorem xw1048 : Cond.fieldLink RX11 32 "FrameSheetsModel" "read" "[I" ∈ xwl := xin4 (List.mem_of_getElem? (i := 239) (by decide +kernel)) rfl
theorem xw1049 : Cond.fieldLink RX11 35 "FrameSheetsModel" "now" "[I" ∈ xwl := xin5 (List.mem_of_getElem? (i := 0) (by decide +kernel)) rfl
theorem xw1050 : Cond.fieldLink RX11 188 "FrameSheetsModel" "outMany" "I" ∈ xwl := xin5 (List.mem_of_getElem? (i := 1) (by decide +kernel)) rfl
theorem xw1051 : Cond.fieldLink RX11 38 "FrameSheetsModel" "out" "[B" ∈ xwl := xin5 (List.mem_of_getElem? (i := 2) (by decide +kernel)) rfl
theorem xw1052 : Cond.fieldLink RX11 41 "FrameSheetsModel" "grid" "[I" ∈ xwl := xin5 (List.mem_of_getElem? (i := 3) (by decide +kernel)) rfl
theorem xw1053 : Cond.fieldLink RX11 242 "FrameSheetsModel" "freeMany" "I" ∈ xwl := xin5 (List.mem_of_getElem? (i := 4) (by decide +kernel)) rfl
theorem xw1054 : Cond.fieldLink RX11 44 "FrameSheetsModel" "freeX" "[I" ∈ xwl := xin5 (List.mem_of_getElem? (i := 5) (by decide +kernel)) rfl
theorem xw1055 : Cond.fieldLink RX11 47 "FrameSheetsModel" "freeY" "[I" ∈ xwl := xin5 (List.mem_of_getElem? (i := 6) (by decide +kernel)) rfl
theorem xw1056 : Cond.fieldLink RX11 50 "FrameSheetsModel" "freeW" "[I" ∈ xwl := xin5 (List.mem_of_getElem? (i := 7) (by decide +kernel)) rfl
theorem xw1057 : Cond.fieldLink RX11 53 "FrameSheetsModel" "freeH" "[I" ∈ xwl := xin5 (List.mem_of_getElem? (i := 8) (by decide +kernel)) rfl
theorem xw1058 : Cond.fieldLink RX11 248 "FrameSheetsModel" "bestAt" "I" ∈ xwl := xin5 (List.mem_of_getElem? (i := 9) (by decide +kernel)) rfl
theorem xw1059 : Cond.fieldLink RX11 267 "FrameSheetsModel" "bestTurned" "I" ∈ xwl := xin5 (List.mem_of_getElem? (i := 10) (by decide +kernel)) rfl
theorem xw1060 : Cond.fieldLink RX11 261 "FrameSheetsModel" "bestFirst" "I" ∈ xwl := xin5 (List.mem_of_getElem? (i := 11) (by decide +kernel)) rfl
theorem xw1061 : Cond.fieldLink RX11 264 "FrameSheetsModel" "bestSecond" "I" ∈ xwl := xin5 (List.mem_of_getElem? (i := 12) (by decide +kernel)) rfl
theorem xw1062 : Cond.fieldLink RX11 185 "FrameSheetsModel" "deedMany" "I" ∈ xwl := xin5 (List.mem_of_getElem? (i := 13) (by decide +kernel)) rfl
theorem xw1063 : Cond.fieldLink RX11 56 "FrameSheetsModel" "log" "[I" ∈ xwl := xin5 (List.mem_of_getElem? (i := 14) (by decide +kernel)) rfl
theorem xw1064 : Cond.fieldLink RX11 59 "FrameSheetsModel" "keptMany" "[I" ∈ xwl := xin5 (List.mem_of_getElem? (i := 15) (by decide +kernel)) rfl
theorem xw1065 : Cond.fieldLink RX11 62 "FrameSheetsModel" "kept" "[I" ∈ xwl := xin5 (List.mem_of_getElem? (i := 16) (by decide +kernel)) rfl
theorem xw1066 : Cond.fieldLink RX11 65 "FrameSheetsModel" "aside" "[I" ∈ xwl := xin5 (List.mem_of_getElem? (i := 17) (by decide +kernel)) rfl
theorem xw1067 : Cond.fieldLink RX11 317 "FrameSheetsModel" "wouldPages" "I" ∈ xwl := xin5 (List.mem_of_getElem? (i := 18) (by decide +kernel)) rfl
theorem xw1068 : Cond.fieldLink RX11 320 "FrameSheetsModel" "wouldMissing" "I" ∈ xwl := xin5 (List.mem_of_getElem? (i := 19) (by decide +kernel)) rfl
theorem xw1069 : Cond.fieldLink RX11 323 "FrameSheetsModel" "wouldLast" "I" ∈ xwl := xin5 (List.mem_of_getElem? (i := 20) (by decide +kernel)) rfl
theorem xw1070 : Cond.fieldLink RX11 357 "FrameSheetsModel" "h" "J" ∈ xwl := xin5 (List.mem_of_getElem? (i := 21) (by decide +kernel)) rfl
theorem xw1071 : Cond.lays RX11 "FrameSheetsModel" "told" "I" ∈ xwl := xin5 (List.mem_of_getElem? (i := 22) (by decide +kernel)) rfl
theorem xw1073 : Cond.lays RX11 "FrameSheetsModel" "latest" "I" ∈ xwl := xin5 (List.mem_of_getElem? (i := 24) (by decide +kernel)) rfl
theorem xw1075 : Cond.laysFinal RX11 "FrameSheetsModel" "came" "[I" ∈ xwl := xin5 (List.mem_of_getElem? (i := 26) (by decide +kernel)) rfl
theorem xw1077 : Cond.laysFinal RX11 "FrameSheetsModel" "sizes" "[I" ∈ xwl := xin5 (List.mem_of_getElem? (i := 28) (by decide +kernel)) rfl
theorem xw1079 : Cond.laysFinal RX11 "FrameSheetsModel" "rows" "[I" ∈ xwl := xin5 (List.mem_of_getElem? (i := 30) (by decide +kernel)) rfl
theorem xw1081 : Cond.laysFinal RX11 "FrameSheetsModel" "copied" "[I" ∈ xwl := xin5 (List.mem_of_getElem? (i := 32) (by decide +kernel)) rfl
theorem xw1083 : Cond.laysFinal RX11 "FrameSheetsModel" "textSizes" "[I" ∈ xwl := xin5 (List.mem_of_getElem? (i := 34) (by decide +kernel)) rfl
theorem xw1085 : Cond.laysFinal RX11 "FrameSheetsModel" "bytes" "[B" ∈ xwl := xin5 (List.mem_of_getElem? (i := 36) (by decide +kernel)) rfl
theorem xw1087 : Cond.lays RX11 "FrameSheetsModel" "wide" "I" ∈ xwl := xin5 (List.mem_of_getElem? (i := 38) (by decide +kernel)) rfl
theorem xw1089 : Cond.lays RX11 "FrameSheetsModel" "high" "I" ∈ xwl := xin5 (List.mem_of_getElem? (i := 40) (by decide +kernel)) rfl
theorem xw1091 : Cond.lays RX11 "FrameSheetsModel" "bleed" "I" ∈ xwl := xin5 (List.mem_of_getElem? (i := 42) (by decide +kernel)) rfl
theorem xw1093 : Cond.lays RX11 "FrameSheetsModel" "frameMany" "I" ∈ xwl := xin5 (List.mem_of_getElem? (i := 44) (by decide +kernel)) rfl
theorem xw1095 : Cond.laysFinal RX11 "FrameSheetsModel" "given" "[I" ∈ xwl := xin5 (List.mem_of_getElem? (i := 46) (by decide +kernel)) rfl
theorem xw1097 : Cond.lays RX11 "FrameSheetsModel" "readAt" "I" ∈ xwl := xin5 (List.mem_of_getElem? (i := 48) (by decide +kernel)) rfl
theorem xw1099 : Cond.lays RX11 "FrameSheetsModel" "tokenAt" "I" ∈ xwl := xin5 (List.mem_of_getElem? (i := 50) (by decide +kernel)) rfl
theorem xw1101 : Cond.lays RX11 "FrameSheetsModel" "token" "I" ∈ xwl := xin5 (List.mem_of_getElem? (i := 52) (by decide +kernel)) rfl
theorem xw1103 : Cond.lays RX11 "FrameSheetsModel" "value" "I" ∈ xwl := xin5 (List.mem_of_getElem? (i := 54) (by decide +kernel)) rfl
theorem xw1105 : Cond.lays RX11 "FrameSheetsModel" "faultAt" "I" ∈ xwl := xin5 (List.mem_of_getElem? (i := 56) (by decide +kernel)) rfl
theorem xw1107 : Cond.lays RX11 "FrameSheetsModel" "readWide" "I" ∈ xwl := xin5 (List.mem_of_getElem? (i := 58) (by decide +kernel)) rfl
theorem xw1109 : Cond.lays RX11 "FrameSheetsModel" "readHigh" "I" ∈ xwl := xin5 (List.mem_of_getElem? (i := 60) (by decide +kernel)) rfl
theorem xw1111 : Cond.lays RX11 "FrameSheetsModel" "readBleed" "I" ∈ xwl := xin5 (List.mem_of_getElem? (i := 62) (by decide +kernel)) rfl
theorem xw1113 : Cond.lays RX11 "FrameSheetsModel" "readMany" "I" ∈ xwl := xin5 (List.mem_of_getElem? (i := 64) (by decide +kernel)) rfl
theorem xw1115 : Cond.laysFinal RX11 "FrameSheetsModel" "read" "[I" ∈ xwl := xin5 (List.mem_of_getElem? (i := 66) (by decide +kernel)) rfl
theorem xw1117 : Cond.laysFinal RX11 "FrameSheetsModel" "now" "[I" ∈ xwl := xin5 (List.mem_of_getElem? (i := 68) (by decide +kernel)) rfl
theorem xw1119 : Cond.lays RX11 "FrameSheetsModel" "outMany" "I" ∈ xwl := xin5 (List.mem_of_getElem? (i := 70) (by decide +kernel)) rfl
theorem xw1121 : Cond.laysFinal RX11 "FrameSheetsModel" "out" "[B" ∈ xwl := xin5 (List.mem_of_getElem? (i := 72) (by decide +kernel)) rfl
theorem xw1123 : Cond.laysFinal RX11 "FrameSheetsModel" "grid" "[I" ∈ xwl := xin5 (List.mem_of_getElem? (i := 74) (by decide +kernel)) rfl
theorem xw1125 : Cond.lays RX11 "FrameSheetsModel" "freeMany" "I" ∈ xwl := xin5 (List.mem_of_getElem? (i := 76) (by decide +kernel)) rfl
theorem xw1127 : Cond.laysFinal RX11 "FrameSheetsModel" "freeX" "[I" ∈ xwl := xin5 (List.mem_of_getElem? (i := 78) (by decide +kernel)) rfl
theorem xw1129 : Cond.laysFinal RX11 "FrameSheetsModel" "freeY" "[I" ∈ xwl := xin5 (List.mem_of_getElem? (i := 80) (by decide +kernel)) rfl
theorem xw1131 : Cond.laysFinal RX11 "FrameSheetsModel" "freeW" "[I" ∈ xwl := xin5 (List.mem_of_getElem? (i := 82) (by decide +kernel)) rfl
theorem xw1133 : Cond.laysFinal RX11 "FrameSheetsModel" "freeH" "[I" ∈ xwl := xin5 (List.mem_of_getElem? (i := 84) (by decide +kernel)) rfl
theorem xw1135 : Cond.lays RX11 "FrameSheetsModel" "bestAt" "I" ∈ xwl := xin5 (List.mem_of_getElem? (i := 86) (by decide +kernel)) rfl
theorem xw1137 : Cond.lays RX11 "FrameSheetsModel" "bestTurned" "I" ∈ xwl := xin5 (List.mem_of_getElem? (i := 88) (by decide +kernel)) rfl
theorem xw1139 : Cond.lays RX11 "FrameSheetsModel" "bestFirst" "I" ∈ xwl := xin5 (List.mem_of_getElem? (i := 90) (by decide +kernel)) rfl
theorem xw1141 : Cond.lays RX11 "FrameSheetsModel" "bestSecond" "I" ∈ xwl := xin5 (List.mem_of_getElem? (i := 92) (by decide +kernel)) rfl
theorem xw1143 : Cond.lays RX11 "FrameSheetsModel" "deedMany" "I" ∈ xwl := xin5 (List.mem_of_getElem? (i := 94) (by decide +kernel)) rfl
theorem xw1145 : Cond.laysFinal RX11 "FrameSheetsModel" "log" "[I" ∈ xwl := xin5 (List.mem_of_getElem? (i := 96) (by decide +kernel)) rfl
theorem xw1147 : Cond.laysFinal RX11 "FrameSheetsModel" "keptMany" "[I" ∈ xwl := xin5 (List.mem_of_getElem? (i := 98) (by decide +kernel)) rfl
theorem xw1149 : Cond.laysFinal RX11 "FrameSheetsModel" "kept" "[I" ∈ xwl := xin5 (List.mem_of_getElem? (i := 100) (by decide +kernel)) rfl
theorem xw1151 : Cond.laysFinal RX11 "FrameSheetsModel" "aside" "[I" ∈ xwl := xin5 (List.mem_of_getElem? (i := 102) (by decide +kernel)) rfl
theorem xw1153 : Cond.lays RX11 "FrameSheetsModel" "wouldPages" "I" ∈ xwl := xin5 (List.mem_of_getElem? (i := 104) (by decide +kernel)) rfl
theorem xw1155 : Cond.lays RX11 "FrameSheetsModel" "wouldMissing" "I" ∈ xwl := xin5 (List.mem_of_getElem? (i := 106) (by decide +kernel)) rfl
theorem xw1157 : Cond.lays RX11 "FrameSheetsModel" "wouldLast" "I" ∈ xwl := xin5 (List.mem_of_getElem? (i := 108) (by decide +kernel)) rfl
theorem xw1159 : Cond.lays RX11 "FrameSheetsModel" "h" "J" ∈ xwl := xin5 (List.mem_of_getElem? (i := 110) (by decide +kernel)) rfl
theorem xw1162 : Cond.methodLink RL 137 yX11_asked ∈ xwl := xin5 (List.mem_of_getElem? (i := 113) (by decide +kernel)) rfl
theorem xw1163 : Cond.instanceMethod yX11_asked ∈ xwl := xin5 (List.mem_of_getElem? (i := 114) (by decide +kernel)) rfl
theorem xw1164 : Cond.selects RX11 yX11_asked yX11_asked ∈ xwl := xin5 (List.mem_of_getElem? (i := 115) (by decide +kernel)) rfl
theorem xw1165 : Cond.code yX11_asked cX11_asked 1 (some .int) ∈ xwl := xin5 (List.mem_of_getElem? (i := 116) rfl) rfl
theorem xw1166 : Cond.methodLink RL 145 yX11_finding ∈ xwl := xin5 (List.mem_of_getElem? (i := 117) (by decide +kernel)) rfl
theorem xw1167 : Cond.instanceMethod yX11_finding ∈ xwl := xin5 (List.mem_of_getElem? (i := 118) (by decide +kernel)) rfl
theorem xw1168 : Cond.selects RX11 yX11_finding yX11_finding ∈ xwl := xin5 (List.mem_of_getElem? (i := 119) (by decide +kernel)) rfl
theorem xw1169 : Cond.code yX11_finding cX11_finding 1 (some .int) ∈ xwl := xin5 (List.mem_of_getElem? (i := 120) rfl) rfl
theorem xw1170 : Cond.methodLink RL 149 yX11_findings ∈ xwl := xin5 (List.mem_of_getElem? (i := 121) (by decide +kernel)) rfl
theorem xw1171 : Cond.instanceMethod yX11_findings ∈ xwl := xin5 (List.mem_of_getElem? (i := 122) (by decide +kernel)) rfl
theorem xw1172 : Cond.selects RX11 yX11_findings yX11_findings ∈ xwl := xin5 (List.mem_of_getElem? (i := 123) (by decide +kernel)) rfl
theorem xw1173 : Cond.code yX11_findings cX11_findings 2 (some .int) ∈ xwl := xin5 (List.mem_of_getElem? (i := 124) rfl) rfl
theorem xw1174 : Cond.methodLink RX11 75 yX11_in ∈ xwl := xin5 (List.mem_of_getElem? (i := 125) (by decide +kernel)) rfl
theorem xw1175 : Cond.static yX11_in ∈ xwl := xin5 (List.mem_of_getElem? (i := 126) (by decide +kernel)) rfl
theorem xw1176 : Cond.code yX11_in cX11_in 3 (some .boolean) ∈ xwl := xin5 (List.mem_of_getElem? (i := 127) rfl) rfl
theorem xw1177 : Cond.methodLink RL 17 yX11_row ∈ xwl := xin5 (List.mem_of_getElem? (i := 128) (by decide +kernel)) rfl
theorem xw1178 : Cond.instanceMethod yX11_row ∈ xwl := xin5 (List.mem_of_getElem? (i := 129) (by decide +kernel)) rfl
theorem xw1179 : Cond.selects RX11 yX11_row yX11_row ∈ xwl := xin5 (List.mem_of_getElem? (i := 130) (by decide +kernel)) rfl
theorem xw1180 : Cond.code yX11_row cX11_row 4 (some .int) ∈ xwl := xin5 (List.mem_of_getElem? (i := 131) rfl) rfl
theorem xw1181 : Cond.methodLink RX11 79 yX11_isRow ∈ xwl := xin5 (List.mem_of_getElem? (i := 132) (by decide +kernel)) rfl
theorem xw1182 : Cond.static yX11_isRow ∈ xwl := xin5 (List.mem_of_getElem? (i := 133) (by decide +kernel)) rfl
theorem xw1183 : Cond.code yX11_isRow cX11_isRow 1 (some .boolean) ∈ xwl := xin5 (List.mem_of_getElem? (i := 134) rfl) rfl
theorem xw1184 : Cond.methodLink RX11 83 yX11_found ∈ xwl := xin5 (List.mem_of_getElem? (i := 135) (by decide +kernel)) rfl
theorem xw1186 : Cond.instanceMethod yX11_found ∈ xwl := xin5 (List.mem_of_getElem? (i := 137) (by decide +kernel)) rfl
theorem xw1187 : Cond.code yX11_found cX11_found 2 (some .int) ∈ xwl := xin5 (List.mem_of_getElem? (i := 138) rfl) rfl
theorem xw1188 : Cond.methodLink RL 22 yX11_lay ∈ xwl := xin5 (List.mem_of_getElem? (i := 139) (by decide +kernel)) rfl
theorem xw1189 : Cond.instanceMethod yX11_lay ∈ xwl := xin5 (List.mem_of_getElem? (i := 140) (by decide +kernel)) rfl
theorem xw1190 : Cond.selects RX11 yX11_lay yX11_lay ∈ xwl := xin5 (List.mem_of_getElem? (i := 141) (by decide +kernel)) rfl
theorem xw1191 : Cond.code yX11_lay cX11_lay 5 (some .int) ∈ xwl := xin5 (List.mem_of_getElem? (i := 142) rfl) rfl
theorem xw1192 : Cond.methodLink RX11 87 yX11_rowAt ∈ xwl := xin5 (List.mem_of_getElem? (i := 143) (by decide +kernel)) rfl
theorem xw1194 : Cond.instanceMethod yX11_rowAt ∈ xwl := xin5 (List.mem_of_getElem? (i := 145) (by decide +kernel)) rfl
theorem xw1195 : Cond.code yX11_rowAt cX11_rowAt 3 (some .int) ∈ xwl := xin5 (List.mem_of_getElem? (i := 146) rfl) rfl
theorem xw1196 : Cond.methodLink RX11 91 yX11_tells ∈ xwl := xin5 (List.mem_of_getElem? (i := 147) (by decide +kernel)) rfl
theorem xw1198 : Cond.instanceMethod yX11_tells ∈ xwl := xin5 (List.mem_of_getElem? (i := 149) (by decide +kernel)) rfl
theorem xw1199 : Cond.code yX11_tells cX11_tells 3 (some .int) ∈ xwl := xin5 (List.mem_of_getElem? (i := 150) rfl) rfl
theorem xw1200 : Cond.methodLink RL 26 yX11_at ∈ xwl := xin5 (List.mem_of_getElem? (i := 151) (by decide +kernel)) rfl
theorem xw1201 : Cond.instanceMethod yX11_at ∈ xwl := xin5 (List.mem_of_getElem? (i := 152) (by decide +kernel)) rfl
theorem xw1202 : Cond.selects RX11 yX11_at yX11_at ∈ xwl := xin5 (List.mem_of_getElem? (i := 153) (by decide +kernel)) rfl
theorem xw1203 : Cond.code yX11_at cX11_at 3 (some .int) ∈ xwl := xin5 (List.mem_of_getElem? (i := 154) rfl) rfl
theorem xw1204 : Cond.methodLink RL 31 yX11_tear ∈ xwl := xin5 (List.mem_of_getElem? (i := 155) (by decide +kernel)) rfl
theorem xw1205 : Cond.instanceMethod yX11_tear ∈ xwl := xin5 (List.mem_of_getElem? (i := 156) (by decide +kernel)) rfl
theorem xw1206 : Cond.selects RX11 yX11_tear yX11_tear ∈ xwl := xin5 (List.mem_of_getElem? (i := 157) (by decide +kernel)) rfl
theorem xw1207 : Cond.code yX11_tear cX11_tear 2 (some .int) ∈ xwl := xin5 (List.mem_of_getElem? (i := 158) rfl) rfl
theorem xw1208 : Cond.methodLink RL 36 yX11_copy ∈ xwl := xin5 (List.mem_of_getElem? (i := 159) (by decide +kernel)) rfl
theorem xw1209 : Cond.instanceMethod yX11_copy ∈ xwl := xin5 (List.mem_of_getElem? (i := 160) (by decide +kernel)) rfl
theorem xw1210 : Cond.selects RX11 yX11_copy yX11_copy ∈ xwl := xin5 (List.mem_of_getElem? (i := 161) (by decide +kernel)) rfl
theorem xw1211 : Cond.code yX11_copy cX11_copy 7 (some .int) ∈ xwl := xin5 (List.mem_of_getElem? (i := 162) rfl) rfl
theorem xw1212 : Cond.methodLink RL 40 yX11_mean ∈ xwl := xin5 (List.mem_of_getElem? (i := 163) (by decide +kernel)) rfl
theorem xw1213 : Cond.instanceMethod yX11_mean ∈ xwl := xin5 (List.mem_of_getElem? (i := 164) (by decide +kernel)) rfl
theorem xw1214 : Cond.selects RX11 yX11_mean yX11_mean ∈ xwl := xin5 (List.mem_of_getElem? (i := 165) (by decide +kernel)) rfl
theorem xw1215 : Cond.code yX11_mean cX11_mean 5 (some .int) ∈ xwl := xin5 (List.mem_of_getElem? (i := 166) rfl) rfl
theorem xw1216 : Cond.methodLink RL 44 yX11_text ∈ xwl := xin5 (List.mem_of_getElem? (i := 167) (by decide +kernel)) rfl
theorem xw1217 : Cond.instanceMethod yX11_text ∈ xwl := xin5 (List.mem_of_getElem? (i := 168) (by decide +kernel)) rfl
theorem xw1218 : Cond.selects RX11 yX11_text yX11_text ∈ xwl := xin5 (List.mem_of_getElem? (i := 169) (by decide +kernel)) rfl
theorem xw1219 : Cond.code yX11_text cX11_text 4 (some .int) ∈ xwl := xin5 (List.mem_of_getElem? (i := 170) rfl) rfl
theorem xw1220 : Cond.methodLink RX11 94 yX11_isText ∈ xwl := xin5 (List.mem_of_getElem? (i := 171) (by decide +kernel)) rfl
theorem xw1221 : Cond.static yX11_isText ∈ xwl := xin5 (List.mem_of_getElem? (i := 172) (by decide +kernel)) rfl
theorem xw1222 : Cond.code yX11_isText cX11_isText 1 (some .boolean) ∈ xwl := xin5 (List.mem_of_getElem? (i := 173) rfl) rfl
theorem xw1223 : Cond.methodLink RL 48 yX11_put ∈ xwl := xin5 (List.mem_of_getElem? (i := 174) (by decide +kernel)) rfl
theorem xw1224 : Cond.instanceMethod yX11_put ∈ xwl := xin5 (List.mem_of_getElem? (i := 175) (by decide +kernel)) rfl
theorem xw1225 : Cond.selects RX11 yX11_put yX11_put ∈ xwl := xin5 (List.mem_of_getElem? (i := 176) (by decide +kernel)) rfl
theorem xw1226 : Cond.code yX11_put cX11_put 5 (some .int) ∈ xwl := xin5 (List.mem_of_getElem? (i := 177) rfl) rfl
theorem xw1227 : Cond.methodLink RL 52 yX11_fault ∈ xwl := xin5 (List.mem_of_getElem? (i := 178) (by decide +kernel)) rfl
theorem xw1228 : Cond.instanceMethod yX11_fault ∈ xwl := xin5 (List.mem_of_getElem? (i := 179) (by decide +kernel)) rfl
theorem xw1229 : Cond.selects RX11 yX11_fault yX11_fault ∈ xwl := xin5 (List.mem_of_getElem? (i := 180) (by decide +kernel)) rfl
theorem xw1230 : Cond.code yX11_fault cX11_fault 2 (some .int) ∈ xwl := xin5 (List.mem_of_getElem? (i := 181) rfl) rfl
theorem xw1231 : Cond.methodLink RX11 167 yX11_faultOf ∈ xwl := xin5 (List.mem_of_getElem? (i := 182) (by decide +kernel)) rfl
theorem xw1233 : Cond.instanceMethod yX11_faultOf ∈ xwl := xin5 (List.mem_of_getElem? (i := 184) (by decide +kernel)) rfl
theorem xw1234 : Cond.code yX11_faultOf cX11_faultOf 2 (some .int) ∈ xwl := xin5 (List.mem_of_getElem? (i := 185) rfl) rfl
theorem xw1235 : Cond.methodLink RX11 103 yX11_blanks ∈ xwl := xin5 (List.mem_of_getElem? (i := 186) (by decide +kernel)) rfl
theorem xw1237 : Cond.instanceMethod yX11_blanks ∈ xwl := xin5 (List.mem_of_getElem? (i := 188) (by decide +kernel)) rfl
theorem xw1238 : Cond.code yX11_blanks cX11_blanks 2 none ∈ xwl := xin5 (List.mem_of_getElem? (i := 189) rfl) rfl
theorem xw1239 : Cond.methodLink RX11 100 yX11_byteAt ∈ xwl := xin5 (List.mem_of_getElem? (i := 190) (by decide +kernel)) rfl
theorem xw1241 : Cond.instanceMethod yX11_byteAt ∈ xwl := xin5 (List.mem_of_getElem? (i := 192) (by decide +kernel)) rfl
theorem xw1242 : Cond.code yX11_byteAt cX11_byteAt 3 (some .int) ∈ xwl := xin5 (List.mem_of_getElem? (i := 193) rfl) rfl
theorem xw1243 : Cond.methodLink RX11 164 yX11_readsOne ∈ xwl := xin5 (List.mem_of_getElem? (i := 194) (by decide +kernel)) rfl
theorem xw1245 : Cond.instanceMethod yX11_readsOne ∈ xwl := xin5 (List.mem_of_getElem? (i := 196) (by decide +kernel)) rfl
theorem xw1246 : Cond.code yX11_readsOne cX11_readsOne 3 (some .boolean) ∈ xwl := xin5 (List.mem_of_getElem? (i := 197) rfl) rfl
theorem xw1247 : Cond.methodLink RX11 125 yX11_next ∈ xwl := xin5 (List.mem_of_getElem? (i := 198) (by decide +kernel)) rfl
theorem xw1249 : Cond.instanceMethod yX11_next ∈ xwl := xin5 (List.mem_of_getElem? (i := 200) (by decide +kernel)) rfl
theorem xw1250 : Cond.code yX11_next cX11_next 2 none ∈ xwl := xin5 (List.mem_of_getElem? (i := 201) rfl) rfl
theorem xw1251 : Cond.methodLink RX11 113 yX11_isLetter ∈ xwl := xin5 (List.mem_of_getElem? (i := 202) (by decide +kernel)) rfl
theorem xw1253 : Cond.instanceMethod yX11_isLetter ∈ xwl := xin5 (List.mem_of_getElem? (i := 204) (by decide +kernel)) rfl
theorem xw1254 : Cond.code yX11_isLetter cX11_isLetter 2 (some .boolean) ∈ xwl := xin5 (List.mem_of_getElem? (i := 205) rfl) rfl
theorem xw1255 : Cond.methodLink RX11 116 yX11_isFigure ∈ xwl := xin5 (List.mem_of_getElem? (i := 206) (by decide +kernel)) rfl
theorem xw1257 : Cond.instanceMethod yX11_isFigure ∈ xwl := xin5 (List.mem_of_getElem? (i := 208) (by decide +kernel)) rfl
theorem xw1258 : Cond.code yX11_isFigure cX11_isFigure 2 (some .boolean) ∈ xwl := xin5 (List.mem_of_getElem? (i := 209) rfl) rfl
theorem xw1259 : Cond.methodLink RX11 150 yX11_word ∈ xwl := xin5 (List.mem_of_getElem? (i := 210) (by decide +kernel)) rfl
theorem xw1261 : Cond.instanceMethod yX11_word ∈ xwl := xin5 (List.mem_of_getElem? (i := 212) (by decide +kernel)) rfl
theorem xw1262 : Cond.code yX11_word cX11_word 4 (some .int) ∈ xwl := xin5 (List.mem_of_getElem? (i := 213) rfl) rfl
theorem xw1263 : Cond.constant RX11 153 (315851) ∈ xwl := xin5 (List.mem_of_getElem? (i := 214) (by decide +kernel)) rfl
theorem xw1264 : Cond.methodLink RX11 128 yX11_fails ∈ xwl := xin5 (List.mem_of_getElem? (i := 215) (by decide +kernel)) rfl
theorem xw1266 : Cond.instanceMethod yX11_fails ∈ xwl := xin5 (List.mem_of_getElem? (i := 217) (by decide +kernel)) rfl
theorem xw1267 : Cond.code yX11_fails cX11_fails 1 (some .boolean) ∈ xwl := xin5 (List.mem_of_getElem? (i := 218) rfl) rfl
theorem xw1268 : Cond.methodLink RX11 154 yX11_readsPage ∈ xwl := xin5 (List.mem_of_getElem? (i := 219) (by decide +kernel)) rfl
theorem xw1270 : Cond.instanceMethod yX11_readsPage ∈ xwl := xin5 (List.mem_of_getElem? (i := 221) (by decide +kernel)) rfl
theorem xw1271 : Cond.code yX11_readsPage cX11_readsPage 2 (some .boolean) ∈ xwl := xin5 (List.mem_of_getElem? (i := 222) rfl) rfl
theorem xw1272 : Cond.methodLink RX11 132 yX11_number ∈ xwl := xin5 (List.mem_of_getElem? (i := 223) (by decide +kernel)) rfl
theorem xw1274 : Cond.instanceMethod yX11_number ∈ xwl := xin5 (List.mem_of_getElem? (i := 225) (by decide +kernel)) rfl
theorem xw1275 : Cond.code yX11_number cX11_number 4 (some .boolean) ∈ xwl := xin5 (List.mem_of_getElem? (i := 226) rfl) rfl
theorem xw1276 : Cond.methodLink RX11 141 yX11_ends ∈ xwl := xin5 (List.mem_of_getElem? (i := 227) (by decide +kernel)) rfl
theorem xw1278 : Cond.instanceMethod yX11_ends ∈ xwl := xin5 (List.mem_of_getElem? (i := 229) (by decide +kernel)) rfl
theorem xw1279 : Cond.code yX11_ends cX11_ends 2 (some .boolean) ∈ xwl := xin5 (List.mem_of_getElem? (i := 230) rfl) rfl
theorem xw1280 : Cond.methodLink RX11 157 yX11_readsBleed ∈ xwl := xin5 (List.mem_of_getElem? (i := 231) (by decide +kernel)) rfl
theorem xw1282 : Cond.instanceMethod yX11_readsBleed ∈ xwl := xin5 (List.mem_of_getElem? (i := 233) (by decide +kernel)) rfl
theorem xw1283 : Cond.code yX11_readsBleed cX11_readsBleed 2 (some .boolean) ∈ xwl := xin5 (List.mem_of_getElem? (i := 234) rfl) rfl
theorem xw1284 : Cond.methodLink RX11 160 yX11_readsFrame ∈ xwl := xin5 (List.mem_of_getElem? (i := 235) (by decide +kernel)) rfl
theorem xw1286 : Cond.instanceMethod yX11_readsFrame ∈ xwl := xin5 (List.mem_of_getElem? (i := 237) (by decide +kernel)) rfl
theorem xw1287 : Cond.code yX11_readsFrame cX11_readsFrame 5 (some .boolean) ∈ xwl := xin5 (List.mem_of_getElem? (i := 238) rfl) rfl
theorem xw1288 : Cond.methodLink RL 56 yX11_sheet ∈ xwl := xin5 (List.mem_of_getElem? (i := 239) (by decide +kernel)) rfl
theorem xw1289 : Cond.instanceMethod yX11_sheet ∈ xwl := xin6 (List.mem_of_getElem? (i := 0) (by decide +kernel)) rfl
theorem xw1290 : Cond.selects RX11 yX11_sheet yX11_sheet ∈ xwl := xin6 (List.mem_of_getElem? (i := 1) (by decide +kernel)) rfl
theorem xw1291 : Cond.code yX11_sheet cX11_sheet 3 (some .int) ∈ xwl := xin6 (List.mem_of_getElem? (i := 2) rfl) rfl
theorem xw1292 : Cond.methodLink RX11 182 yX11_liftsAll ∈ xwl := xin6 (List.mem_of_getElem? (i := 3) (by decide +kernel)) rfl
theorem xw1294 : Cond.instanceMethod yX11_liftsAll ∈ xwl := xin6 (List.mem_of_getElem? (i := 5) (by decide +kernel)) rfl
theorem xw1295 : Cond.code yX11_liftsAll cX11_liftsAll 2 none ∈ xwl := xin6 (List.mem_of_getElem? (i := 6) rfl) rfl
theorem xw1296 : Cond.methodLink RL 60 yX11_write ∈ xwl := xin6 (List.mem_of_getElem? (i := 7) (by decide +kernel)) rfl
theorem xw1297 : Cond.instanceMethod yX11_write ∈ xwl := xin6 (List.mem_of_getElem? (i := 8) (by decide +kernel)) rfl
theorem xw1298 : Cond.selects RX11 yX11_write yX11_write ∈ xwl := xin6 (List.mem_of_getElem? (i := 9) (by decide +kernel)) rfl
theorem xw1299 : Cond.code yX11_write cX11_write 5 (some .int) ∈ xwl := xin6 (List.mem_of_getElem? (i := 10) rfl) rfl
theorem xw1300 : Cond.methodLink RX11 194 yX11_writesWord ∈ xwl := xin6 (List.mem_of_getElem? (i := 11) (by decide +kernel)) rfl
theorem xw1302 : Cond.instanceMethod yX11_writesWord ∈ xwl := xin6 (List.mem_of_getElem? (i := 13) (by decide +kernel)) rfl
theorem xw1303 : Cond.code yX11_writesWord cX11_writesWord 3 none ∈ xwl := xin6 (List.mem_of_getElem? (i := 14) rfl) rfl
theorem xw1304 : Cond.methodLink RX11 191 yX11_writes ∈ xwl := xin6 (List.mem_of_getElem? (i := 15) (by decide +kernel)) rfl
theorem xw1306 : Cond.instanceMethod yX11_writes ∈ xwl := xin6 (List.mem_of_getElem? (i := 17) (by decide +kernel)) rfl
theorem xw1307 : Cond.code yX11_writes cX11_writes 2 none ∈ xwl := xin6 (List.mem_of_getElem? (i := 18) rfl) rfl
theorem xw1308 : Cond.methodLink RX11 197 yX11_writesNumber ∈ xwl := xin6 (List.mem_of_getElem? (i := 19) (by decide +kernel)) rfl
theorem xw1310 : Cond.instanceMethod yX11_writesNumber ∈ xwl := xin6 (List.mem_of_getElem? (i := 21) (by decide +kernel)) rfl
theorem xw1311 : Cond.code yX11_writesNumber cX11_writesNumber 2 none ∈ xwl := xin6 (List.mem_of_getElem? (i := 22) rfl) rfl
theorem xw1312 : Cond.constant RX11 200 (1302862) ∈ xwl := xin6 (List.mem_of_getElem? (i := 23) (by decide +kernel)) rfl
theorem xw1313 : Cond.methodLink RX11 201 yX11_kindOf ∈ xwl := xin6 (List.mem_of_getElem? (i := 24) (by decide +kernel)) rfl
theorem xw1315 : Cond.instanceMethod yX11_kindOf ∈ xwl := xin6 (List.mem_of_getElem? (i := 26) (by decide +kernel)) rfl
theorem xw1316 : Cond.code yX11_kindOf cX11_kindOf 2 (some .int) ∈ xwl := xin6 (List.mem_of_getElem? (i := 27) rfl) rfl
theorem xw1317 : Cond.constant RX11 204 (3544025) ∈ xwl := xin6 (List.mem_of_getElem? (i := 28) (by decide +kernel)) rfl
theorem xw1318 : Cond.constant RX11 205 (179753) ∈ xwl := xin6 (List.mem_of_getElem? (i := 29) (by decide +kernel)) rfl
theorem xw1319 : Cond.constant RX11 206 (37026792) ∈ xwl := xin6 (List.mem_of_getElem? (i := 30) (by decide +kernel)) rfl
theorem xw1320 : Cond.constant RX11 207 (247335) ∈ xwl := xin6 (List.mem_of_getElem? (i := 31) (by decide +kernel)) rfl
theorem xw1321 : Cond.methodLink RL 64 yX11_frame ∈ xwl := xin6 (List.mem_of_getElem? (i := 32) (by decide +kernel)) rfl
theorem xw1322 : Cond.instanceMethod yX11_frame ∈ xwl := xin6 (List.mem_of_getElem? (i := 33) (by decide +kernel)) rfl
theorem xw1323 : Cond.selects RX11 yX11_frame yX11_frame ∈ xwl := xin6 (List.mem_of_getElem? (i := 34) (by decide +kernel)) rfl
theorem xw1324 : Cond.code yX11_frame cX11_frame 3 (some .int) ∈ xwl := xin6 (List.mem_of_getElem? (i := 35) rfl) rfl
theorem xw1325 : Cond.methodLink RX11 223 yX11_isFrame ∈ xwl := xin6 (List.mem_of_getElem? (i := 36) (by decide +kernel)) rfl
theorem xw1327 : Cond.instanceMethod yX11_isFrame ∈ xwl := xin6 (List.mem_of_getElem? (i := 38) (by decide +kernel)) rfl
theorem xw1328 : Cond.code yX11_isFrame cX11_isFrame 2 (some .boolean) ∈ xwl := xin6 (List.mem_of_getElem? (i := 39) rfl) rfl
theorem xw1329 : Cond.methodLink RX11 226 yX11_frameTells ∈ xwl := xin6 (List.mem_of_getElem? (i := 40) (by decide +kernel)) rfl
theorem xw1331 : Cond.instanceMethod yX11_frameTells ∈ xwl := xin6 (List.mem_of_getElem? (i := 42) (by decide +kernel)) rfl
theorem xw1332 : Cond.code yX11_frameTells cX11_frameTells 3 (some .int) ∈ xwl := xin6 (List.mem_of_getElem? (i := 43) rfl) rfl
theorem xw1333 : Cond.methodLink RX11 214 yX11_across ∈ xwl := xin6 (List.mem_of_getElem? (i := 44) (by decide +kernel)) rfl
theorem xw1335 : Cond.instanceMethod yX11_across ∈ xwl := xin6 (List.mem_of_getElem? (i := 46) (by decide +kernel)) rfl
theorem xw1336 : Cond.code yX11_across cX11_across 2 (some .int) ∈ xwl := xin6 (List.mem_of_getElem? (i := 47) rfl) rfl
theorem xw1337 : Cond.methodLink RX11 208 yX11_of ∈ xwl := xin6 (List.mem_of_getElem? (i := 48) (by decide +kernel)) rfl
theorem xw1339 : Cond.instanceMethod yX11_of ∈ xwl := xin6 (List.mem_of_getElem? (i := 50) (by decide +kernel)) rfl
theorem xw1340 : Cond.code yX11_of cX11_of 3 (some .int) ∈ xwl := xin6 (List.mem_of_getElem? (i := 51) rfl) rfl
theorem xw1341 : Cond.methodLink RX11 217 yX11_down ∈ xwl := xin6 (List.mem_of_getElem? (i := 52) (by decide +kernel)) rfl
theorem xw1343 : Cond.instanceMethod yX11_down ∈ xwl := xin6 (List.mem_of_getElem? (i := 54) (by decide +kernel)) rfl
theorem xw1344 : Cond.code yX11_down cX11_down 2 (some .int) ∈ xwl := xin6 (List.mem_of_getElem? (i := 55) rfl) rfl
theorem xw1345 : Cond.methodLink RX11 220 yX11_needX ∈ xwl := xin6 (List.mem_of_getElem? (i := 56) (by decide +kernel)) rfl
theorem xw1347 : Cond.instanceMethod yX11_needX ∈ xwl := xin6 (List.mem_of_getElem? (i := 58) (by decide +kernel)) rfl
theorem xw1348 : Cond.code yX11_needX cX11_needX 3 (some .int) ∈ xwl := xin6 (List.mem_of_getElem? (i := 59) rfl) rfl
theorem xw1349 : Cond.methodLink RX11 211 yX11_edge ∈ xwl := xin6 (List.mem_of_getElem? (i := 60) (by decide +kernel)) rfl
theorem xw1351 : Cond.instanceMethod yX11_edge ∈ xwl := xin6 (List.mem_of_getElem? (i := 62) (by decide +kernel)) rfl
theorem xw1352 : Cond.code yX11_edge cX11_edge 2 (some .int) ∈ xwl := xin6 (List.mem_of_getElem? (i := 63) rfl) rfl
theorem xw1353 : Cond.methodLink RX11 229 yX11_needY ∈ xwl := xin6 (List.mem_of_getElem? (i := 64) (by decide +kernel)) rfl
theorem xw1355 : Cond.instanceMethod yX11_needY ∈ xwl := xin6 (List.mem_of_getElem? (i := 66) (by decide +kernel)) rfl
theorem xw1356 : Cond.code yX11_needY cX11_needY 3 (some .int) ∈ xwl := xin6 (List.mem_of_getElem? (i := 67) rfl) rfl
theorem xw1357 : Cond.methodLink RL 68 yX11_place ∈ xwl := xin6 (List.mem_of_getElem? (i := 68) (by decide +kernel)) rfl
theorem xw1358 : Cond.instanceMethod yX11_place ∈ xwl := xin6 (List.mem_of_getElem? (i := 69) (by decide +kernel)) rfl
theorem xw1359 : Cond.selects RX11 yX11_place yX11_place ∈ xwl := xin6 (List.mem_of_getElem? (i := 70) (by decide +kernel)) rfl
theorem xw1360 : Cond.code yX11_place cX11_place 3 (some .int) ∈ xwl := xin6 (List.mem_of_getElem? (i := 71) rfl) rfl
theorem xw1361 : Cond.methodLink RX11 232 yX11_isSet ∈ xwl := xin6 (List.mem_of_getElem? (i := 72) (by decide +kernel)) rfl
theorem xw1363 : Cond.instanceMethod yX11_isSet ∈ xwl := xin6 (List.mem_of_getElem? (i := 74) (by decide +kernel)) rfl
theorem xw1364 : Cond.code yX11_isSet cX11_isSet 2 (some .boolean) ∈ xwl := xin6 (List.mem_of_getElem? (i := 75) rfl) rfl
theorem xw1365 : Cond.methodLink RL 72 yX11_mark ∈ xwl := xin6 (List.mem_of_getElem? (i := 76) (by decide +kernel)) rfl
theorem xw1366 : Cond.instanceMethod yX11_mark ∈ xwl := xin6 (List.mem_of_getElem? (i := 77) (by decide +kernel)) rfl
theorem xw1367 : Cond.selects RX11 yX11_mark yX11_mark ∈ xwl := xin6 (List.mem_of_getElem? (i := 78) (by decide +kernel)) rfl
theorem xw1368 : Cond.code yX11_mark cX11_mark 5 (some .int) ∈ xwl := xin6 (List.mem_of_getElem? (i := 79) rfl) rfl
theorem xw1369 : Cond.methodLink RL 92 yX11_undo ∈ xwl := xin6 (List.mem_of_getElem? (i := 80) (by decide +kernel)) rfl
theorem xw1370 : Cond.instanceMethod yX11_undo ∈ xwl := xin6 (List.mem_of_getElem? (i := 81) (by decide +kernel)) rfl
theorem xw1371 : Cond.selects RX11 yX11_undo yX11_undo ∈ xwl := xin6 (List.mem_of_getElem? (i := 82) (by decide +kernel)) rfl
theorem xw1372 : Cond.code yX11_undo cX11_undo 4 (some .int) ∈ xwl := xin6 (List.mem_of_getElem? (i := 83) rfl) rfl
theorem xw1373 : Cond.methodLink RL 96 yX11_keep ∈ xwl := xin6 (List.mem_of_getElem? (i := 84) (by decide +kernel)) rfl
theorem xw1374 : Cond.instanceMethod yX11_keep ∈ xwl := xin6 (List.mem_of_getElem? (i := 85) (by decide +kernel)) rfl
theorem xw1375 : Cond.selects RX11 yX11_keep yX11_keep ∈ xwl := xin6 (List.mem_of_getElem? (i := 86) (by decide +kernel)) rfl
theorem xw1376 : Cond.code yX11_keep cX11_keep 3 (some .int) ∈ xwl := xin6 (List.mem_of_getElem? (i := 87) rfl) rfl
theorem xw1377 : Cond.methodLink RL 100 yX11_on ∈ xwl := xin6 (List.mem_of_getElem? (i := 88) (by decide +kernel)) rfl
theorem xw1378 : Cond.instanceMethod yX11_on ∈ xwl := xin6 (List.mem_of_getElem? (i := 89) (by decide +kernel)) rfl
theorem xw1379 : Cond.selects RX11 yX11_on yX11_on ∈ xwl := xin6 (List.mem_of_getElem? (i := 90) (by decide +kernel)) rfl
theorem xw1380 : Cond.code yX11_on cX11_on 3 (some .int) ∈ xwl := xin6 (List.mem_of_getElem? (i := 91) rfl) rfl
theorem xw1381 : Cond.methodLink RL 76 yX11_set ∈ xwl := xin6 (List.mem_of_getElem? (i := 92) (by decide +kernel)) rfl
theorem xw1382 : Cond.instanceMethod yX11_set ∈ xwl := xin6 (List.mem_of_getElem? (i := 93) (by decide +kernel)) rfl
theorem xw1383 : Cond.selects RX11 yX11_set yX11_set ∈ xwl := xin6 (List.mem_of_getElem? (i := 94) (by decide +kernel)) rfl
theorem xw1384 : Cond.code yX11_set cX11_set 3 (some .int) ∈ xwl := xin6 (List.mem_of_getElem? (i := 95) rfl) rfl
theorem xw1385 : Cond.methodLink RX11 286 yX11_findsPage ∈ xwl := xin6 (List.mem_of_getElem? (i := 96) (by decide +kernel)) rfl
theorem xw1387 : Cond.instanceMethod yX11_findsPage ∈ xwl := xin6 (List.mem_of_getElem? (i := 98) (by decide +kernel)) rfl
theorem xw1388 : Cond.code yX11_findsPage cX11_findsPage 4 (some .int) ∈ xwl := xin6 (List.mem_of_getElem? (i := 99) rfl) rfl
theorem xw1389 : Cond.methodLink RX11 270 yX11_pageMany ∈ xwl := xin6 (List.mem_of_getElem? (i := 100) (by decide +kernel)) rfl
theorem xw1391 : Cond.instanceMethod yX11_pageMany ∈ xwl := xin6 (List.mem_of_getElem? (i := 102) (by decide +kernel)) rfl
theorem xw1392 : Cond.code yX11_pageMany cX11_pageMany 3 (some .int) ∈ xwl := xin6 (List.mem_of_getElem? (i := 103) rfl) rfl
theorem xw1393 : Cond.methodLink RX11 274 yX11_layFree ∈ xwl := xin6 (List.mem_of_getElem? (i := 104) (by decide +kernel)) rfl
theorem xw1395 : Cond.instanceMethod yX11_layFree ∈ xwl := xin6 (List.mem_of_getElem? (i := 106) (by decide +kernel)) rfl
theorem xw1396 : Cond.code yX11_layFree cX11_layFree 7 none ∈ xwl := xin6 (List.mem_of_getElem? (i := 107) rfl) rfl
theorem xw1397 : Cond.methodLink RX11 239 yX11_layGrid ∈ xwl := xin6 (List.mem_of_getElem? (i := 108) (by decide +kernel)) rfl
theorem xw1399 : Cond.instanceMethod yX11_layGrid ∈ xwl := xin6 (List.mem_of_getElem? (i := 110) (by decide +kernel)) rfl
theorem xw1400 : Cond.code yX11_layGrid cX11_layGrid 6 none ∈ xwl := xin6 (List.mem_of_getElem? (i := 111) rfl) rfl
theorem xw1401 : Cond.methodLink RX11 235 yX11_isFree ∈ xwl := xin6 (List.mem_of_getElem? (i := 112) (by decide +kernel)) rfl
theorem xw1403 : Cond.instanceMethod yX11_isFree ∈ xwl := xin6 (List.mem_of_getElem? (i := 114) (by decide +kernel)) rfl
theorem xw1404 : Cond.code yX11_isFree cX11_isFree 7 (some .boolean) ∈ xwl := xin6 (List.mem_of_getElem? (i := 115) rfl) rfl
theorem xw1405 : Cond.methodLink RX11 245 yX11_isGreatest ∈ xwl := xin6 (List.mem_of_getElem? (i := 116) (by decide +kernel)) rfl
theorem xw1407 : Cond.instanceMethod yX11_isGreatest ∈ xwl := xin6 (List.mem_of_getElem? (i := 118) (by decide +kernel)) rfl
theorem xw1408 : Cond.code yX11_isGreatest cX11_isGreatest 5 (some .boolean) ∈ xwl := xin6 (List.mem_of_getElem? (i := 119) rfl) rfl
theorem xw1409 : Cond.methodLink RX11 277 yX11_findsRoom ∈ xwl := xin6 (List.mem_of_getElem? (i := 120) (by decide +kernel)) rfl
theorem xw1411 : Cond.instanceMethod yX11_findsRoom ∈ xwl := xin6 (List.mem_of_getElem? (i := 122) (by decide +kernel)) rfl
theorem xw1412 : Cond.code yX11_findsRoom cX11_findsRoom 7 (some .boolean) ∈ xwl := xin6 (List.mem_of_getElem? (i := 123) rfl) rfl
theorem xw1413 : Cond.methodLink RX11 251 yX11_turns ∈ xwl := xin6 (List.mem_of_getElem? (i := 124) (by decide +kernel)) rfl
theorem xw1415 : Cond.instanceMethod yX11_turns ∈ xwl := xin6 (List.mem_of_getElem? (i := 126) (by decide +kernel)) rfl
theorem xw1416 : Cond.code yX11_turns cX11_turns 2 (some .int) ∈ xwl := xin6 (List.mem_of_getElem? (i := 127) rfl) rfl
theorem xw1417 : Cond.methodLink RX11 254 yX11_first ∈ xwl := xin6 (List.mem_of_getElem? (i := 128) (by decide +kernel)) rfl
theorem xw1419 : Cond.instanceMethod yX11_first ∈ xwl := xin6 (List.mem_of_getElem? (i := 130) (by decide +kernel)) rfl
theorem xw1420 : Cond.code yX11_first cX11_first 7 (some .int) ∈ xwl := xin6 (List.mem_of_getElem? (i := 131) rfl) rfl
theorem xw1421 : Cond.methodLink RX11 258 yX11_second ∈ xwl := xin6 (List.mem_of_getElem? (i := 132) (by decide +kernel)) rfl
theorem xw1423 : Cond.instanceMethod yX11_second ∈ xwl := xin6 (List.mem_of_getElem? (i := 134) (by decide +kernel)) rfl
theorem xw1424 : Cond.code yX11_second cX11_second 7 (some .int) ∈ xwl := xin6 (List.mem_of_getElem? (i := 135) rfl) rfl
theorem xw1425 : Cond.methodLink RX11 293 yX11_remember ∈ xwl := xin6 (List.mem_of_getElem? (i := 136) (by decide +kernel)) rfl
theorem xw1427 : Cond.instanceMethod yX11_remember ∈ xwl := xin6 (List.mem_of_getElem? (i := 138) (by decide +kernel)) rfl
theorem xw1428 : Cond.code yX11_remember cX11_remember 2 none ∈ xwl := xin6 (List.mem_of_getElem? (i := 139) rfl) rfl
theorem xw1429 : Cond.methodLink RX11 289 yX11_sets ∈ xwl := xin6 (List.mem_of_getElem? (i := 140) (by decide +kernel)) rfl
theorem xw1431 : Cond.instanceMethod yX11_sets ∈ xwl := xin6 (List.mem_of_getElem? (i := 142) (by decide +kernel)) rfl
theorem xw1432 : Cond.code yX11_sets cX11_sets 3 none ∈ xwl := xin6 (List.mem_of_getElem? (i := 143) rfl) rfl
theorem xw1433 : Cond.methodLink RL 80 yX11_lift ∈ xwl := xin6 (List.mem_of_getElem? (i := 144) (by decide +kernel)) rfl
theorem xw1434 : Cond.instanceMethod yX11_lift ∈ xwl := xin6 (List.mem_of_getElem? (i := 145) (by decide +kernel)) rfl
theorem xw1435 : Cond.selects RX11 yX11_lift yX11_lift ∈ xwl := xin6 (List.mem_of_getElem? (i := 146) (by decide +kernel)) rfl
theorem xw1436 : Cond.code yX11_lift cX11_lift 2 (some .int) ∈ xwl := xin6 (List.mem_of_getElem? (i := 147) rfl) rfl
theorem xw1437 : Cond.methodLink RX11 296 yX11_lifts ∈ xwl := xin6 (List.mem_of_getElem? (i := 148) (by decide +kernel)) rfl
theorem xw1439 : Cond.instanceMethod yX11_lifts ∈ xwl := xin6 (List.mem_of_getElem? (i := 150) (by decide +kernel)) rfl
theorem xw1440 : Cond.code yX11_lifts cX11_lifts 2 none ∈ xwl := xin6 (List.mem_of_getElem? (i := 151) rfl) rfl
theorem xw1441 : Cond.methodLink RL 84 yX11_all ∈ xwl := xin6 (List.mem_of_getElem? (i := 152) (by decide +kernel)) rfl
theorem xw1442 : Cond.instanceMethod yX11_all ∈ xwl := xin6 (List.mem_of_getElem? (i := 153) (by decide +kernel)) rfl
theorem xw1443 : Cond.selects RX11 yX11_all yX11_all ∈ xwl := xin6 (List.mem_of_getElem? (i := 154) (by decide +kernel)) rfl
theorem xw1444 : Cond.code yX11_all cX11_all 2 (some .int) ∈ xwl := xin6 (List.mem_of_getElem? (i := 155) rfl) rfl
theorem xw1445 : Cond.methodLink RX11 299 yX11_setsAll ∈ xwl := xin6 (List.mem_of_getElem? (i := 156) (by decide +kernel)) rfl
theorem xw1447 : Cond.instanceMethod yX11_setsAll ∈ xwl := xin6 (List.mem_of_getElem? (i := 158) (by decide +kernel)) rfl
theorem xw1448 : Cond.code yX11_setsAll cX11_setsAll 6 none ∈ xwl := xin6 (List.mem_of_getElem? (i := 159) rfl) rfl
theorem xw1449 : Cond.methodLink RX11 280 yX11_has ∈ xwl := xin6 (List.mem_of_getElem? (i := 160) (by decide +kernel)) rfl
theorem xw1450 : Cond.static yX11_has ∈ xwl := xin6 (List.mem_of_getElem? (i := 161) (by decide +kernel)) rfl
theorem xw1451 : Cond.code yX11_has cX11_has 2 (some .boolean) ∈ xwl := xin6 (List.mem_of_getElem? (i := 162) rfl) rfl
theorem xw1452 : Cond.methodLink RX11 283 yX11_weight ∈ xwl := xin6 (List.mem_of_getElem? (i := 163) (by decide +kernel)) rfl
theorem xw1454 : Cond.instanceMethod yX11_weight ∈ xwl := xin6 (List.mem_of_getElem? (i := 165) (by decide +kernel)) rfl
theorem xw1455 : Cond.code yX11_weight cX11_weight 5 (some .int) ∈ xwl := xin6 (List.mem_of_getElem? (i := 166) rfl) rfl
theorem xw1456 : Cond.methodLink RL 88 yX11_rule ∈ xwl := xin6 (List.mem_of_getElem? (i := 167) (by decide +kernel)) rfl
theorem xw1457 : Cond.instanceMethod yX11_rule ∈ xwl := xin6 (List.mem_of_getElem? (i := 168) (by decide +kernel)) rfl
theorem xw1458 : Cond.selects RX11 yX11_rule yX11_rule ∈ xwl := xin6 (List.mem_of_getElem? (i := 169) (by decide +kernel)) rfl
theorem xw1459 : Cond.code yX11_rule cX11_rule 3 (some .int) ∈ xwl := xin6 (List.mem_of_getElem? (i := 170) rfl) rfl
theorem xw1460 : Cond.methodLink RL 104 yX11_free ∈ xwl := xin6 (List.mem_of_getElem? (i := 171) (by decide +kernel)) rfl
theorem xw1461 : Cond.instanceMethod yX11_free ∈ xwl := xin6 (List.mem_of_getElem? (i := 172) (by decide +kernel)) rfl
theorem xw1462 : Cond.selects RX11 yX11_free yX11_free ∈ xwl := xin6 (List.mem_of_getElem? (i := 173) (by decide +kernel)) rfl
theorem xw1463 : Cond.code yX11_free cX11_free 4 (some .int) ∈ xwl := xin6 (List.mem_of_getElem? (i := 174) rfl) rfl
theorem xw1464 : Cond.methodLink RX11 302 yX11_isPage ∈ xwl := xin6 (List.mem_of_getElem? (i := 175) (by decide +kernel)) rfl
theorem xw1466 : Cond.instanceMethod yX11_isPage ∈ xwl := xin6 (List.mem_of_getElem? (i := 177) (by decide +kernel)) rfl
theorem xw1467 : Cond.code yX11_isPage cX11_isPage 2 (some .boolean) ∈ xwl := xin6 (List.mem_of_getElem? (i := 178) rfl) rfl
theorem xw1468 : Cond.methodLink RL 108 yX11_seen ∈ xwl := xin6 (List.mem_of_getElem? (i := 179) (by decide +kernel)) rfl
theorem xw1469 : Cond.instanceMethod yX11_seen ∈ xwl := xin6 (List.mem_of_getElem? (i := 180) (by decide +kernel)) rfl
theorem xw1470 : Cond.selects RX11 yX11_seen yX11_seen ∈ xwl := xin6 (List.mem_of_getElem? (i := 181) (by decide +kernel)) rfl
theorem xw1471 : Cond.code yX11_seen cX11_seen 10 (some .int) ∈ xwl := xin6 (List.mem_of_getElem? (i := 182) rfl) rfl
theorem xw1472 : Cond.methodLink RX11 305 yX11_clamped ∈ xwl := xin6 (List.mem_of_getElem? (i := 183) (by decide +kernel)) rfl
theorem xw1473 : Cond.static yX11_clamped ∈ xwl := xin6 (List.mem_of_getElem? (i := 184) (by decide +kernel)) rfl
theorem xw1474 : Cond.code yX11_clamped cX11_clamped 2 (some .int) ∈ xwl := xin6 (List.mem_of_getElem? (i := 185) rfl) rfl
theorem xw1475 : Cond.methodLink RX11 308 yX11_leftOf ∈ xwl := xin6 (List.mem_of_getElem? (i := 186) (by decide +kernel)) rfl
theorem xw1477 : Cond.instanceMethod yX11_leftOf ∈ xwl := xin6 (List.mem_of_getElem? (i := 188) (by decide +kernel)) rfl
theorem xw1478 : Cond.code yX11_leftOf cX11_leftOf 2 (some .int) ∈ xwl := xin6 (List.mem_of_getElem? (i := 189) rfl) rfl
theorem xw1479 : Cond.methodLink RX11 311 yX11_aboveOf ∈ xwl := xin6 (List.mem_of_getElem? (i := 190) (by decide +kernel)) rfl
theorem xw1481 : Cond.instanceMethod yX11_aboveOf ∈ xwl := xin6 (List.mem_of_getElem? (i := 192) (by decide +kernel)) rfl
theorem xw1482 : Cond.code yX11_aboveOf cX11_aboveOf 2 (some .int) ∈ xwl := xin6 (List.mem_of_getElem? (i := 193) rfl) rfl
theorem xw1483 : Cond.methodLink RL 112 yX11_point ∈ xwl := xin6 (List.mem_of_getElem? (i := 194) (by decide +kernel)) rfl
theorem xw1484 : Cond.instanceMethod yX11_point ∈ xwl := xin6 (List.mem_of_getElem? (i := 195) (by decide +kernel)) rfl
theorem xw1485 : Cond.selects RX11 yX11_point yX11_point ∈ xwl := xin6 (List.mem_of_getElem? (i := 196) (by decide +kernel)) rfl
theorem xw1486 : Cond.code yX11_point cX11_point 9 (some .int) ∈ xwl := xin6 (List.mem_of_getElem? (i := 197) rfl) rfl
theorem xw1487 : Cond.methodLink RL 116 yX11_used ∈ xwl := xin6 (List.mem_of_getElem? (i := 198) (by decide +kernel)) rfl
theorem xw1488 : Cond.instanceMethod yX11_used ∈ xwl := xin6 (List.mem_of_getElem? (i := 199) (by decide +kernel)) rfl
theorem xw1489 : Cond.selects RX11 yX11_used yX11_used ∈ xwl := xin6 (List.mem_of_getElem? (i := 200) (by decide +kernel)) rfl
theorem xw1490 : Cond.code yX11_used cX11_used 3 (some .int) ∈ xwl := xin6 (List.mem_of_getElem? (i := 201) rfl) rfl
theorem xw1491 : Cond.methodLink RX11 314 yX11_takenOf ∈ xwl := xin6 (List.mem_of_getElem? (i := 202) (by decide +kernel)) rfl
theorem xw1493 : Cond.instanceMethod yX11_takenOf ∈ xwl := xin6 (List.mem_of_getElem? (i := 204) (by decide +kernel)) rfl
theorem xw1494 : Cond.code yX11_takenOf cX11_takenOf 4 (some .int) ∈ xwl := xin6 (List.mem_of_getElem? (i := 205) rfl) rfl
theorem xw1495 : Cond.methodLink RL 120 yX11_takes ∈ xwl := xin6 (List.mem_of_getElem? (i := 206) (by decide +kernel)) rfl
theorem xw1496 : Cond.instanceMethod yX11_takes ∈ xwl := xin6 (List.mem_of_getElem? (i := 207) (by decide +kernel)) rfl
theorem xw1497 : Cond.selects RX11 yX11_takes yX11_takes ∈ xwl := xin6 (List.mem_of_getElem? (i := 208) (by decide +kernel)) rfl
theorem xw1498 : Cond.code yX11_takes cX11_takes 5 (some .int) ∈ xwl := xin6 (List.mem_of_getElem? (i := 209) rfl) rfl
theorem xw1499 : Cond.methodLink RL 124 yX11_would ∈ xwl := xin6 (List.mem_of_getElem? (i := 210) (by decide +kernel)) rfl
theorem xw1500 : Cond.instanceMethod yX11_would ∈ xwl := xin6 (List.mem_of_getElem? (i := 211) (by decide +kernel)) rfl
theorem xw1501 : Cond.selects RX11 yX11_would yX11_would ∈ xwl := xin6 (List.mem_of_getElem? (i := 212) (by decide +kernel)) rfl
theorem xw1502 : Cond.code yX11_would cX11_would 3 (some .int) ∈ xwl := xin6 (List.mem_of_getElem? (i := 213) rfl) rfl
theorem xw1503 : Cond.methodLink RX11 326 yX11_tries ∈ xwl := xin6 (List.mem_of_getElem? (i := 214) (by decide +kernel)) rfl
theorem xw1505 : Cond.instanceMethod yX11_tries ∈ xwl := xin6 (List.mem_of_getElem? (i := 216) (by decide +kernel)) rfl
theorem xw1506 : Cond.code yX11_tries cX11_tries 4 none ∈ xwl := xin6 (List.mem_of_getElem? (i := 217) rfl) rfl
theorem xw1507 : Cond.methodLink RL 129 yX11_best ∈ xwl := xin6 (List.mem_of_getElem? (i := 218) (by decide +kernel)) rfl
theorem xw1508 : Cond.instanceMethod yX11_best ∈ xwl := xin6 (List.mem_of_getElem? (i := 219) (by decide +kernel)) rfl
theorem xw1509 : Cond.selects RX11 yX11_best yX11_best ∈ xwl := xin6 (List.mem_of_getElem? (i := 220) (by decide +kernel)) rfl
theorem xw1510 : Cond.code yX11_best cX11_best 8 (some .int) ∈ xwl := xin6 (List.mem_of_getElem? (i := 221) rfl) rfl
theorem xw1511 : Cond.methodLink RX11 329 yX11_bitsOf ∈ xwl := xin6 (List.mem_of_getElem? (i := 222) (by decide +kernel)) rfl
theorem xw1512 : Cond.static yX11_bitsOf ∈ xwl := xin6 (List.mem_of_getElem? (i := 223) (by decide +kernel)) rfl
theorem xw1513 : Cond.code yX11_bitsOf cX11_bitsOf 3 (some .int) ∈ xwl := xin6 (List.mem_of_getElem? (i := 224) rfl) rfl
theorem xw1514 : Cond.methodLink RL 133 yX11_lots ∈ xwl := xin6 (List.mem_of_getElem? (i := 225) (by decide +kernel)) rfl
theorem xw1515 : Cond.instanceMethod yX11_lots ∈ xwl := xin6 (List.mem_of_getElem? (i := 226) (by decide +kernel)) rfl
theorem xw1516 : Cond.selects RX11 yX11_lots yX11_lots ∈ xwl := xin6 (List.mem_of_getElem? (i := 227) (by decide +kernel)) rfl
theorem xw1517 : Cond.code yX11_lots cX11_lots 9 (some .int) ∈ xwl := xin6 (List.mem_of_getElem? (i := 228) rfl) rfl
theorem xw1518 : Cond.constant RX11 332 (2147483646) ∈ xwl := xin6 (List.mem_of_getElem? (i := 229) (by decide +kernel)) rfl
theorem xw1519 : Cond.constantLong RX11 333 (48271) ∈ xwl := xin6 (List.mem_of_getElem? (i := 230) (by decide +kernel)) rfl
theorem xw1520 : Cond.constantLong RX11 335 (2147483647) ∈ xwl := xin6 (List.mem_of_getElem? (i := 231) (by decide +kernel)) rfl
theorem xw1521 : Cond.constantLong RX11 337 (8) ∈ xwl := xin6 (List.mem_of_getElem? (i := 232) (by decide +kernel)) rfl
theorem xw1522 : Cond.constantLong RX11 339 (64) ∈ xwl := xin6 (List.mem_of_getElem? (i := 233) (by decide +kernel)) rfl
theorem xw1523 : Cond.constantLong RX11 341 (4) ∈ xwl := xin6 (List.mem_of_getElem? (i := 234) (by decide +kernel)) rfl
theorem xw1524 : Cond.methodLink RX11 343 yX11_setMany ∈ xwl := xin6 (List.mem_of_getElem? (i := 235) (by decide +kernel)) rfl
theorem xw1526 : Cond.instanceMethod yX11_setMany ∈ xwl := xin6 (List.mem_of_getElem? (i := 237) (by decide +kernel)) rfl
theorem xw1527 : Cond.code yX11_setMany cX11_setMany 3 (some .int) ∈ xwl := xin6 (List.mem_of_getElem? (i := 238) rfl) rfl
theorem xw1528 : Cond.methodLink RL 141 yX11_count ∈ xwl := xin6 (List.mem_of_getElem? (i := 239) (by decide +kernel)) rfl
theorem xw1529 : Cond.instanceMethod yX11_count ∈ xwl := xin7 (List.mem_of_getElem? (i := 0) (by decide +kernel)) rfl
theorem xw1530 : Cond.selects RX11 yX11_count yX11_count ∈ xwl := xin7 (List.mem_of_getElem? (i := 1) (by decide +kernel)) rfl
theorem xw1531 : Cond.code yX11_count cX11_count 2 (some .int) ∈ xwl := xin7 (List.mem_of_getElem? (i := 2) rfl) rfl
theorem xw1532 : Cond.methodLink RX11 352 yX11_counted ∈ xwl := xin7 (List.mem_of_getElem? (i := 3) (by decide +kernel)) rfl
theorem xw1534 : Cond.instanceMethod yX11_counted ∈ xwl := xin7 (List.mem_of_getElem? (i := 5) (by decide +kernel)) rfl
theorem xw1535 : Cond.code yX11_counted cX11_counted 4 (some .int) ∈ xwl := xin7 (List.mem_of_getElem? (i := 6) rfl) rfl
theorem xw1536 : Cond.methodLink RX11 346 yX11_allTaken ∈ xwl := xin7 (List.mem_of_getElem? (i := 7) (by decide +kernel)) rfl
theorem xw1538 : Cond.instanceMethod yX11_allTaken ∈ xwl := xin7 (List.mem_of_getElem? (i := 9) (by decide +kernel)) rfl
theorem xw1539 : Cond.code yX11_allTaken cX11_allTaken 3 (some .int) ∈ xwl := xin7 (List.mem_of_getElem? (i := 10) rfl) rfl
theorem xw1540 : Cond.methodLink RX11 349 yX11_allFree ∈ xwl := xin7 (List.mem_of_getElem? (i := 11) (by decide +kernel)) rfl
theorem xw1542 : Cond.instanceMethod yX11_allFree ∈ xwl := xin7 (List.mem_of_getElem? (i := 13) (by decide +kernel)) rfl
theorem xw1543 : Cond.code yX11_allFree cX11_allFree 3 (some .int) ∈ xwl := xin7 (List.mem_of_getElem? (i := 14) rfl) rfl
theorem xw1544 : Cond.methodLink RL 154 yX11_digest ∈ xwl := xin7 (List.mem_of_getElem? (i := 15) (by decide +kernel)) rfl
theorem xw1545 : Cond.instanceMethod yX11_digest ∈ xwl := xin7 (List.mem_of_getElem? (i := 16) (by decide +kernel)) rfl
theorem xw1546 : Cond.selects RX11 yX11_digest yX11_digest ∈ xwl := xin7 (List.mem_of_getElem? (i := 17) (by decide +kernel)) rfl
theorem xw1547 : Cond.code yX11_digest cX11_digest 3 (some .long) ∈ xwl := xin7 (List.mem_of_getElem? (i := 18) rfl) rfl
theorem xw1548 : Cond.constantLong RX11 361 (17) ∈ xwl := xin7 (List.mem_of_getElem? (i := 19) (by decide +kernel)) rfl
theorem xw1549 : Cond.methodLink RX11 363 yX11_adds ∈ xwl := xin7 (List.mem_of_getElem? (i := 20) (by decide +kernel)) rfl
theorem xw1551 : Cond.instanceMethod yX11_adds ∈ xwl := xin7 (List.mem_of_getElem? (i := 22) (by decide +kernel)) rfl
theorem xw1552 : Cond.code yX11_adds cX11_adds 3 none ∈ xwl := xin7 (List.mem_of_getElem? (i := 23) rfl) rfl
theorem xw1553 : Cond.constantLong RX11 355 (31) ∈ xwl := xin7 (List.mem_of_getElem? (i := 24) (by decide +kernel)) rfl
theorem xw1554 : Cond.constantLong RX11 367 (-1) ∈ xwl := xin7 (List.mem_of_getElem? (i := 25) (by decide +kernel)) rfl
theorem xw1555 : Cond.fieldLink "java/lang/String" 9 "java/lang/String" "value" "[B" ∈ xwl := xin7 (List.mem_of_getElem? (i := 26) (by decide +kernel)) rfl
theorem xw1556 : Cond.fieldLink "java/lang/String" 15 "java/lang/String" "coder" "B" ∈ xwl := xin7 (List.mem_of_getElem? (i := 27) (by decide +kernel)) rfl
theorem inX0 : ∀ w ∈ u_ws RX0 TX0 12, w ∈ xwl := by
  intro w hw
  obtain ⟨k, hk, rfl⟩ := List.mem_map.mp hw
  have hk := List.mem_range.mp hk
  match k, hk with
  | 0, _ => exact xw212
  | 1, _ => exact xw214
  | 2, _ => exact xw216
  | 3, _ => exact xw218
  | 4, _ => exact xw220
  | 5, _ => exact xw222
  | 6, _ => exact xw224
  | 7, _ => exact xw226
  | 8, _ => exact xw228
  | 9, _ => exact xw230
  | 10, _ => exact xw232
  | 11, _ => exact xw234
  | k + 12, h => exact absurd h (by omega)
theorem inX1 : ∀ w ∈ u_ws RX1 TX1 2, w ∈ xwl := by
  intro w hw
  obtain ⟨k, hk, rfl⟩ := List.mem_map.mp hw
  have hk := List.mem_range.mp hk
  match k, hk with
  | 0, _ => exact xw141
  | 1, _ => exact xw143
  | k + 2, h => exact absurd h (by omega)
theorem inX2 : ∀ w ∈ u_ws RX2 TX2 2, w ∈ xwl := by
  intro w hw
  obtain ⟨k, hk, rfl⟩ := List.mem_map.mp hw
  have hk := List.mem_range.mp hk
  match k, hk with
  | 0, _ => exact xw347
  | 1, _ => exact xw349
  | k + 2, h => exact absurd h (by omega)
theorem inX3 : ∀ w ∈ u_ws RX3 TX3 8, w ∈ xwl := by
  intro w hw
  obtain ⟨k, hk, rfl⟩ := List.mem_map.mp hw
  have hk := List.mem_range.mp hk
  match k, hk with
  | 0, _ => exact xw282
  | 1, _ => exact xw284
  | 2, _ => exact xw286
  | 3, _ => exact xw288
  | 4, _ => exact xw290
  | 5, _ => exact xw292
  | 6, _ => exact xw294
  | 7, _ => exact xw296
  | k + 8, h => exact absurd h (by omega)
theorem inX4 : ∀ w ∈ u_ws RX4 TX4 5, w ∈ xwl := by
  intro w hw
  obtain ⟨k, hk, rfl⟩ := List.mem_map.mp hw
  have hk := List.mem_range.mp hk
  match k, hk with
  | 0, _ => exact xw333
  | 1, _ => exact xw335
  | 2, _ => exact xw337
  | 3, _ => exact xw339
  | 4, _ => exact xw341
  | k + 5, h => exact absurd h (by omega)
theorem inX5 : ∀ w ∈ u_ws RX5 TX5 2, w ∈ xwl := by
  intro w hw
  obtain ⟨k, hk, rfl⟩ := List.mem_map.mp hw
  have hk := List.mem_range.mp hk
  match k, hk with
  | 0, _ => exact xw365
  | 1, _ => exact xw367
  | k + 2, h => exact absurd h (by omega)
theorem inX6 : ∀ w ∈ u_ws RX6 TX6 2, w ∈ xwl := by
  intro w hw
  obtain ⟨k, hk, rfl⟩ := List.mem_map.mp hw
  have hk := List.mem_range.mp hk
  match k, hk with
  | 0, _ => exact xw310
  | 1, _ => exact xw312
  | k + 2, h => exact absurd h (by omega)
theorem inX7 : ∀ w ∈ u_ws RX7 TX7 5, w ∈ xwl := by
  intro w hw
  obtain ⟨k, hk, rfl⟩ := List.mem_map.mp hw
  have hk := List.mem_range.mp hk
  match k, hk with
  | 0, _ => exact xw263
  | 1, _ => exact xw265
  | 2, _ => exact xw267
  | 3, _ => exact xw269
  | 4, _ => exact xw271
  | k + 5, h => exact absurd h (by omega)
theorem inX8 : ∀ w ∈ u_ws RX8 TX8 3, w ∈ xwl := by
  intro w hw
  obtain ⟨k, hk, rfl⟩ := List.mem_map.mp hw
  have hk := List.mem_range.mp hk
  match k, hk with
  | 0, _ => exact xw153
  | 1, _ => exact xw155
  | 2, _ => exact xw157
  | k + 3, h => exact absurd h (by omega)
theorem inX9 : ∀ w ∈ u_ws RX9 TX9 2, w ∈ xwl := by
  intro w hw
  obtain ⟨k, hk, rfl⟩ := List.mem_map.mp hw
  have hk := List.mem_range.mp hk
  match k, hk with
  | 0, _ => exact xw381
  | 1, _ => exact xw383
  | k + 2, h => exact absurd h (by omega)
theorem inX10 : ∀ w ∈ u_ws RX10 TX10 13, w ∈ xwl := by
  intro w hw
  obtain ⟨k, hk, rfl⟩ := List.mem_map.mp hw
  have hk := List.mem_range.mp hk
  match k, hk with
  | 0, _ => exact xw399
  | 1, _ => exact xw401
  | 2, _ => exact xw403
  | 3, _ => exact xw405
  | 4, _ => exact xw407
  | 5, _ => exact xw409
  | 6, _ => exact xw411
  | 7, _ => exact xw413
  | 8, _ => exact xw415
  | 9, _ => exact xw417
  | 10, _ => exact xw419
  | 11, _ => exact xw421
  | 12, _ => exact xw423
  | k + 13, h => exact absurd h (by omega)
theorem inX11 : ∀ w ∈ u_ws RX11 TX11 45, w ∈ xwl := by
  intro w hw
  obtain ⟨k, hk, rfl⟩ := List.mem_map.mp hw
  have hk := List.mem_range.mp hk
  match k, hk with
  | 0, _ => exact xw1071
  | 1, _ => exact xw1073
  | 2, _ => exact xw1075
  | 3, _ => exact xw1077
  | 4, _ => exact xw1079
  | 5, _ => exact xw1081
  | 6, _ => exact xw1083
  | 7, _ => exact xw1085
  | 8, _ => exact xw1087
  | 9, _ => exact xw1089
  | 10, _ => exact xw1091
  | 11, _ => exact xw1093
  | 12, _ => exact xw1095
  | 13, _ => exact xw1097
  | 14, _ => exact xw1099
  | 15, _ => exact xw1101
  | 16, _ => exact xw1103
  | 17, _ => exact xw1105
  | 18, _ => exact xw1107
  | 19, _ => exact xw1109
  | 20, _ => exact xw1111
  | 21, _ => exact xw1113
  | 22, _ => exact xw1115
  | 23, _ => exact xw1117
  | 24, _ => exact xw1119
  | 25, _ => exact xw1121
  | 26, _ => exact xw1123
  | 27, _ => exact xw1125
  | 28, _ => exact xw1127
  | 29, _ => exact xw1129
  | 30, _ => exact xw1131
  | 31, _ => exact xw1133
  | 32, _ => exact xw1135
  | 33, _ => exact xw1137
  | 34, _ => exact xw1139
  | 35, _ => exact xw1141
  | 36, _ => exact xw1143
  | 37, _ => exact xw1145
  | 38, _ => exact xw1147
  | 39, _ => exact xw1149
  | 40, _ => exact xw1151
  | 41, _ => exact xw1153
  | 42, _ => exact xw1155
  | 43, _ => exact xw1157
  | 44, _ => exact xw1159
  | k + 45, h => exact absurd h (by omega)
