def yJ_length : MethodName := ⟨"java/lang/String", "length", "()I"⟩
abbrev cJ_length : ByteArray := prog_20_method_54_code
def yJ_coder : MethodName := ⟨"java/lang/String", "coder", "()B"⟩
abbrev cJ_coder : ByteArray := prog_20_method_152_code
def yJ_charAt : MethodName := ⟨"java/lang/String", "charAt", "(I)C"⟩
abbrev cJ_charAt : ByteArray := prog_20_method_56_code
def yJ_isLatin1 : MethodName := ⟨"java/lang/String", "isLatin1", "()Z"⟩
abbrev cJ_isLatin1 : ByteArray := prog_20_method_154_code
def yJ_lcharAt : MethodName := ⟨"java/lang/StringLatin1", "charAt", "([BI)C"⟩
abbrev cJ_lcharAt : ByteArray := prog_21_method_2_code
def yJ_checkIndex : MethodName := ⟨"java/lang/String", "checkIndex", "(II)V"⟩
abbrev cJ_checkIndex : ByteArray := prog_20_method_155_code
def yJ_pcheck : MethodName := ⟨"jdk/internal/util/Preconditions", "checkIndex", "(IILjava/util/function/BiFunction;)I"⟩
abbrev cJ_pcheck : ByteArray := prog_28_method_11_code
abbrev mX0_init : jj_Mt := (yX0_init, cX0_init, 3, none, [], none)
set_option maxRecDepth 100000 in
theorem okX0_init : jj_ok mX0_init 2 ∧ Cond.instanceMethod mX0_init.1 ∈ jj_tg := ⟨⟨jj_mem 286 rfl rfl, jj_mem 93 (by decide +kernel) (by decide +kernel), by decide +kernel, ⟨by decide +kernel, by decide +kernel, by decide +kernel⟩, by decide, rfl, rfl⟩, jj_mem 285 (by decide +kernel) (by decide +kernel)⟩
abbrev mX0_forget : jj_Mt := (yX0_forget, cX0_forget, 1, none, [], none)
set_option maxRecDepth 100000 in
theorem okX0_forget : jj_okV mX0_forget 0 := ⟨⟨jj_mem 799 rfl rfl, jj_mem 93 (by decide +kernel) (by decide +kernel), by decide +kernel, ⟨by decide +kernel, by decide +kernel, by decide +kernel⟩, by decide, rfl, rfl⟩, jj_mem 797 (by decide +kernel) (by decide +kernel), jj_mem 798 (by decide +kernel) (by decide +kernel)⟩
abbrev mX0_hasLine : jj_Mt := (yX0_hasLine, cX0_hasLine, 2, (some .boolean), [], none)
set_option maxRecDepth 100000 in
theorem okX0_hasLine : jj_okV mX0_hasLine 1 := ⟨⟨jj_mem 1180 rfl rfl, jj_mem 93 (by decide +kernel) (by decide +kernel), by decide +kernel, ⟨by decide +kernel, by decide +kernel, by decide +kernel⟩, by decide, rfl, rfl⟩, jj_mem 1178 (by decide +kernel) (by decide +kernel), jj_mem 1179 (by decide +kernel) (by decide +kernel)⟩
abbrev mX0_readFrom : jj_Mt := (yX0_readFrom, cX0_readFrom, 3, none, [], none)
set_option maxRecDepth 100000 in
theorem okX0_readFrom : jj_okV mX0_readFrom 1 := ⟨⟨jj_mem 956 rfl rfl, jj_mem 93 (by decide +kernel) (by decide +kernel), by decide +kernel, ⟨by decide +kernel, by decide +kernel, by decide +kernel⟩, by decide, rfl, rfl⟩, jj_mem 954 (by decide +kernel) (by decide +kernel), jj_mem 955 (by decide +kernel) (by decide +kernel)⟩
abbrev mX0_readLine : jj_Mt := (yX0_readLine, cX0_readLine, 3, (some .boolean), [], none)
set_option maxRecDepth 100000 in
theorem okX0_readLine : jj_okV mX0_readLine 1 := ⟨⟨jj_mem 960 rfl rfl, jj_mem 93 (by decide +kernel) (by decide +kernel), by decide +kernel, ⟨by decide +kernel, by decide +kernel, by decide +kernel⟩, by decide, rfl, rfl⟩, jj_mem 959 (by decide +kernel) (by decide +kernel), jj_mem 18 (by decide +kernel) (by decide +kernel)⟩
abbrev mX0_isTwice : jj_Mt := (yX0_isTwice, cX0_isTwice, 2, (some .boolean), [], none)
set_option maxRecDepth 100000 in
theorem okX0_isTwice : jj_okV mX0_isTwice 1 := ⟨⟨jj_mem 964 rfl rfl, jj_mem 93 (by decide +kernel) (by decide +kernel), by decide +kernel, ⟨by decide +kernel, by decide +kernel, by decide +kernel⟩, by decide, rfl, rfl⟩, jj_mem 963 (by decide +kernel) (by decide +kernel), jj_mem 19 (by decide +kernel) (by decide +kernel)⟩
abbrev mX0_weigh : jj_Mt := (yX0_weigh, cX0_weigh, 5, none, [], none)
set_option maxRecDepth 100000 in
theorem okX0_weigh : jj_okV mX0_weigh 1 := ⟨⟨jj_mem 1170 rfl rfl, jj_mem 93 (by decide +kernel) (by decide +kernel), by decide +kernel, ⟨by decide +kernel, by decide +kernel, by decide +kernel⟩, by decide, rfl, rfl⟩, jj_mem 1168 (by decide +kernel) (by decide +kernel), jj_mem 1169 (by decide +kernel) (by decide +kernel)⟩
abbrev mX0_isRight : jj_Mt := (yX0_isRight, cX0_isRight, 4, (some .boolean), [], none)
set_option maxRecDepth 100000 in
theorem okX0_isRight : jj_okV mX0_isRight 2 := ⟨⟨jj_mem 1176 rfl rfl, jj_mem 93 (by decide +kernel) (by decide +kernel), by decide +kernel, ⟨by decide +kernel, by decide +kernel, by decide +kernel⟩, by decide, rfl, rfl⟩, jj_mem 1175 (by decide +kernel) (by decide +kernel), jj_mem 28 (by decide +kernel) (by decide +kernel)⟩
abbrev mX0_dayBehind : jj_Mt := (yX0_dayBehind, cX0_dayBehind, 4, (some .int), [], none)
set_option maxRecDepth 100000 in
theorem okX0_dayBehind : jj_okV mX0_dayBehind 3 := ⟨⟨jj_mem 1184 rfl rfl, jj_mem 93 (by decide +kernel) (by decide +kernel), by decide +kernel, ⟨by decide +kernel, by decide +kernel, by decide +kernel⟩, by decide, rfl, rfl⟩, jj_mem 1183 (by decide +kernel) (by decide +kernel), jj_mem 29 (by decide +kernel) (by decide +kernel)⟩
abbrev mX0_mostLeft : jj_Mt := (yX0_mostLeft, cX0_mostLeft, 5, (some .int), [], none)
set_option maxRecDepth 100000 in
theorem okX0_mostLeft : jj_okV mX0_mostLeft 2 := ⟨⟨jj_mem 1196 rfl rfl, jj_mem 93 (by decide +kernel) (by decide +kernel), by decide +kernel, ⟨by decide +kernel, by decide +kernel, by decide +kernel⟩, by decide, rfl, rfl⟩, jj_mem 1194 (by decide +kernel) (by decide +kernel), jj_mem 1195 (by decide +kernel) (by decide +kernel)⟩
abbrev mX0_left : jj_Mt := (yX0_left, cX0_left, 8, (some .int), [], none)
set_option maxRecDepth 100000 in
theorem okX0_left : jj_okV mX0_left 3 := ⟨⟨jj_mem 1200 rfl rfl, jj_mem 93 (by decide +kernel) (by decide +kernel), by decide +kernel, ⟨by decide +kernel, by decide +kernel, by decide +kernel⟩, by decide, rfl, rfl⟩, jj_mem 1199 (by decide +kernel) (by decide +kernel), jj_mem 30 (by decide +kernel) (by decide +kernel)⟩
abbrev mX1_init : jj_Mt := (yX1_init, cX1_init, 1, none, [], none)
set_option maxRecDepth 100000 in
theorem okX1_init : jj_ok mX1_init 0 ∧ Cond.instanceMethod mX1_init.1 ∈ jj_tg := ⟨⟨jj_mem 358 rfl rfl, jj_mem 95 (by decide +kernel) (by decide +kernel), by decide +kernel, ⟨by decide +kernel, by decide +kernel, by decide +kernel⟩, by decide, rfl, rfl⟩, jj_mem 357 (by decide +kernel) (by decide +kernel)⟩
abbrev mX1_forget : jj_Mt := (yX1_forget, cX1_forget, 1, none, [], none)
set_option maxRecDepth 100000 in
theorem okX1_forget : jj_okV mX1_forget 0 := ⟨⟨jj_mem 803 rfl rfl, jj_mem 95 (by decide +kernel) (by decide +kernel), by decide +kernel, ⟨by decide +kernel, by decide +kernel, by decide +kernel⟩, by decide, rfl, rfl⟩, jj_mem 801 (by decide +kernel) (by decide +kernel), jj_mem 802 (by decide +kernel) (by decide +kernel)⟩
abbrev mX1_isFull : jj_Mt := (yX1_isFull, cX1_isFull, 1, (some .boolean), [], none)
set_option maxRecDepth 100000 in
theorem okX1_isFull : jj_okV mX1_isFull 0 := ⟨⟨jj_mem 866 rfl rfl, jj_mem 95 (by decide +kernel) (by decide +kernel), by decide +kernel, ⟨by decide +kernel, by decide +kernel, by decide +kernel⟩, by decide, rfl, rfl⟩, jj_mem 864 (by decide +kernel) (by decide +kernel), jj_mem 865 (by decide +kernel) (by decide +kernel)⟩
abbrev mX1_keepWork : jj_Mt := (yX1_keepWork, cX1_keepWork, 2, none, [], none)
set_option maxRecDepth 100000 in
theorem okX1_keepWork : jj_okV mX1_keepWork 1 := ⟨⟨jj_mem 902 rfl rfl, jj_mem 95 (by decide +kernel) (by decide +kernel), by decide +kernel, ⟨by decide +kernel, by decide +kernel, by decide +kernel⟩, by decide, rfl, rfl⟩, jj_mem 900 (by decide +kernel) (by decide +kernel), jj_mem 901 (by decide +kernel) (by decide +kernel)⟩
abbrev mX1_takeWorkBack : jj_Mt := (yX1_takeWorkBack, cX1_takeWorkBack, 2, none, [], none)
set_option maxRecDepth 100000 in
theorem okX1_takeWorkBack : jj_okV mX1_takeWorkBack 1 := ⟨⟨jj_mem 497 rfl rfl, jj_mem 95 (by decide +kernel) (by decide +kernel), by decide +kernel, ⟨by decide +kernel, by decide +kernel, by decide +kernel⟩, by decide, rfl, rfl⟩, jj_mem 495 (by decide +kernel) (by decide +kernel), jj_mem 496 (by decide +kernel) (by decide +kernel)⟩
abbrev mX1_keepImage : jj_Mt := (yX1_keepImage, cX1_keepImage, 3, none, [], none)
set_option maxRecDepth 100000 in
theorem okX1_keepImage : jj_okV mX1_keepImage 1 := ⟨⟨jj_mem 571 rfl rfl, jj_mem 95 (by decide +kernel) (by decide +kernel), by decide +kernel, ⟨by decide +kernel, by decide +kernel, by decide +kernel⟩, by decide, rfl, rfl⟩, jj_mem 569 (by decide +kernel) (by decide +kernel), jj_mem 570 (by decide +kernel) (by decide +kernel)⟩
abbrev mX1_takeImageBack : jj_Mt := (yX1_takeImageBack, cX1_takeImageBack, 3, none, [], none)
set_option maxRecDepth 100000 in
theorem okX1_takeImageBack : jj_okV mX1_takeImageBack 1 := ⟨⟨jj_mem 586 rfl rfl, jj_mem 95 (by decide +kernel) (by decide +kernel), by decide +kernel, ⟨by decide +kernel, by decide +kernel, by decide +kernel⟩, by decide, rfl, rfl⟩, jj_mem 584 (by decide +kernel) (by decide +kernel), jj_mem 585 (by decide +kernel) (by decide +kernel)⟩
abbrev mX2_init : jj_Mt := (yX2_init, cX2_init, 3, none, [], none)
set_option maxRecDepth 100000 in
theorem okX2_init : jj_ok mX2_init 2 ∧ Cond.instanceMethod mX2_init.1 ∈ jj_tg := ⟨⟨jj_mem 327 rfl rfl, jj_mem 94 (by decide +kernel) (by decide +kernel), by decide +kernel, ⟨by decide +kernel, by decide +kernel, by decide +kernel⟩, by decide, rfl, rfl⟩, jj_mem 326 (by decide +kernel) (by decide +kernel)⟩
abbrev mX2_search : jj_Mt := (yX2_search, cX2_search, 3, none, [], none)
set_option maxRecDepth 100000 in
theorem okX2_search : jj_okV mX2_search 1 := ⟨⟨jj_mem 1130 rfl rfl, jj_mem 94 (by decide +kernel) (by decide +kernel), by decide +kernel, ⟨by decide +kernel, by decide +kernel, by decide +kernel⟩, by decide, rfl, rfl⟩, jj_mem 1128 (by decide +kernel) (by decide +kernel), jj_mem 1129 (by decide +kernel) (by decide +kernel)⟩
abbrev mX2_chooseFor : jj_Mt := (yX2_chooseFor, cX2_chooseFor, 7, none, [], none)
set_option maxRecDepth 100000 in
theorem okX2_chooseFor : jj_okV mX2_chooseFor 5 := ⟨⟨jj_mem 1139 rfl rfl, jj_mem 94 (by decide +kernel) (by decide +kernel), by decide +kernel, ⟨by decide +kernel, by decide +kernel, by decide +kernel⟩, by decide, rfl, rfl⟩, jj_mem 1138 (by decide +kernel) (by decide +kernel), jj_mem 26 (by decide +kernel) (by decide +kernel)⟩
abbrev mX2_keepIfBetter : jj_Mt := (yX2_keepIfBetter, cX2_keepIfBetter, 3, none, [], none)
set_option maxRecDepth 100000 in
theorem okX2_keepIfBetter : jj_okV mX2_keepIfBetter 2 := ⟨⟨jj_mem 1143 rfl rfl, jj_mem 94 (by decide +kernel) (by decide +kernel), by decide +kernel, ⟨by decide +kernel, by decide +kernel, by decide +kernel⟩, by decide, rfl, rfl⟩, jj_mem 1142 (by decide +kernel) (by decide +kernel), jj_mem 27 (by decide +kernel) (by decide +kernel)⟩
abbrev mX3_init : jj_Mt := (yX3_init, cX3_init, 3, none, [], none)
set_option maxRecDepth 100000 in
theorem okX3_init : jj_ok mX3_init 2 ∧ Cond.instanceMethod mX3_init.1 ∈ jj_tg := ⟨⟨jj_mem 188 rfl rfl, jj_mem 90 (by decide +kernel) (by decide +kernel), by decide +kernel, ⟨by decide +kernel, by decide +kernel, by decide +kernel⟩, by decide, rfl, rfl⟩, jj_mem 187 (by decide +kernel) (by decide +kernel)⟩
abbrev mX3_holdOf : jj_Mt := (yX3_holdOf, cX3_holdOf, 5, (some .int), [], none)
set_option maxRecDepth 100000 in
theorem okX3_holdOf : jj_okV mX3_holdOf 4 := ⟨⟨jj_mem 525 rfl rfl, jj_mem 90 (by decide +kernel) (by decide +kernel), by decide +kernel, ⟨by decide +kernel, by decide +kernel, by decide +kernel⟩, by decide, rfl, rfl⟩, jj_mem 523 (by decide +kernel) (by decide +kernel), jj_mem 524 (by decide +kernel) (by decide +kernel)⟩
abbrev mX3_wouldTie : jj_Mt := (yX3_wouldTie, cX3_wouldTie, 4, (some .boolean), [], none)
set_option maxRecDepth 100000 in
theorem okX3_wouldTie : jj_okV mX3_wouldTie 3 := ⟨⟨jj_mem 509 rfl rfl, jj_mem 90 (by decide +kernel) (by decide +kernel), by decide +kernel, ⟨by decide +kernel, by decide +kernel, by decide +kernel⟩, by decide, rfl, rfl⟩, jj_mem 507 (by decide +kernel) (by decide +kernel), jj_mem 508 (by decide +kernel) (by decide +kernel)⟩
abbrev mX3_helperBits : jj_Mt := (yX3_helperBits, cX3_helperBits, 5, (some .int), [], none)
set_option maxRecDepth 100000 in
theorem okX3_helperBits : jj_okV mX3_helperBits 2 := ⟨⟨jj_mem 1134 rfl rfl, jj_mem 90 (by decide +kernel) (by decide +kernel), by decide +kernel, ⟨by decide +kernel, by decide +kernel, by decide +kernel⟩, by decide, rfl, rfl⟩, jj_mem 1132 (by decide +kernel) (by decide +kernel), jj_mem 1133 (by decide +kernel) (by decide +kernel)⟩
abbrev mX3_tieLace : jj_Mt := (yX3_tieLace, cX3_tieLace, 5, (some .boolean), [], none)
set_option maxRecDepth 100000 in
theorem okX3_tieLace : jj_okV mX3_tieLace 4 := ⟨⟨jj_mem 918 rfl rfl, jj_mem 90 (by decide +kernel) (by decide +kernel), by decide +kernel, ⟨by decide +kernel, by decide +kernel, by decide +kernel⟩, by decide, rfl, rfl⟩, jj_mem 916 (by decide +kernel) (by decide +kernel), jj_mem 917 (by decide +kernel) (by decide +kernel)⟩
abbrev mX3_dayBy : jj_Mt := (yX3_dayBy, cX3_dayBy, 3, (some .int), [], none)
set_option maxRecDepth 100000 in
theorem okX3_dayBy : jj_okS mX3_dayBy 3 := ⟨⟨jj_mem 921 rfl rfl, jj_mem 90 (by decide +kernel) (by decide +kernel), by decide +kernel, ⟨by decide +kernel, by decide +kernel, by decide +kernel⟩, by decide, rfl, rfl⟩, jj_mem 920 (by decide +kernel) (by decide +kernel)⟩
abbrev mX3_passWeek : jj_Mt := (yX3_passWeek, cX3_passWeek, 10, none, [], none)
set_option maxRecDepth 100000 in
theorem okX3_passWeek : jj_okV mX3_passWeek 5 := ⟨⟨jj_mem 1343 rfl rfl, jj_mem 90 (by decide +kernel) (by decide +kernel), by decide +kernel, ⟨by decide +kernel, by decide +kernel, by decide +kernel⟩, by decide, rfl, rfl⟩, jj_mem 1341 (by decide +kernel) (by decide +kernel), jj_mem 1342 (by decide +kernel) (by decide +kernel)⟩
abbrev mX3_drawnBy : jj_Mt := (yX3_drawnBy, cX3_drawnBy, 2, (some .int), [], none)
set_option maxRecDepth 100000 in
theorem okX3_drawnBy : jj_okV mX3_drawnBy 1 := ⟨⟨jj_mem 1348 rfl rfl, jj_mem 90 (by decide +kernel) (by decide +kernel), by decide +kernel, ⟨by decide +kernel, by decide +kernel, by decide +kernel⟩, by decide, rfl, rfl⟩, jj_mem 1347 (by decide +kernel) (by decide +kernel), jj_mem 32 (by decide +kernel) (by decide +kernel)⟩
abbrev mX4_init : jj_Mt := (yX4_init, cX4_init, 1, none, [], none)
set_option maxRecDepth 100000 in
theorem okX4_init : jj_ok mX4_init 0 ∧ Cond.instanceMethod mX4_init.1 ∈ jj_tg := ⟨⟨jj_mem 163 rfl rfl, jj_mem 89 (by decide +kernel) (by decide +kernel), by decide +kernel, ⟨by decide +kernel, by decide +kernel, by decide +kernel⟩, by decide, rfl, rfl⟩, jj_mem 162 (by decide +kernel) (by decide +kernel)⟩
abbrev mX4_forget : jj_Mt := (yX4_forget, cX4_forget, 1, none, [], none)
set_option maxRecDepth 100000 in
theorem okX4_forget : jj_okV mX4_forget 0 := ⟨⟨jj_mem 795 rfl rfl, jj_mem 89 (by decide +kernel) (by decide +kernel), by decide +kernel, ⟨by decide +kernel, by decide +kernel, by decide +kernel⟩, by decide, rfl, rfl⟩, jj_mem 793 (by decide +kernel) (by decide +kernel), jj_mem 794 (by decide +kernel) (by decide +kernel)⟩
abbrev mX4_put : jj_Mt := (yX4_put, cX4_put, 3, none, [], none)
set_option maxRecDepth 100000 in
theorem okX4_put : jj_okV mX4_put 2 := ⟨⟨jj_mem 529 rfl rfl, jj_mem 89 (by decide +kernel) (by decide +kernel), by decide +kernel, ⟨by decide +kernel, by decide +kernel, by decide +kernel⟩, by decide, rfl, rfl⟩, jj_mem 527 (by decide +kernel) (by decide +kernel), jj_mem 528 (by decide +kernel) (by decide +kernel)⟩
abbrev mX4_worth : jj_Mt := (yX4_worth, cX4_worth, 4, (some .int), [], none)
set_option maxRecDepth 100000 in
theorem okX4_worth : jj_okV mX4_worth 0 := ⟨⟨jj_mem 537 rfl rfl, jj_mem 89 (by decide +kernel) (by decide +kernel), by decide +kernel, ⟨by decide +kernel, by decide +kernel, by decide +kernel⟩, by decide, rfl, rfl⟩, jj_mem 535 (by decide +kernel) (by decide +kernel), jj_mem 536 (by decide +kernel) (by decide +kernel)⟩
abbrev mX4_worthWithoutLaw : jj_Mt := (yX4_worthWithoutLaw, cX4_worthWithoutLaw, 1, (some .int), [], none)
set_option maxRecDepth 100000 in
theorem okX4_worthWithoutLaw : jj_okV mX4_worthWithoutLaw 0 := ⟨⟨jj_mem 550 rfl rfl, jj_mem 89 (by decide +kernel) (by decide +kernel), by decide +kernel, ⟨by decide +kernel, by decide +kernel, by decide +kernel⟩, by decide, rfl, rfl⟩, jj_mem 549 (by decide +kernel) (by decide +kernel), jj_mem 0 (by decide +kernel) (by decide +kernel)⟩
abbrev mX4_joined : jj_Mt := (yX4_joined, cX4_joined, 3, (some .int), [], none)
set_option maxRecDepth 100000 in
theorem okX4_joined : jj_okS mX4_joined 3 := ⟨⟨jj_mem 540 rfl rfl, jj_mem 89 (by decide +kernel) (by decide +kernel), by decide +kernel, ⟨by decide +kernel, by decide +kernel, by decide +kernel⟩, by decide, rfl, rfl⟩, jj_mem 539 (by decide +kernel) (by decide +kernel)⟩
abbrev mX4_readFrom : jj_Mt := (yX4_readFrom, cX4_readFrom, 2, none, [], none)
set_option maxRecDepth 100000 in
theorem okX4_readFrom : jj_okV mX4_readFrom 1 := ⟨⟨jj_mem 814 rfl rfl, jj_mem 89 (by decide +kernel) (by decide +kernel), by decide +kernel, ⟨by decide +kernel, by decide +kernel, by decide +kernel⟩, by decide, rfl, rfl⟩, jj_mem 812 (by decide +kernel) (by decide +kernel), jj_mem 813 (by decide +kernel) (by decide +kernel)⟩
abbrev mX4_addCell : jj_Mt := (yX4_addCell, cX4_addCell, 2, none, [], none)
set_option maxRecDepth 100000 in
theorem okX4_addCell : jj_okV mX4_addCell 1 := ⟨⟨jj_mem 842 rfl rfl, jj_mem 89 (by decide +kernel) (by decide +kernel), by decide +kernel, ⟨by decide +kernel, by decide +kernel, by decide +kernel⟩, by decide, rfl, rfl⟩, jj_mem 841 (by decide +kernel) (by decide +kernel), jj_mem 10 (by decide +kernel) (by decide +kernel)⟩
abbrev mX4_readSum : jj_Mt := (yX4_readSum, cX4_readSum, 6, (some .boolean), [], none)
set_option maxRecDepth 100000 in
theorem okX4_readSum : jj_okV mX4_readSum 2 := ⟨⟨jj_mem 818 rfl rfl, jj_mem 89 (by decide +kernel) (by decide +kernel), by decide +kernel, ⟨by decide +kernel, by decide +kernel, by decide +kernel⟩, by decide, rfl, rfl⟩, jj_mem 817 (by decide +kernel) (by decide +kernel), jj_mem 7 (by decide +kernel) (by decide +kernel)⟩
abbrev mX4_readProduct : jj_Mt := (yX4_readProduct, cX4_readProduct, 6, (some .boolean), [], none)
set_option maxRecDepth 100000 in
theorem okX4_readProduct : jj_okV mX4_readProduct 2 := ⟨⟨jj_mem 822 rfl rfl, jj_mem 89 (by decide +kernel) (by decide +kernel), by decide +kernel, ⟨by decide +kernel, by decide +kernel, by decide +kernel⟩, by decide, rfl, rfl⟩, jj_mem 821 (by decide +kernel) (by decide +kernel), jj_mem 8 (by decide +kernel) (by decide +kernel)⟩
abbrev mX4_readUnit : jj_Mt := (yX4_readUnit, cX4_readUnit, 5, (some .boolean), [], none)
set_option maxRecDepth 100000 in
theorem okX4_readUnit : jj_okV mX4_readUnit 2 := ⟨⟨jj_mem 826 rfl rfl, jj_mem 89 (by decide +kernel) (by decide +kernel), by decide +kernel, ⟨by decide +kernel, by decide +kernel, by decide +kernel⟩, by decide, rfl, rfl⟩, jj_mem 825 (by decide +kernel) (by decide +kernel), jj_mem 9 (by decide +kernel) (by decide +kernel)⟩
abbrev mX4_readOpen : jj_Mt := (yX4_readOpen, cX4_readOpen, 6, (some .boolean), [], none)
set_option maxRecDepth 100000 in
theorem okX4_readOpen : jj_okV mX4_readOpen 2 := ⟨⟨jj_mem 850 rfl rfl, jj_mem 89 (by decide +kernel) (by decide +kernel), by decide +kernel, ⟨by decide +kernel, by decide +kernel, by decide +kernel⟩, by decide, rfl, rfl⟩, jj_mem 849 (by decide +kernel) (by decide +kernel), jj_mem 11 (by decide +kernel) (by decide +kernel)⟩
abbrev mX4_valueOf : jj_Mt := (yX4_valueOf, cX4_valueOf, 1, (some .int), [], none)
set_option maxRecDepth 100000 in
theorem okX4_valueOf : jj_okS mX4_valueOf 1 := ⟨⟨jj_mem 829 rfl rfl, jj_mem 89 (by decide +kernel) (by decide +kernel), by decide +kernel, ⟨by decide +kernel, by decide +kernel, by decide +kernel⟩, by decide, rfl, rfl⟩, jj_mem 828 (by decide +kernel) (by decide +kernel)⟩
abbrev mX5_init : jj_Mt := (yX5_init, cX5_init, 1, none, [], none)
set_option maxRecDepth 100000 in
theorem okX5_init : jj_ok mX5_init 0 ∧ Cond.instanceMethod mX5_init.1 ∈ jj_tg := ⟨⟨jj_mem 204 rfl rfl, jj_mem 91 (by decide +kernel) (by decide +kernel), by decide +kernel, ⟨by decide +kernel, by decide +kernel, by decide +kernel⟩, by decide, rfl, rfl⟩, jj_mem 203 (by decide +kernel) (by decide +kernel)⟩
abbrev mX5_hasRoom : jj_Mt := (yX5_hasRoom, cX5_hasRoom, 1, (some .boolean), [], none)
set_option maxRecDepth 100000 in
theorem okX5_hasRoom : jj_okV mX5_hasRoom 0 := ⟨⟨jj_mem 481 rfl rfl, jj_mem 91 (by decide +kernel) (by decide +kernel), by decide +kernel, ⟨by decide +kernel, by decide +kernel, by decide +kernel⟩, by decide, rfl, rfl⟩, jj_mem 479 (by decide +kernel) (by decide +kernel), jj_mem 480 (by decide +kernel) (by decide +kernel)⟩
abbrev mX5_add : jj_Mt := (yX5_add, cX5_add, 3, none, [], none)
set_option maxRecDepth 100000 in
theorem okX5_add : jj_okV mX5_add 1 := ⟨⟨jj_mem 485 rfl rfl, jj_mem 91 (by decide +kernel) (by decide +kernel), by decide +kernel, ⟨by decide +kernel, by decide +kernel, by decide +kernel⟩, by decide, rfl, rfl⟩, jj_mem 483 (by decide +kernel) (by decide +kernel), jj_mem 484 (by decide +kernel) (by decide +kernel)⟩
abbrev mX5_empty : jj_Mt := (yX5_empty, cX5_empty, 1, none, [], none)
set_option maxRecDepth 100000 in
theorem okX5_empty : jj_okV mX5_empty 0 := ⟨⟨jj_mem 786 rfl rfl, jj_mem 91 (by decide +kernel) (by decide +kernel), by decide +kernel, ⟨by decide +kernel, by decide +kernel, by decide +kernel⟩, by decide, rfl, rfl⟩, jj_mem 784 (by decide +kernel) (by decide +kernel), jj_mem 785 (by decide +kernel) (by decide +kernel)⟩
abbrev mX5_open : jj_Mt := (yX5_open, cX5_open, 2, none, [], none)
set_option maxRecDepth 100000 in
theorem okX5_open : jj_okV mX5_open 1 := ⟨⟨jj_mem 676 rfl rfl, jj_mem 91 (by decide +kernel) (by decide +kernel), by decide +kernel, ⟨by decide +kernel, by decide +kernel, by decide +kernel⟩, by decide, rfl, rfl⟩, jj_mem 674 (by decide +kernel) (by decide +kernel), jj_mem 675 (by decide +kernel) (by decide +kernel)⟩
abbrev mX5_advance : jj_Mt := (yX5_advance, cX5_advance, 1, none, [], none)
set_option maxRecDepth 100000 in
theorem okX5_advance : jj_okV mX5_advance 0 := ⟨⟨jj_mem 680 rfl rfl, jj_mem 91 (by decide +kernel) (by decide +kernel), by decide +kernel, ⟨by decide +kernel, by decide +kernel, by decide +kernel⟩, by decide, rfl, rfl⟩, jj_mem 678 (by decide +kernel) (by decide +kernel), jj_mem 679 (by decide +kernel) (by decide +kernel)⟩
abbrev mX5_isWord : jj_Mt := (yX5_isWord, cX5_isWord, 3, (some .boolean), [], none)
set_option maxRecDepth 100000 in
theorem okX5_isWord : jj_okV mX5_isWord 1 := ⟨⟨jj_mem 694 rfl rfl, jj_mem 91 (by decide +kernel) (by decide +kernel), by decide +kernel, ⟨by decide +kernel, by decide +kernel, by decide +kernel⟩, by decide, rfl, rfl⟩, jj_mem 692 (by decide +kernel) (by decide +kernel), jj_mem 693 (by decide +kernel) (by decide +kernel)⟩
abbrev mX5_isSign : jj_Mt := (yX5_isSign, cX5_isSign, 2, (some .boolean), [], none)
set_option maxRecDepth 100000 in
theorem okX5_isSign : jj_okV mX5_isSign 1 := ⟨⟨jj_mem 778 rfl rfl, jj_mem 91 (by decide +kernel) (by decide +kernel), by decide +kernel, ⟨by decide +kernel, by decide +kernel, by decide +kernel⟩, by decide, rfl, rfl⟩, jj_mem 776 (by decide +kernel) (by decide +kernel), jj_mem 777 (by decide +kernel) (by decide +kernel)⟩
abbrev mX5_isNumber : jj_Mt := (yX5_isNumber, cX5_isNumber, 2, (some .boolean), [], none)
set_option maxRecDepth 100000 in
theorem okX5_isNumber : jj_okV mX5_isNumber 1 := ⟨⟨jj_mem 766 rfl rfl, jj_mem 91 (by decide +kernel) (by decide +kernel), by decide +kernel, ⟨by decide +kernel, by decide +kernel, by decide +kernel⟩, by decide, rfl, rfl⟩, jj_mem 764 (by decide +kernel) (by decide +kernel), jj_mem 765 (by decide +kernel) (by decide +kernel)⟩
abbrev mX5_number : jj_Mt := (yX5_number, cX5_number, 3, (some .int), [], none)
set_option maxRecDepth 100000 in
theorem okX5_number : jj_okV mX5_number 1 := ⟨⟨jj_mem 757 rfl rfl, jj_mem 91 (by decide +kernel) (by decide +kernel), by decide +kernel, ⟨by decide +kernel, by decide +kernel, by decide +kernel⟩, by decide, rfl, rfl⟩, jj_mem 755 (by decide +kernel) (by decide +kernel), jj_mem 756 (by decide +kernel) (by decide +kernel)⟩
abbrev mX5_passSign : jj_Mt := (yX5_passSign, cX5_passSign, 2, (some .boolean), [], none)
set_option maxRecDepth 100000 in
theorem okX5_passSign : jj_okV mX5_passSign 1 := ⟨⟨jj_mem 774 rfl rfl, jj_mem 91 (by decide +kernel) (by decide +kernel), by decide +kernel, ⟨by decide +kernel, by decide +kernel, by decide +kernel⟩, by decide, rfl, rfl⟩, jj_mem 772 (by decide +kernel) (by decide +kernel), jj_mem 773 (by decide +kernel) (by decide +kernel)⟩
abbrev mX5_passEnd : jj_Mt := (yX5_passEnd, cX5_passEnd, 1, (some .boolean), [], none)
set_option maxRecDepth 100000 in
theorem okX5_passEnd : jj_okV mX5_passEnd 0 := ⟨⟨jj_mem 782 rfl rfl, jj_mem 91 (by decide +kernel) (by decide +kernel), by decide +kernel, ⟨by decide +kernel, by decide +kernel, by decide +kernel⟩, by decide, rfl, rfl⟩, jj_mem 780 (by decide +kernel) (by decide +kernel), jj_mem 781 (by decide +kernel) (by decide +kernel)⟩
abbrev mX5_failed : jj_Mt := (yX5_failed, cX5_failed, 2, (some .int), [], none)
set_option maxRecDepth 100000 in
theorem okX5_failed : jj_okV mX5_failed 1 := ⟨⟨jj_mem 748 rfl rfl, jj_mem 91 (by decide +kernel) (by decide +kernel), by decide +kernel, ⟨by decide +kernel, by decide +kernel, by decide +kernel⟩, by decide, rfl, rfl⟩, jj_mem 746 (by decide +kernel) (by decide +kernel), jj_mem 747 (by decide +kernel) (by decide +kernel)⟩
abbrev mX6_init : jj_Mt := (yX6_init, cX6_init, 1, none, [], none)
set_option maxRecDepth 100000 in
theorem okX6_init : jj_ok mX6_init 0 ∧ Cond.instanceMethod mX6_init.1 ∈ jj_tg := ⟨⟨jj_mem 382 rfl rfl, jj_mem 96 (by decide +kernel) (by decide +kernel), by decide +kernel, ⟨by decide +kernel, by decide +kernel, by decide +kernel⟩, by decide, rfl, rfl⟩, jj_mem 381 (by decide +kernel) (by decide +kernel)⟩
abbrev mX6_begin : jj_Mt := (yX6_begin, cX6_begin, 2, none, [], none)
set_option maxRecDepth 100000 in
theorem okX6_begin : jj_okV mX6_begin 0 := ⟨⟨jj_mem 427 rfl rfl, jj_mem 96 (by decide +kernel) (by decide +kernel), by decide +kernel, ⟨by decide +kernel, by decide +kernel, by decide +kernel⟩, by decide, rfl, rfl⟩, jj_mem 425 (by decide +kernel) (by decide +kernel), jj_mem 426 (by decide +kernel) (by decide +kernel)⟩
abbrev mX6_copyFrom : jj_Mt := (yX6_copyFrom, cX6_copyFrom, 3, none, [], none)
set_option maxRecDepth 100000 in
theorem okX6_copyFrom : jj_okV mX6_copyFrom 1 := ⟨⟨jj_mem 1070 rfl rfl, jj_mem 96 (by decide +kernel) (by decide +kernel), by decide +kernel, ⟨by decide +kernel, by decide +kernel, by decide +kernel⟩, by decide, rfl, rfl⟩, jj_mem 1068 (by decide +kernel) (by decide +kernel), jj_mem 1069 (by decide +kernel) (by decide +kernel)⟩
abbrev mX6_writeTo : jj_Mt := (yX6_writeTo, cX6_writeTo, 5, none, [], none)
set_option maxRecDepth 100000 in
theorem okX6_writeTo : jj_okV mX6_writeTo 2 := ⟨⟨jj_mem 578 rfl rfl, jj_mem 96 (by decide +kernel) (by decide +kernel), by decide +kernel, ⟨by decide +kernel, by decide +kernel, by decide +kernel⟩, by decide, rfl, rfl⟩, jj_mem 576 (by decide +kernel) (by decide +kernel), jj_mem 577 (by decide +kernel) (by decide +kernel)⟩
abbrev mX6_readFrom : jj_Mt := (yX6_readFrom, cX6_readFrom, 5, none, [], none)
set_option maxRecDepth 100000 in
theorem okX6_readFrom : jj_okV mX6_readFrom 2 := ⟨⟨jj_mem 501 rfl rfl, jj_mem 96 (by decide +kernel) (by decide +kernel), by decide +kernel, ⟨by decide +kernel, by decide +kernel, by decide +kernel⟩, by decide, rfl, rfl⟩, jj_mem 499 (by decide +kernel) (by decide +kernel), jj_mem 500 (by decide +kernel) (by decide +kernel)⟩
abbrev mX6_passDay : jj_Mt := (yX6_passDay, cX6_passDay, 3, none, [], none)
set_option maxRecDepth 100000 in
theorem okX6_passDay : jj_okV mX6_passDay 1 := ⟨⟨jj_mem 939 rfl rfl, jj_mem 96 (by decide +kernel) (by decide +kernel), by decide +kernel, ⟨by decide +kernel, by decide +kernel, by decide +kernel⟩, by decide, rfl, rfl⟩, jj_mem 937 (by decide +kernel) (by decide +kernel), jj_mem 938 (by decide +kernel) (by decide +kernel)⟩
abbrev mX6_isCut : jj_Mt := (yX6_isCut, cX6_isCut, 2, (some .boolean), [], none)
set_option maxRecDepth 100000 in
theorem okX6_isCut : jj_okV mX6_isCut 1 := ⟨⟨jj_mem 521 rfl rfl, jj_mem 96 (by decide +kernel) (by decide +kernel), by decide +kernel, ⟨by decide +kernel, by decide +kernel, by decide +kernel⟩, by decide, rfl, rfl⟩, jj_mem 519 (by decide +kernel) (by decide +kernel), jj_mem 520 (by decide +kernel) (by decide +kernel)⟩
abbrev mX6_isLoose : jj_Mt := (yX6_isLoose, cX6_isLoose, 2, (some .boolean), [], none)
set_option maxRecDepth 100000 in
theorem okX6_isLoose : jj_okV mX6_isLoose 1 := ⟨⟨jj_mem 517 rfl rfl, jj_mem 96 (by decide +kernel) (by decide +kernel), by decide +kernel, ⟨by decide +kernel, by decide +kernel, by decide +kernel⟩, by decide, rfl, rfl⟩, jj_mem 515 (by decide +kernel) (by decide +kernel), jj_mem 516 (by decide +kernel) (by decide +kernel)⟩
abbrev mX6_mayTie : jj_Mt := (yX6_mayTie, cX6_mayTie, 3, (some .boolean), [], none)
set_option maxRecDepth 100000 in
theorem okX6_mayTie : jj_okV mX6_mayTie 2 := ⟨⟨jj_mem 513 rfl rfl, jj_mem 96 (by decide +kernel) (by decide +kernel), by decide +kernel, ⟨by decide +kernel, by decide +kernel, by decide +kernel⟩, by decide, rfl, rfl⟩, jj_mem 511 (by decide +kernel) (by decide +kernel), jj_mem 512 (by decide +kernel) (by decide +kernel)⟩
abbrev mX6_behindOf : jj_Mt := (yX6_behindOf, cX6_behindOf, 2, (some .int), [], none)
set_option maxRecDepth 100000 in
theorem okX6_behindOf : jj_okV mX6_behindOf 1 := ⟨⟨jj_mem 533 rfl rfl, jj_mem 96 (by decide +kernel) (by decide +kernel), by decide +kernel, ⟨by decide +kernel, by decide +kernel, by decide +kernel⟩, by decide, rfl, rfl⟩, jj_mem 531 (by decide +kernel) (by decide +kernel), jj_mem 532 (by decide +kernel) (by decide +kernel)⟩
abbrev mX6_behindTogether : jj_Mt := (yX6_behindTogether, cX6_behindTogether, 4, (some .int), [], none)
set_option maxRecDepth 100000 in
theorem okX6_behindTogether : jj_okV mX6_behindTogether 1 := ⟨⟨jj_mem 989 rfl rfl, jj_mem 96 (by decide +kernel) (by decide +kernel), by decide +kernel, ⟨by decide +kernel, by decide +kernel, by decide +kernel⟩, by decide, rfl, rfl⟩, jj_mem 987 (by decide +kernel) (by decide +kernel), jj_mem 988 (by decide +kernel) (by decide +kernel)⟩
abbrev mX6_slipsTogether : jj_Mt := (yX6_slipsTogether, cX6_slipsTogether, 4, (some .int), [], none)
set_option maxRecDepth 100000 in
theorem okX6_slipsTogether : jj_okV mX6_slipsTogether 1 := ⟨⟨jj_mem 993 rfl rfl, jj_mem 96 (by decide +kernel) (by decide +kernel), by decide +kernel, ⟨by decide +kernel, by decide +kernel, by decide +kernel⟩, by decide, rfl, rfl⟩, jj_mem 991 (by decide +kernel) (by decide +kernel), jj_mem 992 (by decide +kernel) (by decide +kernel)⟩
abbrev mX6_behindBits : jj_Mt := (yX6_behindBits, cX6_behindBits, 4, (some .int), [], none)
set_option maxRecDepth 100000 in
theorem okX6_behindBits : jj_okV mX6_behindBits 1 := ⟨⟨jj_mem 984 rfl rfl, jj_mem 96 (by decide +kernel) (by decide +kernel), by decide +kernel, ⟨by decide +kernel, by decide +kernel, by decide +kernel⟩, by decide, rfl, rfl⟩, jj_mem 982 (by decide +kernel) (by decide +kernel), jj_mem 983 (by decide +kernel) (by decide +kernel)⟩
abbrev mX6_tiedBits : jj_Mt := (yX6_tiedBits, cX6_tiedBits, 5, (some .int), [], none)
set_option maxRecDepth 100000 in
theorem okX6_tiedBits : jj_okV mX6_tiedBits 2 := ⟨⟨jj_mem 980 rfl rfl, jj_mem 96 (by decide +kernel) (by decide +kernel), by decide +kernel, ⟨by decide +kernel, by decide +kernel, by decide +kernel⟩, by decide, rfl, rfl⟩, jj_mem 978 (by decide +kernel) (by decide +kernel), jj_mem 979 (by decide +kernel) (by decide +kernel)⟩
abbrev mX6_bitsInDay : jj_Mt := (yX6_bitsInDay, cX6_bitsInDay, 5, (some .int), [], none)
set_option maxRecDepth 100000 in
theorem okX6_bitsInDay : jj_okV mX6_bitsInDay 2 := ⟨⟨jj_mem 563 rfl rfl, jj_mem 96 (by decide +kernel) (by decide +kernel), by decide +kernel, ⟨by decide +kernel, by decide +kernel, by decide +kernel⟩, by decide, rfl, rfl⟩, jj_mem 561 (by decide +kernel) (by decide +kernel), jj_mem 562 (by decide +kernel) (by decide +kernel)⟩
abbrev mX7_init : jj_Mt := (yX7_init, cX7_init, 1, none, [], none)
set_option maxRecDepth 100000 in
theorem okX7_init : jj_ok mX7_init 0 ∧ Cond.instanceMethod mX7_init.1 ∈ jj_tg := ⟨⟨jj_mem 121 rfl rfl, jj_mem 88 (by decide +kernel) (by decide +kernel), by decide +kernel, ⟨by decide +kernel, by decide +kernel, by decide +kernel⟩, by decide, rfl, rfl⟩, jj_mem 120 (by decide +kernel) (by decide +kernel)⟩
abbrev mX7_copyFrom : jj_Mt := (yX7_copyFrom, cX7_copyFrom, 2, none, [], none)
set_option maxRecDepth 100000 in
theorem okX7_copyFrom : jj_okV mX7_copyFrom 1 := ⟨⟨jj_mem 790 rfl rfl, jj_mem 88 (by decide +kernel) (by decide +kernel), by decide +kernel, ⟨by decide +kernel, by decide +kernel, by decide +kernel⟩, by decide, rfl, rfl⟩, jj_mem 788 (by decide +kernel) (by decide +kernel), jj_mem 789 (by decide +kernel) (by decide +kernel)⟩
abbrev mX7_readFrom : jj_Mt := (yX7_readFrom, cX7_readFrom, 3, none, [], none)
set_option maxRecDepth 100000 in
theorem okX7_readFrom : jj_okV mX7_readFrom 1 := ⟨⟨jj_mem 685 rfl rfl, jj_mem 88 (by decide +kernel) (by decide +kernel), by decide +kernel, ⟨by decide +kernel, by decide +kernel, by decide +kernel⟩, by decide, rfl, rfl⟩, jj_mem 683 (by decide +kernel) (by decide +kernel), jj_mem 684 (by decide +kernel) (by decide +kernel)⟩
abbrev mX7_readClause : jj_Mt := (yX7_readClause, cX7_readClause, 6, (some .boolean), [], none)
set_option maxRecDepth 100000 in
theorem okX7_readClause : jj_okV mX7_readClause 2 := ⟨⟨jj_mem 689 rfl rfl, jj_mem 88 (by decide +kernel) (by decide +kernel), by decide +kernel, ⟨by decide +kernel, by decide +kernel, by decide +kernel⟩, by decide, rfl, rfl⟩, jj_mem 688 (by decide +kernel) (by decide +kernel), jj_mem 3 (by decide +kernel) (by decide +kernel)⟩
abbrev mX7_readPerson : jj_Mt := (yX7_readPerson, cX7_readPerson, 3, (some .boolean), [], none)
set_option maxRecDepth 100000 in
theorem okX7_readPerson : jj_okV mX7_readPerson 1 := ⟨⟨jj_mem 753 rfl rfl, jj_mem 88 (by decide +kernel) (by decide +kernel), by decide +kernel, ⟨by decide +kernel, by decide +kernel, by decide +kernel⟩, by decide, rfl, rfl⟩, jj_mem 752 (by decide +kernel) (by decide +kernel), jj_mem 4 (by decide +kernel) (by decide +kernel)⟩
abbrev mX7_readFriend : jj_Mt := (yX7_readFriend, cX7_readFriend, 4, (some .boolean), [], none)
set_option maxRecDepth 100000 in
theorem okX7_readFriend : jj_okV mX7_readFriend 1 := ⟨⟨jj_mem 762 rfl rfl, jj_mem 88 (by decide +kernel) (by decide +kernel), by decide +kernel, ⟨by decide +kernel, by decide +kernel, by decide +kernel⟩, by decide, rfl, rfl⟩, jj_mem 761 (by decide +kernel) (by decide +kernel), jj_mem 5 (by decide +kernel) (by decide +kernel)⟩
abbrev mX7_readString : jj_Mt := (yX7_readString, cX7_readString, 3, (some .boolean), [], none)
set_option maxRecDepth 100000 in
theorem okX7_readString : jj_okV mX7_readString 1 := ⟨⟨jj_mem 770 rfl rfl, jj_mem 88 (by decide +kernel) (by decide +kernel), by decide +kernel, ⟨by decide +kernel, by decide +kernel, by decide +kernel⟩, by decide, rfl, rfl⟩, jj_mem 769 (by decide +kernel) (by decide +kernel), jj_mem 6 (by decide +kernel) (by decide +kernel)⟩
abbrev mX7_wayBetween : jj_Mt := (yX7_wayBetween, cX7_wayBetween, 3, (some .int), [], none)
set_option maxRecDepth 100000 in
theorem okX7_wayBetween : jj_okV mX7_wayBetween 2 := ⟨⟨jj_mem 1090 rfl rfl, jj_mem 88 (by decide +kernel) (by decide +kernel), by decide +kernel, ⟨by decide +kernel, by decide +kernel, by decide +kernel⟩, by decide, rfl, rfl⟩, jj_mem 1088 (by decide +kernel) (by decide +kernel), jj_mem 1089 (by decide +kernel) (by decide +kernel)⟩
abbrev mX7_waysTogether : jj_Mt := (yX7_waysTogether, cX7_waysTogether, 4, (some .int), [], none)
set_option maxRecDepth 100000 in
theorem okX7_waysTogether : jj_okV mX7_waysTogether 1 := ⟨⟨jj_mem 1329 rfl rfl, jj_mem 88 (by decide +kernel) (by decide +kernel), by decide +kernel, ⟨by decide +kernel, by decide +kernel, by decide +kernel⟩, by decide, rfl, rfl⟩, jj_mem 1327 (by decide +kernel) (by decide +kernel), jj_mem 1328 (by decide +kernel) (by decide +kernel)⟩
abbrev mX7_friendsOf : jj_Mt := (yX7_friendsOf, cX7_friendsOf, 4, (some .int), [], none)
set_option maxRecDepth 100000 in
theorem okX7_friendsOf : jj_okV mX7_friendsOf 1 := ⟨⟨jj_mem 1276 rfl rfl, jj_mem 88 (by decide +kernel) (by decide +kernel), by decide +kernel, ⟨by decide +kernel, by decide +kernel, by decide +kernel⟩, by decide, rfl, rfl⟩, jj_mem 1274 (by decide +kernel) (by decide +kernel), jj_mem 1275 (by decide +kernel) (by decide +kernel)⟩
abbrev mX7_leastRound : jj_Mt := (yX7_leastRound, cX7_leastRound, 7, (some .int), [], none)
set_option maxRecDepth 100000 in
theorem okX7_leastRound : jj_okV mX7_leastRound 3 := ⟨⟨jj_mem 1108 rfl rfl, jj_mem 88 (by decide +kernel) (by decide +kernel), by decide +kernel, ⟨by decide +kernel, by decide +kernel, by decide +kernel⟩, by decide, rfl, rfl⟩, jj_mem 1106 (by decide +kernel) (by decide +kernel), jj_mem 1107 (by decide +kernel) (by decide +kernel)⟩
abbrev mX7_leastWayTo : jj_Mt := (yX7_leastWayTo, cX7_leastWayTo, 6, (some .int), [], none)
set_option maxRecDepth 100000 in
theorem okX7_leastWayTo : jj_okV mX7_leastWayTo 4 := ⟨⟨jj_mem 1112 rfl rfl, jj_mem 88 (by decide +kernel) (by decide +kernel), by decide +kernel, ⟨by decide +kernel, by decide +kernel, by decide +kernel⟩, by decide, rfl, rfl⟩, jj_mem 1111 (by decide +kernel) (by decide +kernel), jj_mem 24 (by decide +kernel) (by decide +kernel)⟩
abbrev mX7_leastOf : jj_Mt := (yX7_leastOf, cX7_leastOf, 7, (some .int), [], none)
set_option maxRecDepth 100000 in
theorem okX7_leastOf : jj_okV mX7_leastOf 3 := ⟨⟨jj_mem 1117 rfl rfl, jj_mem 88 (by decide +kernel) (by decide +kernel), by decide +kernel, ⟨by decide +kernel, by decide +kernel, by decide +kernel⟩, by decide, rfl, rfl⟩, jj_mem 1116 (by decide +kernel) (by decide +kernel), jj_mem 25 (by decide +kernel) (by decide +kernel)⟩
abbrev mX8_init : jj_Mt := (yX8_init, cX8_init, 2, none, [], none)
set_option maxRecDepth 100000 in
theorem okX8_init : jj_ok mX8_init 1 ∧ Cond.instanceMethod mX8_init.1 ∈ jj_tg := ⟨⟨jj_mem 246 rfl rfl, jj_mem 92 (by decide +kernel) (by decide +kernel), by decide +kernel, ⟨by decide +kernel, by decide +kernel, by decide +kernel⟩, by decide, rfl, rfl⟩, jj_mem 245 (by decide +kernel) (by decide +kernel)⟩
abbrev mX8_readFrom : jj_Mt := (yX8_readFrom, cX8_readFrom, 3, none, [], none)
set_option maxRecDepth 100000 in
theorem okX8_readFrom : jj_okV mX8_readFrom 2 := ⟨⟨jj_mem 870 rfl rfl, jj_mem 92 (by decide +kernel) (by decide +kernel), by decide +kernel, ⟨by decide +kernel, by decide +kernel, by decide +kernel⟩, by decide, rfl, rfl⟩, jj_mem 868 (by decide +kernel) (by decide +kernel), jj_mem 869 (by decide +kernel) (by decide +kernel)⟩
abbrev mX8_readSteps : jj_Mt := (yX8_readSteps, cX8_readSteps, 4, (some .boolean), [], none)
set_option maxRecDepth 100000 in
theorem okX8_readSteps : jj_okV mX8_readSteps 2 := ⟨⟨jj_mem 874 rfl rfl, jj_mem 92 (by decide +kernel) (by decide +kernel), by decide +kernel, ⟨by decide +kernel, by decide +kernel, by decide +kernel⟩, by decide, rfl, rfl⟩, jj_mem 873 (by decide +kernel) (by decide +kernel), jj_mem 12 (by decide +kernel) (by decide +kernel)⟩
abbrev mX8_readStep : jj_Mt := (yX8_readStep, cX8_readStep, 5, (some .boolean), [], none)
set_option maxRecDepth 100000 in
theorem okX8_readStep : jj_okV mX8_readStep 2 := ⟨⟨jj_mem 878 rfl rfl, jj_mem 92 (by decide +kernel) (by decide +kernel), by decide +kernel, ⟨by decide +kernel, by decide +kernel, by decide +kernel⟩, by decide, rfl, rfl⟩, jj_mem 877 (by decide +kernel) (by decide +kernel), jj_mem 13 (by decide +kernel) (by decide +kernel)⟩
abbrev mX8_readRepeated : jj_Mt := (yX8_readRepeated, cX8_readRepeated, 5, (some .boolean), [], none)
set_option maxRecDepth 100000 in
theorem okX8_readRepeated : jj_okV mX8_readRepeated 3 := ⟨⟨jj_mem 896 rfl rfl, jj_mem 92 (by decide +kernel) (by decide +kernel), by decide +kernel, ⟨by decide +kernel, by decide +kernel, by decide +kernel⟩, by decide, rfl, rfl⟩, jj_mem 895 (by decide +kernel) (by decide +kernel), jj_mem 14 (by decide +kernel) (by decide +kernel)⟩
abbrev mX8_kindOf : jj_Mt := (yX8_kindOf, cX8_kindOf, 1, (some .int), [], none)
set_option maxRecDepth 100000 in
theorem okX8_kindOf : jj_okS mX8_kindOf 1 := ⟨⟨jj_mem 881 rfl rfl, jj_mem 92 (by decide +kernel) (by decide +kernel), by decide +kernel, ⟨by decide +kernel, by decide +kernel, by decide +kernel⟩, by decide, rfl, rfl⟩, jj_mem 880 (by decide +kernel) (by decide +kernel)⟩
abbrev mX8_begin : jj_Mt := (yX8_begin, cX8_begin, 2, none, [], none)
set_option maxRecDepth 100000 in
theorem okX8_begin : jj_okV mX8_begin 1 := ⟨⟨jj_mem 906 rfl rfl, jj_mem 92 (by decide +kernel) (by decide +kernel), by decide +kernel, ⟨by decide +kernel, by decide +kernel, by decide +kernel⟩, by decide, rfl, rfl⟩, jj_mem 904 (by decide +kernel) (by decide +kernel), jj_mem 905 (by decide +kernel) (by decide +kernel)⟩
abbrev mX8_runSteps : jj_Mt := (yX8_runSteps, cX8_runSteps, 6, none, [], none)
set_option maxRecDepth 100000 in
theorem okX8_runSteps : jj_okV mX8_runSteps 3 := ⟨⟨jj_mem 910 rfl rfl, jj_mem 92 (by decide +kernel) (by decide +kernel), by decide +kernel, ⟨by decide +kernel, by decide +kernel, by decide +kernel⟩, by decide, rfl, rfl⟩, jj_mem 908 (by decide +kernel) (by decide +kernel), jj_mem 909 (by decide +kernel) (by decide +kernel)⟩
abbrev mX8_countStep : jj_Mt := (yX8_countStep, cX8_countStep, 2, none, [], none)
set_option maxRecDepth 100000 in
theorem okX8_countStep : jj_okV mX8_countStep 1 := ⟨⟨jj_mem 943 rfl rfl, jj_mem 92 (by decide +kernel) (by decide +kernel), by decide +kernel, ⟨by decide +kernel, by decide +kernel, by decide +kernel⟩, by decide, rfl, rfl⟩, jj_mem 942 (by decide +kernel) (by decide +kernel), jj_mem 17 (by decide +kernel) (by decide +kernel)⟩
abbrev mX8_runStep : jj_Mt := (yX8_runStep, cX8_runStep, 5, (some .boolean), [], none)
set_option maxRecDepth 100000 in
theorem okX8_runStep : jj_okV mX8_runStep 4 := ⟨⟨jj_mem 914 rfl rfl, jj_mem 92 (by decide +kernel) (by decide +kernel), by decide +kernel, ⟨by decide +kernel, by decide +kernel, by decide +kernel⟩, by decide, rfl, rfl⟩, jj_mem 913 (by decide +kernel) (by decide +kernel), jj_mem 15 (by decide +kernel) (by decide +kernel)⟩
abbrev mX8_cutLace : jj_Mt := (yX8_cutLace, cX8_cutLace, 2, (some .boolean), [], none)
set_option maxRecDepth 100000 in
theorem okX8_cutLace : jj_okS mX8_cutLace 2 := ⟨⟨jj_mem 924 rfl rfl, jj_mem 92 (by decide +kernel) (by decide +kernel), by decide +kernel, ⟨by decide +kernel, by decide +kernel, by decide +kernel⟩, by decide, rfl, rfl⟩, jj_mem 923 (by decide +kernel) (by decide +kernel)⟩
abbrev mX8_mendLace : jj_Mt := (yX8_mendLace, cX8_mendLace, 2, (some .boolean), [], none)
set_option maxRecDepth 100000 in
theorem okX8_mendLace : jj_okS mX8_mendLace 2 := ⟨⟨jj_mem 928 rfl rfl, jj_mem 92 (by decide +kernel) (by decide +kernel), by decide +kernel, ⟨by decide +kernel, by decide +kernel, by decide +kernel⟩, by decide, rfl, rfl⟩, jj_mem 927 (by decide +kernel) (by decide +kernel)⟩
abbrev mX8_undoLace : jj_Mt := (yX8_undoLace, cX8_undoLace, 2, (some .boolean), [], none)
set_option maxRecDepth 100000 in
theorem okX8_undoLace : jj_okS mX8_undoLace 2 := ⟨⟨jj_mem 931 rfl rfl, jj_mem 92 (by decide +kernel) (by decide +kernel), by decide +kernel, ⟨by decide +kernel, by decide +kernel, by decide +kernel⟩, by decide, rfl, rfl⟩, jj_mem 930 (by decide +kernel) (by decide +kernel)⟩
abbrev mX8_endDay : jj_Mt := (yX8_endDay, cX8_endDay, 2, (some .boolean), [], none)
set_option maxRecDepth 100000 in
theorem okX8_endDay : jj_okV mX8_endDay 1 := ⟨⟨jj_mem 935 rfl rfl, jj_mem 92 (by decide +kernel) (by decide +kernel), by decide +kernel, ⟨by decide +kernel, by decide +kernel, by decide +kernel⟩, by decide, rfl, rfl⟩, jj_mem 934 (by decide +kernel) (by decide +kernel), jj_mem 16 (by decide +kernel) (by decide +kernel)⟩
abbrev mX9_init : jj_Mt := (yX9_init, cX9_init, 5, none, [], none)
set_option maxRecDepth 100000 in
theorem okX9_init : jj_ok mX9_init 0 ∧ Cond.instanceMethod mX9_init.1 ∈ jj_tg := ⟨⟨jj_mem 113 rfl rfl, jj_mem 87 (by decide +kernel) (by decide +kernel), by decide +kernel, ⟨by decide +kernel, by decide +kernel, by decide +kernel⟩, by decide, rfl, rfl⟩, jj_mem 112 (by decide +kernel) (by decide +kernel)⟩
abbrev mX9_feed : jj_Mt := (yX9_feed, cX9_feed, 6, (some .int), [], none)
set_option maxRecDepth 100000 in
theorem okX9_feed : jj_okV mX9_feed 5 := ⟨⟨jj_mem 477 rfl rfl, jj_mem 87 (by decide +kernel) (by decide +kernel), by decide +kernel, ⟨by decide +kernel, by decide +kernel, by decide +kernel⟩, by decide, rfl, rfl⟩, jj_mem 475 (by decide +kernel) (by decide +kernel), jj_mem 476 (by decide +kernel) (by decide +kernel)⟩
abbrev mX9_street : jj_Mt := (yX9_street, cX9_street, 2, (some .int), [], none)
set_option maxRecDepth 100000 in
theorem okX9_street : jj_okV mX9_street 1 := ⟨⟨jj_mem 602 rfl rfl, jj_mem 87 (by decide +kernel) (by decide +kernel), by decide +kernel, ⟨by decide +kernel, by decide +kernel, by decide +kernel⟩, by decide, rfl, rfl⟩, jj_mem 600 (by decide +kernel) (by decide +kernel), jj_mem 601 (by decide +kernel) (by decide +kernel)⟩
abbrev mX9_law : jj_Mt := (yX9_law, cX9_law, 2, (some .int), [], none)
set_option maxRecDepth 100000 in
theorem okX9_law : jj_okV mX9_law 1 := ⟨⟨jj_mem 810 rfl rfl, jj_mem 87 (by decide +kernel) (by decide +kernel), by decide +kernel, ⟨by decide +kernel, by decide +kernel, by decide +kernel⟩, by decide, rfl, rfl⟩, jj_mem 808 (by decide +kernel) (by decide +kernel), jj_mem 809 (by decide +kernel) (by decide +kernel)⟩
abbrev mX9_work : jj_Mt := (yX9_work, cX9_work, 2, (some .int), [], none)
set_option maxRecDepth 100000 in
theorem okX9_work : jj_okV mX9_work 1 := ⟨⟨jj_mem 862 rfl rfl, jj_mem 87 (by decide +kernel) (by decide +kernel), by decide +kernel, ⟨by decide +kernel, by decide +kernel, by decide +kernel⟩, by decide, rfl, rfl⟩, jj_mem 860 (by decide +kernel) (by decide +kernel), jj_mem 861 (by decide +kernel) (by decide +kernel)⟩
abbrev mX9_book : jj_Mt := (yX9_book, cX9_book, 2, (some .int), [], none)
set_option maxRecDepth 100000 in
theorem okX9_book : jj_okV mX9_book 1 := ⟨⟨jj_mem 952 rfl rfl, jj_mem 87 (by decide +kernel) (by decide +kernel), by decide +kernel, ⟨by decide +kernel, by decide +kernel, by decide +kernel⟩, by decide, rfl, rfl⟩, jj_mem 950 (by decide +kernel) (by decide +kernel), jj_mem 951 (by decide +kernel) (by decide +kernel)⟩
abbrev mX9_fault : jj_Mt := (yX9_fault, cX9_fault, 1, (some .int), [], none)
set_option maxRecDepth 100000 in
theorem okX9_fault : jj_okV mX9_fault 0 := ⟨⟨jj_mem 489 rfl rfl, jj_mem 87 (by decide +kernel) (by decide +kernel), by decide +kernel, ⟨by decide +kernel, by decide +kernel, by decide +kernel⟩, by decide, rfl, rfl⟩, jj_mem 487 (by decide +kernel) (by decide +kernel), jj_mem 488 (by decide +kernel) (by decide +kernel)⟩
abbrev mX9_undo : jj_Mt := (yX9_undo, cX9_undo, 1, (some .int), [], none)
set_option maxRecDepth 100000 in
theorem okX9_undo : jj_okV mX9_undo 0 := ⟨⟨jj_mem 493 rfl rfl, jj_mem 87 (by decide +kernel) (by decide +kernel), by decide +kernel, ⟨by decide +kernel, by decide +kernel, by decide +kernel⟩, by decide, rfl, rfl⟩, jj_mem 491 (by decide +kernel) (by decide +kernel), jj_mem 492 (by decide +kernel) (by decide +kernel)⟩
abbrev mX9_told : jj_Mt := (yX9_told, cX9_told, 2, (some .int), [], none)
set_option maxRecDepth 100000 in
theorem okX9_told : jj_okV mX9_told 1 := ⟨⟨jj_mem 976 rfl rfl, jj_mem 87 (by decide +kernel) (by decide +kernel), by decide +kernel, ⟨by decide +kernel, by decide +kernel, by decide +kernel⟩, by decide, rfl, rfl⟩, jj_mem 974 (by decide +kernel) (by decide +kernel), jj_mem 975 (by decide +kernel) (by decide +kernel)⟩
abbrev mX9_person : jj_Mt := (yX9_person, cX9_person, 3, (some .int), [], none)
set_option maxRecDepth 100000 in
theorem okX9_person : jj_okV mX9_person 2 := ⟨⟨jj_mem 1001 rfl rfl, jj_mem 87 (by decide +kernel) (by decide +kernel), by decide +kernel, ⟨by decide +kernel, by decide +kernel, by decide +kernel⟩, by decide, rfl, rfl⟩, jj_mem 999 (by decide +kernel) (by decide +kernel), jj_mem 1000 (by decide +kernel) (by decide +kernel)⟩
abbrev mX9_hold : jj_Mt := (yX9_hold, cX9_hold, 4, (some .int), [], none)
set_option maxRecDepth 100000 in
theorem okX9_hold : jj_okV mX9_hold 3 := ⟨⟨jj_mem 1034 rfl rfl, jj_mem 87 (by decide +kernel) (by decide +kernel), by decide +kernel, ⟨by decide +kernel, by decide +kernel, by decide +kernel⟩, by decide, rfl, rfl⟩, jj_mem 1032 (by decide +kernel) (by decide +kernel), jj_mem 1033 (by decide +kernel) (by decide +kernel)⟩
abbrev mX9_would : jj_Mt := (yX9_would, cX9_would, 9, (some .int), [], none)
set_option maxRecDepth 100000 in
theorem okX9_would : jj_okV mX9_would 8 := ⟨⟨jj_mem 1045 rfl rfl, jj_mem 87 (by decide +kernel) (by decide +kernel), by decide +kernel, ⟨by decide +kernel, by decide +kernel, by decide +kernel⟩, by decide, rfl, rfl⟩, jj_mem 1043 (by decide +kernel) (by decide +kernel), jj_mem 1044 (by decide +kernel) (by decide +kernel)⟩
abbrev mX9_can : jj_Mt := (yX9_can, cX9_can, 3, (some .boolean), [], none)
set_option maxRecDepth 100000 in
theorem okX9_can : jj_okV mX9_can 2 := ⟨⟨jj_mem 1054 rfl rfl, jj_mem 87 (by decide +kernel) (by decide +kernel), by decide +kernel, ⟨by decide +kernel, by decide +kernel, by decide +kernel⟩, by decide, rfl, rfl⟩, jj_mem 1052 (by decide +kernel) (by decide +kernel), jj_mem 1053 (by decide +kernel) (by decide +kernel)⟩
abbrev mX9_ahead : jj_Mt := (yX9_ahead, cX9_ahead, 3, (some .int), [], none)
set_option maxRecDepth 100000 in
theorem okX9_ahead : jj_okV mX9_ahead 2 := ⟨⟨jj_mem 1062 rfl rfl, jj_mem 87 (by decide +kernel) (by decide +kernel), by decide +kernel, ⟨by decide +kernel, by decide +kernel, by decide +kernel⟩, by decide, rfl, rfl⟩, jj_mem 1060 (by decide +kernel) (by decide +kernel), jj_mem 1061 (by decide +kernel) (by decide +kernel)⟩
abbrev mX9_catches : jj_Mt := (yX9_catches, cX9_catches, 3, (some .int), [], none)
set_option maxRecDepth 100000 in
theorem okX9_catches : jj_okV mX9_catches 1 := ⟨⟨jj_mem 1078 rfl rfl, jj_mem 87 (by decide +kernel) (by decide +kernel), by decide +kernel, ⟨by decide +kernel, by decide +kernel, by decide +kernel⟩, by decide, rfl, rfl⟩, jj_mem 1076 (by decide +kernel) (by decide +kernel), jj_mem 1077 (by decide +kernel) (by decide +kernel)⟩
abbrev mX9_later : jj_Mt := (yX9_later, cX9_later, 3, (some .int), [], none)
set_option maxRecDepth 100000 in
theorem okX9_later : jj_okV mX9_later 2 := ⟨⟨jj_mem 1304 rfl rfl, jj_mem 87 (by decide +kernel) (by decide +kernel), by decide +kernel, ⟨by decide +kernel, by decide +kernel, by decide +kernel⟩, by decide, rfl, rfl⟩, jj_mem 1302 (by decide +kernel) (by decide +kernel), jj_mem 1303 (by decide +kernel) (by decide +kernel)⟩
abbrev mX9_letDaysPass : jj_Mt := (yX9_letDaysPass, cX9_letDaysPass, 3, none, [], none)
set_option maxRecDepth 100000 in
theorem okX9_letDaysPass : jj_okV mX9_letDaysPass 1 := ⟨⟨jj_mem 1066 rfl rfl, jj_mem 87 (by decide +kernel) (by decide +kernel), by decide +kernel, ⟨by decide +kernel, by decide +kernel, by decide +kernel⟩, by decide, rfl, rfl⟩, jj_mem 1065 (by decide +kernel) (by decide +kernel), jj_mem 22 (by decide +kernel) (by decide +kernel)⟩
abbrev mX9_far : jj_Mt := (yX9_far, cX9_far, 3, (some .int), [], none)
set_option maxRecDepth 100000 in
theorem okX9_far : jj_okV mX9_far 2 := ⟨⟨jj_mem 1086 rfl rfl, jj_mem 87 (by decide +kernel) (by decide +kernel), by decide +kernel, ⟨by decide +kernel, by decide +kernel, by decide +kernel⟩, by decide, rfl, rfl⟩, jj_mem 1084 (by decide +kernel) (by decide +kernel), jj_mem 1085 (by decide +kernel) (by decide +kernel)⟩
abbrev mX9_round : jj_Mt := (yX9_round, cX9_round, 3, (some .int), [], none)
set_option maxRecDepth 100000 in
theorem okX9_round : jj_okV mX9_round 2 := ⟨⟨jj_mem 1100 rfl rfl, jj_mem 87 (by decide +kernel) (by decide +kernel), by decide +kernel, ⟨by decide +kernel, by decide +kernel, by decide +kernel⟩, by decide, rfl, rfl⟩, jj_mem 1098 (by decide +kernel) (by decide +kernel), jj_mem 1099 (by decide +kernel) (by decide +kernel)⟩
abbrev mX9_nearest : jj_Mt := (yX9_nearest, cX9_nearest, 4, (some .int), [], none)
set_option maxRecDepth 100000 in
theorem okX9_nearest : jj_okV mX9_nearest 1 := ⟨⟨jj_mem 1297 rfl rfl, jj_mem 87 (by decide +kernel) (by decide +kernel), by decide +kernel, ⟨by decide +kernel, by decide +kernel, by decide +kernel⟩, by decide, rfl, rfl⟩, jj_mem 1295 (by decide +kernel) (by decide +kernel), jj_mem 1296 (by decide +kernel) (by decide +kernel)⟩
abbrev mX9_farthest : jj_Mt := (yX9_farthest, cX9_farthest, 6, (some .int), [], none)
set_option maxRecDepth 100000 in
theorem okX9_farthest : jj_okV mX9_farthest 1 := ⟨⟨jj_mem 1311 rfl rfl, jj_mem 87 (by decide +kernel) (by decide +kernel), by decide +kernel, ⟨by decide +kernel, by decide +kernel, by decide +kernel⟩, by decide, rfl, rfl⟩, jj_mem 1309 (by decide +kernel) (by decide +kernel), jj_mem 1310 (by decide +kernel) (by decide +kernel)⟩
abbrev mX9_middle : jj_Mt := (yX9_middle, cX9_middle, 6, (some .int), [], none)
set_option maxRecDepth 100000 in
theorem okX9_middle : jj_okV mX9_middle 1 := ⟨⟨jj_mem 1325 rfl rfl, jj_mem 87 (by decide +kernel) (by decide +kernel), by decide +kernel, ⟨by decide +kernel, by decide +kernel, by decide +kernel⟩, by decide, rfl, rfl⟩, jj_mem 1323 (by decide +kernel) (by decide +kernel), jj_mem 1324 (by decide +kernel) (by decide +kernel)⟩
abbrev mX9_kneel : jj_Mt := (yX9_kneel, cX9_kneel, 2, (some .int), [], none)
set_option maxRecDepth 100000 in
theorem okX9_kneel : jj_okV mX9_kneel 1 := ⟨⟨jj_mem 1126 rfl rfl, jj_mem 87 (by decide +kernel) (by decide +kernel), by decide +kernel, ⟨by decide +kernel, by decide +kernel, by decide +kernel⟩, by decide, rfl, rfl⟩, jj_mem 1124 (by decide +kernel) (by decide +kernel), jj_mem 1125 (by decide +kernel) (by decide +kernel)⟩
abbrev mX9_kneels : jj_Mt := (yX9_kneels, cX9_kneels, 2, (some .int), [], none)
set_option maxRecDepth 100000 in
theorem okX9_kneels : jj_okV mX9_kneels 1 := ⟨⟨jj_mem 1152 rfl rfl, jj_mem 87 (by decide +kernel) (by decide +kernel), by decide +kernel, ⟨by decide +kernel, by decide +kernel, by decide +kernel⟩, by decide, rfl, rfl⟩, jj_mem 1150 (by decide +kernel) (by decide +kernel), jj_mem 1151 (by decide +kernel) (by decide +kernel)⟩
abbrev mX9_ring : jj_Mt := (yX9_ring, cX9_ring, 6, (some .int), [], none)
set_option maxRecDepth 100000 in
theorem okX9_ring : jj_okV mX9_ring 2 := ⟨⟨jj_mem 1159 rfl rfl, jj_mem 87 (by decide +kernel) (by decide +kernel), by decide +kernel, ⟨by decide +kernel, by decide +kernel, by decide +kernel⟩, by decide, rfl, rfl⟩, jj_mem 1157 (by decide +kernel) (by decide +kernel), jj_mem 1158 (by decide +kernel) (by decide +kernel)⟩
abbrev mX9_helpers : jj_Mt := (yX9_helpers, cX9_helpers, 2, (some .int), [], none)
set_option maxRecDepth 100000 in
theorem okX9_helpers : jj_okV mX9_helpers 1 := ⟨⟨jj_mem 1250 rfl rfl, jj_mem 87 (by decide +kernel) (by decide +kernel), by decide +kernel, ⟨by decide +kernel, by decide +kernel, by decide +kernel⟩, by decide, rfl, rfl⟩, jj_mem 1248 (by decide +kernel) (by decide +kernel), jj_mem 1249 (by decide +kernel) (by decide +kernel)⟩
abbrev mX9_tied : jj_Mt := (yX9_tied, cX9_tied, 4, (some .int), [], none)
set_option maxRecDepth 100000 in
theorem okX9_tied : jj_okV mX9_tied 1 := ⟨⟨jj_mem 1258 rfl rfl, jj_mem 87 (by decide +kernel) (by decide +kernel), by decide +kernel, ⟨by decide +kernel, by decide +kernel, by decide +kernel⟩, by decide, rfl, rfl⟩, jj_mem 1256 (by decide +kernel) (by decide +kernel), jj_mem 1257 (by decide +kernel) (by decide +kernel)⟩
abbrev mX9_steady : jj_Mt := (yX9_steady, cX9_steady, 3, (some .int), [], none)
set_option maxRecDepth 100000 in
theorem okX9_steady : jj_okV mX9_steady 0 := ⟨⟨jj_mem 505 rfl rfl, jj_mem 87 (by decide +kernel) (by decide +kernel), by decide +kernel, ⟨by decide +kernel, by decide +kernel, by decide +kernel⟩, by decide, rfl, rfl⟩, jj_mem 503 (by decide +kernel) (by decide +kernel), jj_mem 504 (by decide +kernel) (by decide +kernel)⟩
abbrev mX9_best : jj_Mt := (yX9_best, cX9_best, 6, (some .int), [], none)
set_option maxRecDepth 100000 in
theorem okX9_best : jj_okV mX9_best 1 := ⟨⟨jj_mem 1283 rfl rfl, jj_mem 87 (by decide +kernel) (by decide +kernel), by decide +kernel, ⟨by decide +kernel, by decide +kernel, by decide +kernel⟩, by decide, rfl, rfl⟩, jj_mem 1281 (by decide +kernel) (by decide +kernel), jj_mem 1282 (by decide +kernel) (by decide +kernel)⟩
abbrev mX9_loose : jj_Mt := (yX9_loose, cX9_loose, 3, (some .int), [], none)
set_option maxRecDepth 100000 in
theorem okX9_loose : jj_okV mX9_loose 0 := ⟨⟨jj_mem 554 rfl rfl, jj_mem 87 (by decide +kernel) (by decide +kernel), by decide +kernel, ⟨by decide +kernel, by decide +kernel, by decide +kernel⟩, by decide, rfl, rfl⟩, jj_mem 552 (by decide +kernel) (by decide +kernel), jj_mem 553 (by decide +kernel) (by decide +kernel)⟩
abbrev mX9_kin : jj_Mt := (yX9_kin, cX9_kin, 4, (some .int), [], none)
set_option maxRecDepth 100000 in
theorem okX9_kin : jj_okV mX9_kin 1 := ⟨⟨jj_mem 1272 rfl rfl, jj_mem 87 (by decide +kernel) (by decide +kernel), by decide +kernel, ⟨by decide +kernel, by decide +kernel, by decide +kernel⟩, by decide, rfl, rfl⟩, jj_mem 1270 (by decide +kernel) (by decide +kernel), jj_mem 1271 (by decide +kernel) (by decide +kernel)⟩
abbrev mX9_slowest : jj_Mt := (yX9_slowest, cX9_slowest, 5, (some .int), [], none)
set_option maxRecDepth 100000 in
theorem okX9_slowest : jj_okV mX9_slowest 1 := ⟨⟨jj_mem 1243 rfl rfl, jj_mem 87 (by decide +kernel) (by decide +kernel), by decide +kernel, ⟨by decide +kernel, by decide +kernel, by decide +kernel⟩, by decide, rfl, rfl⟩, jj_mem 1241 (by decide +kernel) (by decide +kernel), jj_mem 1242 (by decide +kernel) (by decide +kernel)⟩
abbrev mX9_within : jj_Mt := (yX9_within, cX9_within, 2, (some .int), [], none)
set_option maxRecDepth 100000 in
theorem okX9_within : jj_okV mX9_within 1 := ⟨⟨jj_mem 1265 rfl rfl, jj_mem 87 (by decide +kernel) (by decide +kernel), by decide +kernel, ⟨by decide +kernel, by decide +kernel, by decide +kernel⟩, by decide, rfl, rfl⟩, jj_mem 1263 (by decide +kernel) (by decide +kernel), jj_mem 1264 (by decide +kernel) (by decide +kernel)⟩
abbrev mX9_days : jj_Mt := (yX9_days, cX9_days, 3, (some .int), [], none)
set_option maxRecDepth 100000 in
theorem okX9_days : jj_okV mX9_days 0 := ⟨⟨jj_mem 559 rfl rfl, jj_mem 87 (by decide +kernel) (by decide +kernel), by decide +kernel, ⟨by decide +kernel, by decide +kernel, by decide +kernel⟩, by decide, rfl, rfl⟩, jj_mem 557 (by decide +kernel) (by decide +kernel), jj_mem 558 (by decide +kernel) (by decide +kernel)⟩
abbrev mX9_gap : jj_Mt := (yX9_gap, cX9_gap, 3, (some .int), [], none)
set_option maxRecDepth 100000 in
theorem okX9_gap : jj_okV mX9_gap 2 := ⟨⟨jj_mem 1290 rfl rfl, jj_mem 87 (by decide +kernel) (by decide +kernel), by decide +kernel, ⟨by decide +kernel, by decide +kernel, by decide +kernel⟩, by decide, rfl, rfl⟩, jj_mem 1288 (by decide +kernel) (by decide +kernel), jj_mem 1289 (by decide +kernel) (by decide +kernel)⟩
abbrev mX9_mates : jj_Mt := (yX9_mates, cX9_mates, 2, (some .int), [], none)
set_option maxRecDepth 100000 in
theorem okX9_mates : jj_okV mX9_mates 1 := ⟨⟨jj_mem 1318 rfl rfl, jj_mem 87 (by decide +kernel) (by decide +kernel), by decide +kernel, ⟨by decide +kernel, by decide +kernel, by decide +kernel⟩, by decide, rfl, rfl⟩, jj_mem 1316 (by decide +kernel) (by decide +kernel), jj_mem 1317 (by decide +kernel) (by decide +kernel)⟩
abbrev mX9_fits : jj_Mt := (yX9_fits, cX9_fits, 2, (some .int), [], none)
set_option maxRecDepth 100000 in
theorem okX9_fits : jj_okV mX9_fits 1 := ⟨⟨jj_mem 1166 rfl rfl, jj_mem 87 (by decide +kernel) (by decide +kernel), by decide +kernel, ⟨by decide +kernel, by decide +kernel, by decide +kernel⟩, by decide, rfl, rfl⟩, jj_mem 1164 (by decide +kernel) (by decide +kernel), jj_mem 1165 (by decide +kernel) (by decide +kernel)⟩
abbrev mX9_look : jj_Mt := (yX9_look, cX9_look, 6, (some .int), [], none)
set_option maxRecDepth 100000 in
theorem okX9_look : jj_okV mX9_look 1 := ⟨⟨jj_mem 1191 rfl rfl, jj_mem 87 (by decide +kernel) (by decide +kernel), by decide +kernel, ⟨by decide +kernel, by decide +kernel, by decide +kernel⟩, by decide, rfl, rfl⟩, jj_mem 1189 (by decide +kernel) (by decide +kernel), jj_mem 1190 (by decide +kernel) (by decide +kernel)⟩
abbrev mX9_soldier : jj_Mt := (yX9_soldier, cX9_soldier, 10, (some .int), [], none)
set_option maxRecDepth 100000 in
theorem okX9_soldier : jj_okV mX9_soldier 3 := ⟨⟨jj_mem 1208 rfl rfl, jj_mem 87 (by decide +kernel) (by decide +kernel), by decide +kernel, ⟨by decide +kernel, by decide +kernel, by decide +kernel⟩, by decide, rfl, rfl⟩, jj_mem 1206 (by decide +kernel) (by decide +kernel), jj_mem 1207 (by decide +kernel) (by decide +kernel)⟩
abbrev mX9_isRest : jj_Mt := (yX9_isRest, cX9_isRest, 4, (some .boolean), [], none)
set_option maxRecDepth 100000 in
theorem okX9_isRest : jj_okS mX9_isRest 4 := ⟨⟨jj_mem 1211 rfl rfl, jj_mem 87 (by decide +kernel) (by decide +kernel), by decide +kernel, ⟨by decide +kernel, by decide +kernel, by decide +kernel⟩, by decide, rfl, rfl⟩, jj_mem 1210 (by decide +kernel) (by decide +kernel)⟩
abbrev mX9_soldierHas : jj_Mt := (yX9_soldierHas, cX9_soldierHas, 4, (some .int), [], none)
set_option maxRecDepth 100000 in
theorem okX9_soldierHas : jj_okS mX9_soldierHas 4 := ⟨⟨jj_mem 1214 rfl rfl, jj_mem 87 (by decide +kernel) (by decide +kernel), by decide +kernel, ⟨by decide +kernel, by decide +kernel, by decide +kernel⟩, by decide, rfl, rfl⟩, jj_mem 1213 (by decide +kernel) (by decide +kernel)⟩
abbrev mX9_dry : jj_Mt := (yX9_dry, cX9_dry, 12, (some .long), [], none)
set_option maxRecDepth 100000 in
theorem okX9_dry : jj_okV mX9_dry 4 := ⟨⟨jj_mem 1221 rfl rfl, jj_mem 87 (by decide +kernel) (by decide +kernel), by decide +kernel, ⟨by decide +kernel, by decide +kernel, by decide +kernel⟩, by decide, rfl, rfl⟩, jj_mem 1219 (by decide +kernel) (by decide +kernel), jj_mem 1220 (by decide +kernel) (by decide +kernel)⟩
abbrev mX9_power : jj_Mt := (yX9_power, cX9_power, 5, (some .long), [], none)
set_option maxRecDepth 100000 in
theorem okX9_power : jj_okS mX9_power 2 := ⟨⟨jj_mem 1224 rfl rfl, jj_mem 87 (by decide +kernel) (by decide +kernel), by decide +kernel, ⟨by decide +kernel, by decide +kernel, by decide +kernel⟩, by decide, rfl, rfl⟩, jj_mem 1223 (by decide +kernel) (by decide +kernel)⟩
abbrev mX9_share : jj_Mt := (yX9_share, cX9_share, 8, (some .int), [], none)
set_option maxRecDepth 100000 in
theorem okX9_share : jj_okV mX9_share 3 := ⟨⟨jj_mem 1231 rfl rfl, jj_mem 87 (by decide +kernel) (by decide +kernel), by decide +kernel, ⟨by decide +kernel, by decide +kernel, by decide +kernel⟩, by decide, rfl, rfl⟩, jj_mem 1229 (by decide +kernel) (by decide +kernel), jj_mem 1230 (by decide +kernel) (by decide +kernel)⟩
abbrev mX9_givenBy : jj_Mt := (yX9_givenBy, cX9_givenBy, 5, (some .int), [], none)
set_option maxRecDepth 100000 in
theorem okX9_givenBy : jj_okV mX9_givenBy 2 := ⟨⟨jj_mem 1235 rfl rfl, jj_mem 87 (by decide +kernel) (by decide +kernel), by decide +kernel, ⟨by decide +kernel, by decide +kernel, by decide +kernel⟩, by decide, rfl, rfl⟩, jj_mem 1234 (by decide +kernel) (by decide +kernel), jj_mem 31 (by decide +kernel) (by decide +kernel)⟩
abbrev mX9_week : jj_Mt := (yX9_week, cX9_week, 5, (some .int), [], none)
set_option maxRecDepth 100000 in
theorem okX9_week : jj_okV mX9_week 4 := ⟨⟨jj_mem 1336 rfl rfl, jj_mem 87 (by decide +kernel) (by decide +kernel), by decide +kernel, ⟨by decide +kernel, by decide +kernel, by decide +kernel⟩, by decide, rfl, rfl⟩, jj_mem 1334 (by decide +kernel) (by decide +kernel), jj_mem 1335 (by decide +kernel) (by decide +kernel)⟩
abbrev mX9_span : jj_Mt := (yX9_span, cX9_span, 11, (some .int), [], none)
set_option maxRecDepth 100000 in
theorem okX9_span : jj_okV mX9_span 6 := ⟨⟨jj_mem 1358 rfl rfl, jj_mem 87 (by decide +kernel) (by decide +kernel), by decide +kernel, ⟨by decide +kernel, by decide +kernel, by decide +kernel⟩, by decide, rfl, rfl⟩, jj_mem 1356 (by decide +kernel) (by decide +kernel), jj_mem 1357 (by decide +kernel) (by decide +kernel)⟩
abbrev mX9_isWeek : jj_Mt := (yX9_isWeek, cX9_isWeek, 2, (some .boolean), [], none)
set_option maxRecDepth 100000 in
theorem okX9_isWeek : jj_okS mX9_isWeek 2 := ⟨⟨jj_mem 1339 rfl rfl, jj_mem 87 (by decide +kernel) (by decide +kernel), by decide +kernel, ⟨by decide +kernel, by decide +kernel, by decide +kernel⟩, by decide, rfl, rfl⟩, jj_mem 1338 (by decide +kernel) (by decide +kernel)⟩
abbrev mX9_image : jj_Mt := (yX9_image, cX9_image, 1, (some .int), [], none)
set_option maxRecDepth 100000 in
theorem okX9_image : jj_okV mX9_image 0 := ⟨⟨jj_mem 567 rfl rfl, jj_mem 87 (by decide +kernel) (by decide +kernel), by decide +kernel, ⟨by decide +kernel, by decide +kernel, by decide +kernel⟩, by decide, rfl, rfl⟩, jj_mem 565 (by decide +kernel) (by decide +kernel), jj_mem 566 (by decide +kernel) (by decide +kernel)⟩
abbrev mX9_restore : jj_Mt := (yX9_restore, cX9_restore, 1, (some .int), [], none)
set_option maxRecDepth 100000 in
theorem okX9_restore : jj_okV mX9_restore 0 := ⟨⟨jj_mem 582 rfl rfl, jj_mem 87 (by decide +kernel) (by decide +kernel), by decide +kernel, ⟨by decide +kernel, by decide +kernel, by decide +kernel⟩, by decide, rfl, rfl⟩, jj_mem 580 (by decide +kernel) (by decide +kernel), jj_mem 581 (by decide +kernel) (by decide +kernel)⟩
abbrev mX9_status : jj_Mt := (yX9_status, cX9_status, 2, (some .int), [], none)
set_option maxRecDepth 100000 in
theorem okX9_status : jj_okV mX9_status 1 := ⟨⟨jj_mem 590 rfl rfl, jj_mem 87 (by decide +kernel) (by decide +kernel), by decide +kernel, ⟨by decide +kernel, by decide +kernel, by decide +kernel⟩, by decide, rfl, rfl⟩, jj_mem 588 (by decide +kernel) (by decide +kernel), jj_mem 589 (by decide +kernel) (by decide +kernel)⟩
abbrev mX9_count : jj_Mt := (yX9_count, cX9_count, 2, (some .int), [], none)
set_option maxRecDepth 100000 in
theorem okX9_count : jj_okV mX9_count 1 := ⟨⟨jj_mem 594 rfl rfl, jj_mem 87 (by decide +kernel) (by decide +kernel), by decide +kernel, ⟨by decide +kernel, by decide +kernel, by decide +kernel⟩, by decide, rfl, rfl⟩, jj_mem 592 (by decide +kernel) (by decide +kernel), jj_mem 593 (by decide +kernel) (by decide +kernel)⟩
abbrev mX9_require : jj_Mt := (yX9_require, cX9_require, 2, none, [], none)
set_option maxRecDepth 100000 in
theorem okX9_require : jj_okV mX9_require 1 := ⟨⟨jj_mem 606 rfl rfl, jj_mem 87 (by decide +kernel) (by decide +kernel), by decide +kernel, ⟨by decide +kernel, by decide +kernel, by decide +kernel⟩, by decide, rfl, rfl⟩, jj_mem 605 (by decide +kernel) (by decide +kernel), jj_mem 1 (by decide +kernel) (by decide +kernel)⟩
abbrev mX9_requirePerson : jj_Mt := (yX9_requirePerson, cX9_requirePerson, 2, none, [], none)
set_option maxRecDepth 100000 in
theorem okX9_requirePerson : jj_okV mX9_requirePerson 1 := ⟨⟨jj_mem 1005 rfl rfl, jj_mem 87 (by decide +kernel) (by decide +kernel), by decide +kernel, ⟨by decide +kernel, by decide +kernel, by decide +kernel⟩, by decide, rfl, rfl⟩, jj_mem 1004 (by decide +kernel) (by decide +kernel), jj_mem 20 (by decide +kernel) (by decide +kernel)⟩
abbrev mX9_requireBits : jj_Mt := (yX9_requireBits, cX9_requireBits, 2, none, [], none)
set_option maxRecDepth 100000 in
theorem okX9_requireBits : jj_okV mX9_requireBits 1 := ⟨⟨jj_mem 1104 rfl rfl, jj_mem 87 (by decide +kernel) (by decide +kernel), by decide +kernel, ⟨by decide +kernel, by decide +kernel, by decide +kernel⟩, by decide, rfl, rfl⟩, jj_mem 1103 (by decide +kernel) (by decide +kernel), jj_mem 23 (by decide +kernel) (by decide +kernel)⟩
abbrev mX9_isPerson : jj_Mt := (yX9_isPerson, cX9_isPerson, 2, (some .boolean), [], none)
set_option maxRecDepth 100000 in
theorem okX9_isPerson : jj_okV mX9_isPerson 1 := ⟨⟨jj_mem 1009 rfl rfl, jj_mem 87 (by decide +kernel) (by decide +kernel), by decide +kernel, ⟨by decide +kernel, by decide +kernel, by decide +kernel⟩, by decide, rfl, rfl⟩, jj_mem 1008 (by decide +kernel) (by decide +kernel), jj_mem 21 (by decide +kernel) (by decide +kernel)⟩
abbrev mX9_isBit : jj_Mt := (yX9_isBit, cX9_isBit, 1, (some .boolean), [], none)
set_option maxRecDepth 100000 in
theorem okX9_isBit : jj_okS mX9_isBit 1 := ⟨⟨jj_mem 1037 rfl rfl, jj_mem 87 (by decide +kernel) (by decide +kernel), by decide +kernel, ⟨by decide +kernel, by decide +kernel, by decide +kernel⟩, by decide, rfl, rfl⟩, jj_mem 1036 (by decide +kernel) (by decide +kernel)⟩
abbrev mX10_init : jj_Mt := (yX10_init, cX10_init, 1, none, [], none)
set_option maxRecDepth 100000 in
theorem okX10_init : jj_ok mX10_init 0 ∧ Cond.instanceMethod mX10_init.1 ∈ jj_tg := ⟨⟨jj_mem 1365 rfl rfl, jj_mem 97 (by decide +kernel) (by decide +kernel), by decide +kernel, ⟨by decide +kernel, by decide +kernel, by decide +kernel⟩, by decide, rfl, rfl⟩, jj_mem 1364 (by decide +kernel) (by decide +kernel)⟩
abbrev mX10_tellsNothing : jj_Mt := (yX10_tellsNothing, cX10_tellsNothing, 2, none, [], none)
set_option maxRecDepth 100000 in
theorem okX10_tellsNothing : jj_okV mX10_tellsNothing 0 := ⟨⟨jj_mem 1372 rfl rfl, jj_mem 97 (by decide +kernel) (by decide +kernel), by decide +kernel, ⟨by decide +kernel, by decide +kernel, by decide +kernel⟩, by decide, rfl, rfl⟩, jj_mem 1371 (by decide +kernel) (by decide +kernel), jj_mem 33 (by decide +kernel) (by decide +kernel)⟩
abbrev mX10_thrown : jj_Mt := (yX10_thrown, cX10_thrown, 1, (some .int), [], none)
set_option maxRecDepth 100000 in
theorem okX10_thrown : jj_okV mX10_thrown 0 := ⟨⟨jj_mem 1523 rfl rfl, jj_mem 97 (by decide +kernel) (by decide +kernel), by decide +kernel, ⟨by decide +kernel, by decide +kernel, by decide +kernel⟩, by decide, rfl, rfl⟩, jj_mem 1521 (by decide +kernel) (by decide +kernel), jj_mem 1522 (by decide +kernel) (by decide +kernel)⟩
abbrev mX10_bad : jj_Mt := (yX10_bad, cX10_bad, 4, (some .boolean), [], none)
set_option maxRecDepth 100000 in
theorem okX10_bad : jj_okV mX10_bad 3 := ⟨⟨jj_mem 1538 rfl rfl, jj_mem 97 (by decide +kernel) (by decide +kernel), by decide +kernel, ⟨by decide +kernel, by decide +kernel, by decide +kernel⟩, by decide, rfl, rfl⟩, jj_mem 1537 (by decide +kernel) (by decide +kernel), jj_mem 35 (by decide +kernel) (by decide +kernel)⟩
abbrev mX10_in : jj_Mt := (yX10_in, cX10_in, 3, (some .boolean), [], none)
set_option maxRecDepth 100000 in
theorem okX10_in : jj_okS mX10_in 3 := ⟨⟨jj_mem 1534 rfl rfl, jj_mem 97 (by decide +kernel) (by decide +kernel), by decide +kernel, ⟨by decide +kernel, by decide +kernel, by decide +kernel⟩, by decide, rfl, rfl⟩, jj_mem 1533 (by decide +kernel) (by decide +kernel)⟩
abbrev mX10_less : jj_Mt := (yX10_less, cX10_less, 2, (some .int), [], none)
set_option maxRecDepth 100000 in
theorem okX10_less : jj_okS mX10_less 2 := ⟨⟨jj_mem 1705 rfl rfl, jj_mem 97 (by decide +kernel) (by decide +kernel), by decide +kernel, ⟨by decide +kernel, by decide +kernel, by decide +kernel⟩, by decide, rfl, rfl⟩, jj_mem 1704 (by decide +kernel) (by decide +kernel)⟩
abbrev mX10_more : jj_Mt := (yX10_more, cX10_more, 2, (some .int), [], none)
set_option maxRecDepth 100000 in
theorem okX10_more : jj_okS mX10_more 2 := ⟨⟨jj_mem 1708 rfl rfl, jj_mem 97 (by decide +kernel) (by decide +kernel), by decide +kernel, ⟨by decide +kernel, by decide +kernel, by decide +kernel⟩, by decide, rfl, rfl⟩, jj_mem 1707 (by decide +kernel) (by decide +kernel)⟩
abbrev mX10_has : jj_Mt := (yX10_has, cX10_has, 2, (some .boolean), [], none)
set_option maxRecDepth 100000 in
theorem okX10_has : jj_okS mX10_has 2 := ⟨⟨jj_mem 1647 rfl rfl, jj_mem 97 (by decide +kernel) (by decide +kernel), by decide +kernel, ⟨by decide +kernel, by decide +kernel, by decide +kernel⟩, by decide, rfl, rfl⟩, jj_mem 1646 (by decide +kernel) (by decide +kernel)⟩
abbrev mX10_feed : jj_Mt := (yX10_feed, cX10_feed, 8, (some .int), [], none)
set_option maxRecDepth 100000 in
theorem okX10_feed : jj_okV mX10_feed 5 := ⟨⟨jj_mem 1527 rfl rfl, jj_mem 97 (by decide +kernel) (by decide +kernel), by decide +kernel, ⟨by decide +kernel, by decide +kernel, by decide +kernel⟩, by decide, rfl, rfl⟩, jj_mem 1525 (by decide +kernel) (by decide +kernel), jj_mem 1526 (by decide +kernel) (by decide +kernel)⟩
abbrev mX10_byteAt : jj_Mt := (yX10_byteAt, cX10_byteAt, 2, (some .int), [], none)
set_option maxRecDepth 100000 in
theorem okX10_byteAt : jj_okV mX10_byteAt 1 := ⟨⟨jj_mem 1550 rfl rfl, jj_mem 97 (by decide +kernel) (by decide +kernel), by decide +kernel, ⟨by decide +kernel, by decide +kernel, by decide +kernel⟩, by decide, rfl, rfl⟩, jj_mem 1549 (by decide +kernel) (by decide +kernel), jj_mem 38 (by decide +kernel) (by decide +kernel)⟩
abbrev mX10_blanks : jj_Mt := (yX10_blanks, cX10_blanks, 1, none, [], none)
set_option maxRecDepth 100000 in
theorem okX10_blanks : jj_okV mX10_blanks 0 := ⟨⟨jj_mem 1546 rfl rfl, jj_mem 97 (by decide +kernel) (by decide +kernel), by decide +kernel, ⟨by decide +kernel, by decide +kernel, by decide +kernel⟩, by decide, rfl, rfl⟩, jj_mem 1545 (by decide +kernel) (by decide +kernel), jj_mem 37 (by decide +kernel) (by decide +kernel)⟩
abbrev mX10_wrong : jj_Mt := (yX10_wrong, cX10_wrong, 3, none, [], none)
set_option maxRecDepth 100000 in
theorem okX10_wrong : jj_okV mX10_wrong 2 := ⟨⟨jj_mem 1576 rfl rfl, jj_mem 97 (by decide +kernel) (by decide +kernel), by decide +kernel, ⟨by decide +kernel, by decide +kernel, by decide +kernel⟩, by decide, rfl, rfl⟩, jj_mem 1575 (by decide +kernel) (by decide +kernel), jj_mem 43 (by decide +kernel) (by decide +kernel)⟩
abbrev mX10_isDigit : jj_Mt := (yX10_isDigit, cX10_isDigit, 1, (some .boolean), [], none)
set_option maxRecDepth 100000 in
theorem okX10_isDigit : jj_okS mX10_isDigit 1 := ⟨⟨jj_mem 1587 rfl rfl, jj_mem 97 (by decide +kernel) (by decide +kernel), by decide +kernel, ⟨by decide +kernel, by decide +kernel, by decide +kernel⟩, by decide, rfl, rfl⟩, jj_mem 1586 (by decide +kernel) (by decide +kernel)⟩
abbrev mX10_isSmall : jj_Mt := (yX10_isSmall, cX10_isSmall, 1, (some .boolean), [], none)
set_option maxRecDepth 100000 in
theorem okX10_isSmall : jj_okS mX10_isSmall 1 := ⟨⟨jj_mem 1569 rfl rfl, jj_mem 97 (by decide +kernel) (by decide +kernel), by decide +kernel, ⟨by decide +kernel, by decide +kernel, by decide +kernel⟩, by decide, rfl, rfl⟩, jj_mem 1568 (by decide +kernel) (by decide +kernel)⟩
abbrev mX10_number : jj_Mt := (yX10_number, cX10_number, 5, (some .int), [], none)
set_option maxRecDepth 100000 in
theorem okX10_number : jj_okV mX10_number 2 := ⟨⟨jj_mem 1584 rfl rfl, jj_mem 97 (by decide +kernel) (by decide +kernel), by decide +kernel, ⟨by decide +kernel, by decide +kernel, by decide +kernel⟩, by decide, rfl, rfl⟩, jj_mem 1583 (by decide +kernel) (by decide +kernel), jj_mem 45 (by decide +kernel) (by decide +kernel)⟩
abbrev mX10_wordHere : jj_Mt := (yX10_wordHere, cX10_wordHere, 3, (some .int), [], none)
set_option maxRecDepth 100000 in
theorem okX10_wordHere : jj_okV mX10_wordHere 0 := ⟨⟨jj_mem 1566 rfl rfl, jj_mem 97 (by decide +kernel) (by decide +kernel), by decide +kernel, ⟨by decide +kernel, by decide +kernel, by decide +kernel⟩, by decide, rfl, rfl⟩, jj_mem 1565 (by decide +kernel) (by decide +kernel), jj_mem 42 (by decide +kernel) (by decide +kernel)⟩
abbrev mX10_six : jj_Mt := (yX10_six, cX10_six, 7, (some .int), [], none)
set_option maxRecDepth 100000 in
theorem okX10_six : jj_okS mX10_six 6 := ⟨⟨jj_mem 1572 rfl rfl, jj_mem 97 (by decide +kernel) (by decide +kernel), by decide +kernel, ⟨by decide +kernel, by decide +kernel, by decide +kernel⟩, by decide, rfl, rfl⟩, jj_mem 1571 (by decide +kernel) (by decide +kernel)⟩
abbrev mX10_isWord : jj_Mt := (yX10_isWord, cX10_isWord, 7, (some .boolean), [], none)
set_option maxRecDepth 100000 in
theorem okX10_isWord : jj_okV mX10_isWord 6 := ⟨⟨jj_mem 1562 rfl rfl, jj_mem 97 (by decide +kernel) (by decide +kernel), by decide +kernel, ⟨by decide +kernel, by decide +kernel, by decide +kernel⟩, by decide, rfl, rfl⟩, jj_mem 1561 (by decide +kernel) (by decide +kernel), jj_mem 41 (by decide +kernel) (by decide +kernel)⟩
abbrev mX10_takesSeven : jj_Mt := (yX10_takesSeven, cX10_takesSeven, 6, (some .boolean), [], none)
set_option maxRecDepth 100000 in
theorem okX10_takesSeven : jj_okV mX10_takesSeven 2 := ⟨⟨jj_mem 1632 rfl rfl, jj_mem 97 (by decide +kernel) (by decide +kernel), by decide +kernel, ⟨by decide +kernel, by decide +kernel, by decide +kernel⟩, by decide, rfl, rfl⟩, jj_mem 1631 (by decide +kernel) (by decide +kernel), jj_mem 55 (by decide +kernel) (by decide +kernel)⟩
abbrev mX10_skipWord : jj_Mt := (yX10_skipWord, cX10_skipWord, 1, none, [], none)
set_option maxRecDepth 100000 in
theorem okX10_skipWord : jj_okV mX10_skipWord 0 := ⟨⟨jj_mem 1580 rfl rfl, jj_mem 97 (by decide +kernel) (by decide +kernel), by decide +kernel, ⟨by decide +kernel, by decide +kernel, by decide +kernel⟩, by decide, rfl, rfl⟩, jj_mem 1579 (by decide +kernel) (by decide +kernel), jj_mem 44 (by decide +kernel) (by decide +kernel)⟩
abbrev mX10_takes : jj_Mt := (yX10_takes, cX10_takes, 8, (some .boolean), [], none)
set_option maxRecDepth 100000 in
theorem okX10_takes : jj_okV mX10_takes 6 := ⟨⟨jj_mem 1636 rfl rfl, jj_mem 97 (by decide +kernel) (by decide +kernel), by decide +kernel, ⟨by decide +kernel, by decide +kernel, by decide +kernel⟩, by decide, rfl, rfl⟩, jj_mem 1635 (by decide +kernel) (by decide +kernel), jj_mem 56 (by decide +kernel) (by decide +kernel)⟩
abbrev mX10_sign : jj_Mt := (yX10_sign, cX10_sign, 2, none, [], none)
set_option maxRecDepth 100000 in
theorem okX10_sign : jj_okV mX10_sign 1 := ⟨⟨jj_mem 1596 rfl rfl, jj_mem 97 (by decide +kernel) (by decide +kernel), by decide +kernel, ⟨by decide +kernel, by decide +kernel, by decide +kernel⟩, by decide, rfl, rfl⟩, jj_mem 1595 (by decide +kernel) (by decide +kernel), jj_mem 47 (by decide +kernel) (by decide +kernel)⟩
abbrev mX10_takesSign : jj_Mt := (yX10_takesSign, cX10_takesSign, 3, (some .boolean), [], none)
set_option maxRecDepth 100000 in
theorem okX10_takesSign : jj_okV mX10_takesSign 1 := ⟨⟨jj_mem 1640 rfl rfl, jj_mem 97 (by decide +kernel) (by decide +kernel), by decide +kernel, ⟨by decide +kernel, by decide +kernel, by decide +kernel⟩, by decide, rfl, rfl⟩, jj_mem 1639 (by decide +kernel) (by decide +kernel), jj_mem 57 (by decide +kernel) (by decide +kernel)⟩
abbrev mX10_starts : jj_Mt := (yX10_starts, cX10_starts, 2, none, [], none)
set_option maxRecDepth 100000 in
theorem okX10_starts : jj_okV mX10_starts 1 := ⟨⟨jj_mem 1542 rfl rfl, jj_mem 97 (by decide +kernel) (by decide +kernel), by decide +kernel, ⟨by decide +kernel, by decide +kernel, by decide +kernel⟩, by decide, rfl, rfl⟩, jj_mem 1541 (by decide +kernel) (by decide +kernel), jj_mem 36 (by decide +kernel) (by decide +kernel)⟩
abbrev mX10_ends : jj_Mt := (yX10_ends, cX10_ends, 1, (some .int), [], none)
set_option maxRecDepth 100000 in
theorem okX10_ends : jj_okV mX10_ends 0 := ⟨⟨jj_mem 1600 rfl rfl, jj_mem 97 (by decide +kernel) (by decide +kernel), by decide +kernel, ⟨by decide +kernel, by decide +kernel, by decide +kernel⟩, by decide, rfl, rfl⟩, jj_mem 1599 (by decide +kernel) (by decide +kernel), jj_mem 48 (by decide +kernel) (by decide +kernel)⟩
abbrev mX10_kindHere : jj_Mt := (yX10_kindHere, cX10_kindHere, 1, (some .int), [], none)
set_option maxRecDepth 100000 in
theorem okX10_kindHere : jj_okV mX10_kindHere 0 := ⟨⟨jj_mem 1558 rfl rfl, jj_mem 97 (by decide +kernel) (by decide +kernel), by decide +kernel, ⟨by decide +kernel, by decide +kernel, by decide +kernel⟩, by decide, rfl, rfl⟩, jj_mem 1557 (by decide +kernel) (by decide +kernel), jj_mem 40 (by decide +kernel) (by decide +kernel)⟩
abbrev mX10_friends : jj_Mt := (yX10_friends, cX10_friends, 4, none, [], none)
set_option maxRecDepth 100000 in
theorem okX10_friends : jj_okV mX10_friends 0 := ⟨⟨jj_mem 1592 rfl rfl, jj_mem 97 (by decide +kernel) (by decide +kernel), by decide +kernel, ⟨by decide +kernel, by decide +kernel, by decide +kernel⟩, by decide, rfl, rfl⟩, jj_mem 1591 (by decide +kernel) (by decide +kernel), jj_mem 46 (by decide +kernel) (by decide +kernel)⟩
abbrev mX10_clause : jj_Mt := (yX10_clause, cX10_clause, 3, none, [], none)
set_option maxRecDepth 100000 in
theorem okX10_clause : jj_okV mX10_clause 0 := ⟨⟨jj_mem 1554 rfl rfl, jj_mem 97 (by decide +kernel) (by decide +kernel), by decide +kernel, ⟨by decide +kernel, by decide +kernel, by decide +kernel⟩, by decide, rfl, rfl⟩, jj_mem 1553 (by decide +kernel) (by decide +kernel), jj_mem 39 (by decide +kernel) (by decide +kernel)⟩
abbrev mX10_street : jj_Mt := (yX10_street, cX10_street, 2, (some .int), [], none)
set_option maxRecDepth 100000 in
theorem okX10_street : jj_okV mX10_street 1 := ⟨⟨jj_mem 1531 rfl rfl, jj_mem 97 (by decide +kernel) (by decide +kernel), by decide +kernel, ⟨by decide +kernel, by decide +kernel, by decide +kernel⟩, by decide, rfl, rfl⟩, jj_mem 1529 (by decide +kernel) (by decide +kernel), jj_mem 1530 (by decide +kernel) (by decide +kernel)⟩
abbrev mX10_lays : jj_Mt := (yX10_lays, cX10_lays, 5, none, [], none)
set_option maxRecDepth 100000 in
theorem okX10_lays : jj_okS mX10_lays 3 := ⟨⟨jj_mem 1379 rfl rfl, jj_mem 97 (by decide +kernel) (by decide +kernel), by decide +kernel, ⟨by decide +kernel, by decide +kernel, by decide +kernel⟩, by decide, rfl, rfl⟩, jj_mem 1378 (by decide +kernel) (by decide +kernel)⟩
abbrev mX10_copies : jj_Mt := (yX10_copies, cX10_copies, 3, none, [], none)
set_option maxRecDepth 100000 in
theorem okX10_copies : jj_okS mX10_copies 2 := ⟨⟨jj_mem 1666 rfl rfl, jj_mem 97 (by decide +kernel) (by decide +kernel), by decide +kernel, ⟨by decide +kernel, by decide +kernel, by decide +kernel⟩, by decide, rfl, rfl⟩, jj_mem 1665 (by decide +kernel) (by decide +kernel)⟩
abbrev mX10_beginsAnew : jj_Mt := (yX10_beginsAnew, cX10_beginsAnew, 2, none, [], none)
set_option maxRecDepth 100000 in
theorem okX10_beginsAnew : jj_okV mX10_beginsAnew 0 := ⟨⟨jj_mem 1376 rfl rfl, jj_mem 97 (by decide +kernel) (by decide +kernel), by decide +kernel, ⟨by decide +kernel, by decide +kernel, by decide +kernel⟩, by decide, rfl, rfl⟩, jj_mem 1375 (by decide +kernel) (by decide +kernel), jj_mem 34 (by decide +kernel) (by decide +kernel)⟩
abbrev mX10_notes : jj_Mt := (yX10_notes, cX10_notes, 3, none, [], none)
set_option maxRecDepth 100000 in
theorem okX10_notes : jj_okV mX10_notes 2 := ⟨⟨jj_mem 1624 rfl rfl, jj_mem 97 (by decide +kernel) (by decide +kernel), by decide +kernel, ⟨by decide +kernel, by decide +kernel, by decide +kernel⟩, by decide, rfl, rfl⟩, jj_mem 1623 (by decide +kernel) (by decide +kernel), jj_mem 53 (by decide +kernel) (by decide +kernel)⟩
abbrev mX10_opensOne : jj_Mt := (yX10_opensOne, cX10_opensOne, 1, (some .boolean), [], none)
set_option maxRecDepth 100000 in
theorem okX10_opensOne : jj_okV mX10_opensOne 0 := ⟨⟨jj_mem 1620 rfl rfl, jj_mem 97 (by decide +kernel) (by decide +kernel), by decide +kernel, ⟨by decide +kernel, by decide +kernel, by decide +kernel⟩, by decide, rfl, rfl⟩, jj_mem 1619 (by decide +kernel) (by decide +kernel), jj_mem 52 (by decide +kernel) (by decide +kernel)⟩
abbrev mX10_sum : jj_Mt := (yX10_sum, cX10_sum, 2, none, [], none)
set_option maxRecDepth 100000 in
theorem okX10_sum : jj_okV mX10_sum 0 := ⟨⟨jj_mem 1608 rfl rfl, jj_mem 97 (by decide +kernel) (by decide +kernel), by decide +kernel, ⟨by decide +kernel, by decide +kernel, by decide +kernel⟩, by decide, rfl, rfl⟩, jj_mem 1607 (by decide +kernel) (by decide +kernel), jj_mem 49 (by decide +kernel) (by decide +kernel)⟩
abbrev mX10_product : jj_Mt := (yX10_product, cX10_product, 2, none, [], none)
set_option maxRecDepth 100000 in
theorem okX10_product : jj_okV mX10_product 0 := ⟨⟨jj_mem 1612 rfl rfl, jj_mem 97 (by decide +kernel) (by decide +kernel), by decide +kernel, ⟨by decide +kernel, by decide +kernel, by decide +kernel⟩, by decide, rfl, rfl⟩, jj_mem 1611 (by decide +kernel) (by decide +kernel), jj_mem 50 (by decide +kernel) (by decide +kernel)⟩
abbrev mX10_knownHere : jj_Mt := (yX10_knownHere, cX10_knownHere, 1, (some .int), [], none)
set_option maxRecDepth 100000 in
theorem okX10_knownHere : jj_okV mX10_knownHere 0 := ⟨⟨jj_mem 1628 rfl rfl, jj_mem 97 (by decide +kernel) (by decide +kernel), by decide +kernel, ⟨by decide +kernel, by decide +kernel, by decide +kernel⟩, by decide, rfl, rfl⟩, jj_mem 1627 (by decide +kernel) (by decide +kernel), jj_mem 54 (by decide +kernel) (by decide +kernel)⟩
abbrev mX10_one : jj_Mt := (yX10_one, cX10_one, 3, none, [], none)
set_option maxRecDepth 100000 in
theorem okX10_one : jj_okV mX10_one 0 := ⟨⟨jj_mem 1616 rfl rfl, jj_mem 97 (by decide +kernel) (by decide +kernel), by decide +kernel, ⟨by decide +kernel, by decide +kernel, by decide +kernel⟩, by decide, rfl, rfl⟩, jj_mem 1615 (by decide +kernel) (by decide +kernel), jj_mem 51 (by decide +kernel) (by decide +kernel)⟩
abbrev mX10_law : jj_Mt := (yX10_law, cX10_law, 2, (some .int), [], none)
set_option maxRecDepth 100000 in
theorem okX10_law : jj_okV mX10_law 1 := ⟨⟨jj_mem 1604 rfl rfl, jj_mem 97 (by decide +kernel) (by decide +kernel), by decide +kernel, ⟨by decide +kernel, by decide +kernel, by decide +kernel⟩, by decide, rfl, rfl⟩, jj_mem 1602 (by decide +kernel) (by decide +kernel), jj_mem 1603 (by decide +kernel) (by decide +kernel)⟩
abbrev mX10_by : jj_Mt := (yX10_by, cX10_by, 3, (some .int), [], none)
set_option maxRecDepth 100000 in
theorem okX10_by : jj_okS mX10_by 3 := ⟨⟨jj_mem 1702 rfl rfl, jj_mem 97 (by decide +kernel) (by decide +kernel), by decide +kernel, ⟨by decide +kernel, by decide +kernel, by decide +kernel⟩, by decide, rfl, rfl⟩, jj_mem 1701 (by decide +kernel) (by decide +kernel)⟩
abbrev mX10_byLaw : jj_Mt := (yX10_byLaw, cX10_byLaw, 3, (some .int), [], none)
set_option maxRecDepth 100000 in
theorem okX10_byLaw : jj_okV mX10_byLaw 0 := ⟨⟨jj_mem 1699 rfl rfl, jj_mem 97 (by decide +kernel) (by decide +kernel), by decide +kernel, ⟨by decide +kernel, by decide +kernel, by decide +kernel⟩, by decide, rfl, rfl⟩, jj_mem 1698 (by decide +kernel) (by decide +kernel), jj_mem 65 (by decide +kernel) (by decide +kernel)⟩
abbrev mX10_stepHere : jj_Mt := (yX10_stepHere, cX10_stepHere, 1, (some .int), [], none)
set_option maxRecDepth 100000 in
theorem okX10_stepHere : jj_okV mX10_stepHere 0 := ⟨⟨jj_mem 1663 rfl rfl, jj_mem 97 (by decide +kernel) (by decide +kernel), by decide +kernel, ⟨by decide +kernel, by decide +kernel, by decide +kernel⟩, by decide, rfl, rfl⟩, jj_mem 1662 (by decide +kernel) (by decide +kernel), jj_mem 59 (by decide +kernel) (by decide +kernel)⟩
abbrev mX10_readsStep : jj_Mt := (yX10_readsStep, cX10_readsStep, 3, none, [], none)
set_option maxRecDepth 100000 in
theorem okX10_readsStep : jj_okV mX10_readsStep 0 := ⟨⟨jj_mem 1659 rfl rfl, jj_mem 97 (by decide +kernel) (by decide +kernel), by decide +kernel, ⟨by decide +kernel, by decide +kernel, by decide +kernel⟩, by decide, rfl, rfl⟩, jj_mem 1658 (by decide +kernel) (by decide +kernel), jj_mem 58 (by decide +kernel) (by decide +kernel)⟩
abbrev mX10_book : jj_Mt := (yX10_book, cX10_book, 7, (some .int), [], none)
set_option maxRecDepth 100000 in
theorem okX10_book : jj_okV mX10_book 1 := ⟨⟨jj_mem 1644 rfl rfl, jj_mem 97 (by decide +kernel) (by decide +kernel), by decide +kernel, ⟨by decide +kernel, by decide +kernel, by decide +kernel⟩, by decide, rfl, rfl⟩, jj_mem 1642 (by decide +kernel) (by decide +kernel), jj_mem 1643 (by decide +kernel) (by decide +kernel)⟩
abbrev mX10_fault : jj_Mt := (yX10_fault, cX10_fault, 1, (some .int), [], none)
set_option maxRecDepth 100000 in
theorem okX10_fault : jj_okV mX10_fault 0 := ⟨⟨jj_mem 1651 rfl rfl, jj_mem 97 (by decide +kernel) (by decide +kernel), by decide +kernel, ⟨by decide +kernel, by decide +kernel, by decide +kernel⟩, by decide, rfl, rfl⟩, jj_mem 1649 (by decide +kernel) (by decide +kernel), jj_mem 1650 (by decide +kernel) (by decide +kernel)⟩
abbrev mX10_holdBy : jj_Mt := (yX10_holdBy, cX10_holdBy, 9, (some .int), [], none)
set_option maxRecDepth 100000 in
theorem okX10_holdBy : jj_okV mX10_holdBy 8 := ⟨⟨jj_mem 1695 rfl rfl, jj_mem 97 (by decide +kernel) (by decide +kernel), by decide +kernel, ⟨by decide +kernel, by decide +kernel, by decide +kernel⟩, by decide, rfl, rfl⟩, jj_mem 1694 (by decide +kernel) (by decide +kernel), jj_mem 64 (by decide +kernel) (by decide +kernel)⟩
abbrev mX10_behind : jj_Mt := (yX10_behind, cX10_behind, 2, (some .int), [], none)
set_option maxRecDepth 100000 in
theorem okX10_behind : jj_okS mX10_behind 2 := ⟨⟨jj_mem 1691 rfl rfl, jj_mem 97 (by decide +kernel) (by decide +kernel), by decide +kernel, ⟨by decide +kernel, by decide +kernel, by decide +kernel⟩, by decide, rfl, rfl⟩, jj_mem 1690 (by decide +kernel) (by decide +kernel)⟩
abbrev mX10_holdOf : jj_Mt := (yX10_holdOf, cX10_holdOf, 5, (some .int), [], none)
set_option maxRecDepth 100000 in
theorem okX10_holdOf : jj_okV mX10_holdOf 4 := ⟨⟨jj_mem 1688 rfl rfl, jj_mem 97 (by decide +kernel) (by decide +kernel), by decide +kernel, ⟨by decide +kernel, by decide +kernel, by decide +kernel⟩, by decide, rfl, rfl⟩, jj_mem 1687 (by decide +kernel) (by decide +kernel), jj_mem 63 (by decide +kernel) (by decide +kernel)⟩
abbrev mX10_isLoose : jj_Mt := (yX10_isLoose, cX10_isLoose, 2, (some .boolean), [], none)
set_option maxRecDepth 100000 in
theorem okX10_isLoose : jj_okS mX10_isLoose 2 := ⟨⟨jj_mem 1681 rfl rfl, jj_mem 97 (by decide +kernel) (by decide +kernel), by decide +kernel, ⟨by decide +kernel, by decide +kernel, by decide +kernel⟩, by decide, rfl, rfl⟩, jj_mem 1680 (by decide +kernel) (by decide +kernel)⟩
abbrev mX10_isHand : jj_Mt := (yX10_isHand, cX10_isHand, 3, (some .boolean), [], none)
set_option maxRecDepth 100000 in
theorem okX10_isHand : jj_okS mX10_isHand 3 := ⟨⟨jj_mem 1684 rfl rfl, jj_mem 97 (by decide +kernel) (by decide +kernel), by decide +kernel, ⟨by decide +kernel, by decide +kernel, by decide +kernel⟩, by decide, rfl, rfl⟩, jj_mem 1683 (by decide +kernel) (by decide +kernel)⟩
abbrev mX10_ties : jj_Mt := (yX10_ties, cX10_ties, 5, (some .boolean), [], none)
set_option maxRecDepth 100000 in
theorem okX10_ties : jj_okV mX10_ties 4 := ⟨⟨jj_mem 1678 rfl rfl, jj_mem 97 (by decide +kernel) (by decide +kernel), by decide +kernel, ⟨by decide +kernel, by decide +kernel, by decide +kernel⟩, by decide, rfl, rfl⟩, jj_mem 1677 (by decide +kernel) (by decide +kernel), jj_mem 62 (by decide +kernel) (by decide +kernel)⟩
abbrev mX10_becomes : jj_Mt := (yX10_becomes, cX10_becomes, 3, (some .boolean), [], none)
set_option maxRecDepth 100000 in
theorem okX10_becomes : jj_okS mX10_becomes 3 := ⟨⟨jj_mem 1711 rfl rfl, jj_mem 97 (by decide +kernel) (by decide +kernel), by decide +kernel, ⟨by decide +kernel, by decide +kernel, by decide +kernel⟩, by decide, rfl, rfl⟩, jj_mem 1710 (by decide +kernel) (by decide +kernel)⟩
abbrev mX10_dayEnds : jj_Mt := (yX10_dayEnds, cX10_dayEnds, 3, none, [], none)
set_option maxRecDepth 100000 in
theorem okX10_dayEnds : jj_okV mX10_dayEnds 1 := ⟨⟨jj_mem 1715 rfl rfl, jj_mem 97 (by decide +kernel) (by decide +kernel), by decide +kernel, ⟨by decide +kernel, by decide +kernel, by decide +kernel⟩, by decide, rfl, rfl⟩, jj_mem 1714 (by decide +kernel) (by decide +kernel), jj_mem 66 (by decide +kernel) (by decide +kernel)⟩
abbrev mX10_does : jj_Mt := (yX10_does, cX10_does, 4, (some .boolean), [], none)
set_option maxRecDepth 100000 in
theorem okX10_does : jj_okV mX10_does 2 := ⟨⟨jj_mem 1674 rfl rfl, jj_mem 97 (by decide +kernel) (by decide +kernel), by decide +kernel, ⟨by decide +kernel, by decide +kernel, by decide +kernel⟩, by decide, rfl, rfl⟩, jj_mem 1673 (by decide +kernel) (by decide +kernel), jj_mem 61 (by decide +kernel) (by decide +kernel)⟩
abbrev mX10_goes : jj_Mt := (yX10_goes, cX10_goes, 5, none, [], none)
set_option maxRecDepth 100000 in
theorem okX10_goes : jj_okV mX10_goes 2 := ⟨⟨jj_mem 1670 rfl rfl, jj_mem 97 (by decide +kernel) (by decide +kernel), by decide +kernel, ⟨by decide +kernel, by decide +kernel, by decide +kernel⟩, by decide, rfl, rfl⟩, jj_mem 1669 (by decide +kernel) (by decide +kernel), jj_mem 60 (by decide +kernel) (by decide +kernel)⟩
abbrev mX10_work : jj_Mt := (yX10_work, cX10_work, 2, (some .int), [], none)
set_option maxRecDepth 100000 in
theorem okX10_work : jj_okV mX10_work 1 := ⟨⟨jj_mem 1655 rfl rfl, jj_mem 97 (by decide +kernel) (by decide +kernel), by decide +kernel, ⟨by decide +kernel, by decide +kernel, by decide +kernel⟩, by decide, rfl, rfl⟩, jj_mem 1653 (by decide +kernel) (by decide +kernel), jj_mem 1654 (by decide +kernel) (by decide +kernel)⟩
abbrev mX10_undo : jj_Mt := (yX10_undo, cX10_undo, 1, (some .int), [], none)
set_option maxRecDepth 100000 in
theorem okX10_undo : jj_okV mX10_undo 0 := ⟨⟨jj_mem 1719 rfl rfl, jj_mem 97 (by decide +kernel) (by decide +kernel), by decide +kernel, ⟨by decide +kernel, by decide +kernel, by decide +kernel⟩, by decide, rfl, rfl⟩, jj_mem 1717 (by decide +kernel) (by decide +kernel), jj_mem 1718 (by decide +kernel) (by decide +kernel)⟩
abbrev mX10_tiedSo : jj_Mt := (yX10_tiedSo, cX10_tiedSo, 5, (some .int), [], none)
set_option maxRecDepth 100000 in
theorem okX10_tiedSo : jj_okV mX10_tiedSo 2 := ⟨⟨jj_mem 1727 rfl rfl, jj_mem 97 (by decide +kernel) (by decide +kernel), by decide +kernel, ⟨by decide +kernel, by decide +kernel, by decide +kernel⟩, by decide, rfl, rfl⟩, jj_mem 1726 (by decide +kernel) (by decide +kernel), jj_mem 67 (by decide +kernel) (by decide +kernel)⟩
abbrev mX10_late : jj_Mt := (yX10_late, cX10_late, 4, (some .int), [], none)
set_option maxRecDepth 100000 in
theorem okX10_late : jj_okV mX10_late 1 := ⟨⟨jj_mem 1731 rfl rfl, jj_mem 97 (by decide +kernel) (by decide +kernel), by decide +kernel, ⟨by decide +kernel, by decide +kernel, by decide +kernel⟩, by decide, rfl, rfl⟩, jj_mem 1730 (by decide +kernel) (by decide +kernel), jj_mem 68 (by decide +kernel) (by decide +kernel)⟩
abbrev mX10_lateness : jj_Mt := (yX10_lateness, cX10_lateness, 4, (some .int), [], none)
set_option maxRecDepth 100000 in
theorem okX10_lateness : jj_okV mX10_lateness 1 := ⟨⟨jj_mem 1735 rfl rfl, jj_mem 97 (by decide +kernel) (by decide +kernel), by decide +kernel, ⟨by decide +kernel, by decide +kernel, by decide +kernel⟩, by decide, rfl, rfl⟩, jj_mem 1734 (by decide +kernel) (by decide +kernel), jj_mem 69 (by decide +kernel) (by decide +kernel)⟩
abbrev mX10_slipsOf : jj_Mt := (yX10_slipsOf, cX10_slipsOf, 4, (some .int), [], none)
set_option maxRecDepth 100000 in
theorem okX10_slipsOf : jj_okV mX10_slipsOf 1 := ⟨⟨jj_mem 1739 rfl rfl, jj_mem 97 (by decide +kernel) (by decide +kernel), by decide +kernel, ⟨by decide +kernel, by decide +kernel, by decide +kernel⟩, by decide, rfl, rfl⟩, jj_mem 1738 (by decide +kernel) (by decide +kernel), jj_mem 70 (by decide +kernel) (by decide +kernel)⟩
abbrev mX10_told : jj_Mt := (yX10_told, cX10_told, 2, (some .int), [], none)
set_option maxRecDepth 100000 in
theorem okX10_told : jj_okV mX10_told 1 := ⟨⟨jj_mem 1723 rfl rfl, jj_mem 97 (by decide +kernel) (by decide +kernel), by decide +kernel, ⟨by decide +kernel, by decide +kernel, by decide +kernel⟩, by decide, rfl, rfl⟩, jj_mem 1721 (by decide +kernel) (by decide +kernel), jj_mem 1722 (by decide +kernel) (by decide +kernel)⟩
abbrev mX10_isPerson : jj_Mt := (yX10_isPerson, cX10_isPerson, 2, (some .boolean), [], none)
set_option maxRecDepth 100000 in
theorem okX10_isPerson : jj_okV mX10_isPerson 1 := ⟨⟨jj_mem 1747 rfl rfl, jj_mem 97 (by decide +kernel) (by decide +kernel), by decide +kernel, ⟨by decide +kernel, by decide +kernel, by decide +kernel⟩, by decide, rfl, rfl⟩, jj_mem 1746 (by decide +kernel) (by decide +kernel), jj_mem 71 (by decide +kernel) (by decide +kernel)⟩
abbrev mX10_person : jj_Mt := (yX10_person, cX10_person, 3, (some .int), [], none)
set_option maxRecDepth 100000 in
theorem okX10_person : jj_okV mX10_person 2 := ⟨⟨jj_mem 1743 rfl rfl, jj_mem 97 (by decide +kernel) (by decide +kernel), by decide +kernel, ⟨by decide +kernel, by decide +kernel, by decide +kernel⟩, by decide, rfl, rfl⟩, jj_mem 1741 (by decide +kernel) (by decide +kernel), jj_mem 1742 (by decide +kernel) (by decide +kernel)⟩
abbrev mX10_areTwo : jj_Mt := (yX10_areTwo, cX10_areTwo, 3, (some .boolean), [], none)
set_option maxRecDepth 100000 in
theorem okX10_areTwo : jj_okV mX10_areTwo 2 := ⟨⟨jj_mem 1755 rfl rfl, jj_mem 97 (by decide +kernel) (by decide +kernel), by decide +kernel, ⟨by decide +kernel, by decide +kernel, by decide +kernel⟩, by decide, rfl, rfl⟩, jj_mem 1754 (by decide +kernel) (by decide +kernel), jj_mem 72 (by decide +kernel) (by decide +kernel)⟩
abbrev mX10_hold : jj_Mt := (yX10_hold, cX10_hold, 4, (some .int), [], none)
set_option maxRecDepth 100000 in
theorem okX10_hold : jj_okV mX10_hold 3 := ⟨⟨jj_mem 1751 rfl rfl, jj_mem 97 (by decide +kernel) (by decide +kernel), by decide +kernel, ⟨by decide +kernel, by decide +kernel, by decide +kernel⟩, by decide, rfl, rfl⟩, jj_mem 1749 (by decide +kernel) (by decide +kernel), jj_mem 1750 (by decide +kernel) (by decide +kernel)⟩
abbrev mX10_would : jj_Mt := (yX10_would, cX10_would, 9, (some .int), [], none)
set_option maxRecDepth 100000 in
theorem okX10_would : jj_okV mX10_would 8 := ⟨⟨jj_mem 1759 rfl rfl, jj_mem 97 (by decide +kernel) (by decide +kernel), by decide +kernel, ⟨by decide +kernel, by decide +kernel, by decide +kernel⟩, by decide, rfl, rfl⟩, jj_mem 1757 (by decide +kernel) (by decide +kernel), jj_mem 1758 (by decide +kernel) (by decide +kernel)⟩
abbrev mX10_can : jj_Mt := (yX10_can, cX10_can, 3, (some .boolean), [], none)
set_option maxRecDepth 100000 in
theorem okX10_can : jj_okV mX10_can 2 := ⟨⟨jj_mem 1763 rfl rfl, jj_mem 97 (by decide +kernel) (by decide +kernel), by decide +kernel, ⟨by decide +kernel, by decide +kernel, by decide +kernel⟩, by decide, rfl, rfl⟩, jj_mem 1761 (by decide +kernel) (by decide +kernel), jj_mem 1762 (by decide +kernel) (by decide +kernel)⟩
abbrev mX10_ahead : jj_Mt := (yX10_ahead, cX10_ahead, 4, (some .int), [], none)
set_option maxRecDepth 100000 in
theorem okX10_ahead : jj_okV mX10_ahead 2 := ⟨⟨jj_mem 1767 rfl rfl, jj_mem 97 (by decide +kernel) (by decide +kernel), by decide +kernel, ⟨by decide +kernel, by decide +kernel, by decide +kernel⟩, by decide, rfl, rfl⟩, jj_mem 1765 (by decide +kernel) (by decide +kernel), jj_mem 1766 (by decide +kernel) (by decide +kernel)⟩
abbrev mX10_catches : jj_Mt := (yX10_catches, cX10_catches, 3, (some .int), [], none)
set_option maxRecDepth 100000 in
theorem okX10_catches : jj_okV mX10_catches 1 := ⟨⟨jj_mem 1771 rfl rfl, jj_mem 97 (by decide +kernel) (by decide +kernel), by decide +kernel, ⟨by decide +kernel, by decide +kernel, by decide +kernel⟩, by decide, rfl, rfl⟩, jj_mem 1769 (by decide +kernel) (by decide +kernel), jj_mem 1770 (by decide +kernel) (by decide +kernel)⟩
abbrev mX10_off : jj_Mt := (yX10_off, cX10_off, 2, (some .int), [], none)
set_option maxRecDepth 100000 in
theorem okX10_off : jj_okS mX10_off 2 := ⟨⟨jj_mem 1782 rfl rfl, jj_mem 97 (by decide +kernel) (by decide +kernel), by decide +kernel, ⟨by decide +kernel, by decide +kernel, by decide +kernel⟩, by decide, rfl, rfl⟩, jj_mem 1781 (by decide +kernel) (by decide +kernel)⟩
abbrev mX10_way : jj_Mt := (yX10_way, cX10_way, 3, (some .int), [], none)
set_option maxRecDepth 100000 in
theorem okX10_way : jj_okV mX10_way 2 := ⟨⟨jj_mem 1779 rfl rfl, jj_mem 97 (by decide +kernel) (by decide +kernel), by decide +kernel, ⟨by decide +kernel, by decide +kernel, by decide +kernel⟩, by decide, rfl, rfl⟩, jj_mem 1778 (by decide +kernel) (by decide +kernel), jj_mem 73 (by decide +kernel) (by decide +kernel)⟩
abbrev mX10_far : jj_Mt := (yX10_far, cX10_far, 3, (some .int), [], none)
set_option maxRecDepth 100000 in
theorem okX10_far : jj_okV mX10_far 2 := ⟨⟨jj_mem 1775 rfl rfl, jj_mem 97 (by decide +kernel) (by decide +kernel), by decide +kernel, ⟨by decide +kernel, by decide +kernel, by decide +kernel⟩, by decide, rfl, rfl⟩, jj_mem 1773 (by decide +kernel) (by decide +kernel), jj_mem 1774 (by decide +kernel) (by decide +kernel)⟩
abbrev mX10_everybody : jj_Mt := (yX10_everybody, cX10_everybody, 1, (some .int), [], none)
set_option maxRecDepth 100000 in
theorem okX10_everybody : jj_okV mX10_everybody 0 := ⟨⟨jj_mem 1790 rfl rfl, jj_mem 97 (by decide +kernel) (by decide +kernel), by decide +kernel, ⟨by decide +kernel, by decide +kernel, by decide +kernel⟩, by decide, rfl, rfl⟩, jj_mem 1789 (by decide +kernel) (by decide +kernel), jj_mem 74 (by decide +kernel) (by decide +kernel)⟩
abbrev mX10_round : jj_Mt := (yX10_round, cX10_round, 10, (some .int), [], none)
set_option maxRecDepth 100000 in
theorem okX10_round : jj_okV mX10_round 2 := ⟨⟨jj_mem 1786 rfl rfl, jj_mem 97 (by decide +kernel) (by decide +kernel), by decide +kernel, ⟨by decide +kernel, by decide +kernel, by decide +kernel⟩, by decide, rfl, rfl⟩, jj_mem 1784 (by decide +kernel) (by decide +kernel), jj_mem 1785 (by decide +kernel) (by decide +kernel)⟩
abbrev mX10_gives : jj_Mt := (yX10_gives, cX10_gives, 6, none, [], none)
set_option maxRecDepth 100000 in
theorem okX10_gives : jj_okV mX10_gives 4 := ⟨⟨jj_mem 1802 rfl rfl, jj_mem 97 (by decide +kernel) (by decide +kernel), by decide +kernel, ⟨by decide +kernel, by decide +kernel, by decide +kernel⟩, by decide, rfl, rfl⟩, jj_mem 1801 (by decide +kernel) (by decide +kernel), jj_mem 76 (by decide +kernel) (by decide +kernel)⟩
abbrev mX10_laysKneelers : jj_Mt := (yX10_laysKneelers, cX10_laysKneelers, 1, none, [], none)
set_option maxRecDepth 100000 in
theorem okX10_laysKneelers : jj_okV mX10_laysKneelers 0 := ⟨⟨jj_mem 1798 rfl rfl, jj_mem 97 (by decide +kernel) (by decide +kernel), by decide +kernel, ⟨by decide +kernel, by decide +kernel, by decide +kernel⟩, by decide, rfl, rfl⟩, jj_mem 1797 (by decide +kernel) (by decide +kernel), jj_mem 75 (by decide +kernel) (by decide +kernel)⟩
abbrev mX10_kneel : jj_Mt := (yX10_kneel, cX10_kneel, 2, (some .int), [], none)
set_option maxRecDepth 100000 in
theorem okX10_kneel : jj_okV mX10_kneel 1 := ⟨⟨jj_mem 1794 rfl rfl, jj_mem 97 (by decide +kernel) (by decide +kernel), by decide +kernel, ⟨by decide +kernel, by decide +kernel, by decide +kernel⟩, by decide, rfl, rfl⟩, jj_mem 1792 (by decide +kernel) (by decide +kernel), jj_mem 1793 (by decide +kernel) (by decide +kernel)⟩
abbrev mX10_kneels : jj_Mt := (yX10_kneels, cX10_kneels, 2, (some .int), [], none)
set_option maxRecDepth 100000 in
theorem okX10_kneels : jj_okV mX10_kneels 1 := ⟨⟨jj_mem 1806 rfl rfl, jj_mem 97 (by decide +kernel) (by decide +kernel), by decide +kernel, ⟨by decide +kernel, by decide +kernel, by decide +kernel⟩, by decide, rfl, rfl⟩, jj_mem 1804 (by decide +kernel) (by decide +kernel), jj_mem 1805 (by decide +kernel) (by decide +kernel)⟩
abbrev mX10_ring : jj_Mt := (yX10_ring, cX10_ring, 6, (some .int), [], none)
set_option maxRecDepth 100000 in
theorem okX10_ring : jj_okV mX10_ring 2 := ⟨⟨jj_mem 1810 rfl rfl, jj_mem 97 (by decide +kernel) (by decide +kernel), by decide +kernel, ⟨by decide +kernel, by decide +kernel, by decide +kernel⟩, by decide, rfl, rfl⟩, jj_mem 1808 (by decide +kernel) (by decide +kernel), jj_mem 1809 (by decide +kernel) (by decide +kernel)⟩
abbrev mX10_isSo : jj_Mt := (yX10_isSo, cX10_isSo, 4, (some .boolean), [], none)
set_option maxRecDepth 100000 in
theorem okX10_isSo : jj_okV mX10_isSo 2 := ⟨⟨jj_mem 1818 rfl rfl, jj_mem 97 (by decide +kernel) (by decide +kernel), by decide +kernel, ⟨by decide +kernel, by decide +kernel, by decide +kernel⟩, by decide, rfl, rfl⟩, jj_mem 1817 (by decide +kernel) (by decide +kernel), jj_mem 77 (by decide +kernel) (by decide +kernel)⟩
abbrev mX10_fits : jj_Mt := (yX10_fits, cX10_fits, 6, (some .int), [], none)
set_option maxRecDepth 100000 in
theorem okX10_fits : jj_okV mX10_fits 1 := ⟨⟨jj_mem 1814 rfl rfl, jj_mem 97 (by decide +kernel) (by decide +kernel), by decide +kernel, ⟨by decide +kernel, by decide +kernel, by decide +kernel⟩, by decide, rfl, rfl⟩, jj_mem 1812 (by decide +kernel) (by decide +kernel), jj_mem 1813 (by decide +kernel) (by decide +kernel)⟩
abbrev mX10_isTold : jj_Mt := (yX10_isTold, cX10_isTold, 3, (some .boolean), [], none)
set_option maxRecDepth 100000 in
theorem okX10_isTold : jj_okV mX10_isTold 1 := ⟨⟨jj_mem 1826 rfl rfl, jj_mem 97 (by decide +kernel) (by decide +kernel), by decide +kernel, ⟨by decide +kernel, by decide +kernel, by decide +kernel⟩, by decide, rfl, rfl⟩, jj_mem 1825 (by decide +kernel) (by decide +kernel), jj_mem 78 (by decide +kernel) (by decide +kernel)⟩
abbrev mX10_worstAt : jj_Mt := (yX10_worstAt, cX10_worstAt, 6, (some .int), [], none)
set_option maxRecDepth 100000 in
theorem okX10_worstAt : jj_okV mX10_worstAt 1 := ⟨⟨jj_mem 1830 rfl rfl, jj_mem 97 (by decide +kernel) (by decide +kernel), by decide +kernel, ⟨by decide +kernel, by decide +kernel, by decide +kernel⟩, by decide, rfl, rfl⟩, jj_mem 1829 (by decide +kernel) (by decide +kernel), jj_mem 79 (by decide +kernel) (by decide +kernel)⟩
abbrev mX10_look : jj_Mt := (yX10_look, cX10_look, 6, (some .int), [], none)
set_option maxRecDepth 100000 in
theorem okX10_look : jj_okV mX10_look 1 := ⟨⟨jj_mem 1822 rfl rfl, jj_mem 97 (by decide +kernel) (by decide +kernel), by decide +kernel, ⟨by decide +kernel, by decide +kernel, by decide +kernel⟩, by decide, rfl, rfl⟩, jj_mem 1820 (by decide +kernel) (by decide +kernel), jj_mem 1821 (by decide +kernel) (by decide +kernel)⟩
abbrev mX10_hasBy : jj_Mt := (yX10_hasBy, cX10_hasBy, 4, (some .int), [], none)
set_option maxRecDepth 100000 in
theorem okX10_hasBy : jj_okS mX10_hasBy 4 := ⟨⟨jj_mem 1840 rfl rfl, jj_mem 97 (by decide +kernel) (by decide +kernel), by decide +kernel, ⟨by decide +kernel, by decide +kernel, by decide +kernel⟩, by decide, rfl, rfl⟩, jj_mem 1839 (by decide +kernel) (by decide +kernel)⟩
abbrev mX10_isBest : jj_Mt := (yX10_isBest, cX10_isBest, 4, (some .boolean), [], none)
set_option maxRecDepth 100000 in
theorem okX10_isBest : jj_okS mX10_isBest 4 := ⟨⟨jj_mem 1837 rfl rfl, jj_mem 97 (by decide +kernel) (by decide +kernel), by decide +kernel, ⟨by decide +kernel, by decide +kernel, by decide +kernel⟩, by decide, rfl, rfl⟩, jj_mem 1836 (by decide +kernel) (by decide +kernel)⟩
abbrev mX10_soldier : jj_Mt := (yX10_soldier, cX10_soldier, 9, (some .int), [], none)
set_option maxRecDepth 100000 in
theorem okX10_soldier : jj_okV mX10_soldier 3 := ⟨⟨jj_mem 1834 rfl rfl, jj_mem 97 (by decide +kernel) (by decide +kernel), by decide +kernel, ⟨by decide +kernel, by decide +kernel, by decide +kernel⟩, by decide, rfl, rfl⟩, jj_mem 1832 (by decide +kernel) (by decide +kernel), jj_mem 1833 (by decide +kernel) (by decide +kernel)⟩
abbrev mX10_dry : jj_Mt := (yX10_dry, cX10_dry, 15, (some .long), [], none)
set_option maxRecDepth 100000 in
theorem okX10_dry : jj_okV mX10_dry 4 := ⟨⟨jj_mem 1844 rfl rfl, jj_mem 97 (by decide +kernel) (by decide +kernel), by decide +kernel, ⟨by decide +kernel, by decide +kernel, by decide +kernel⟩, by decide, rfl, rfl⟩, jj_mem 1842 (by decide +kernel) (by decide +kernel), jj_mem 1843 (by decide +kernel) (by decide +kernel)⟩
abbrev mX10_givenBy : jj_Mt := (yX10_givenBy, cX10_givenBy, 5, (some .int), [], none)
set_option maxRecDepth 100000 in
theorem okX10_givenBy : jj_okV mX10_givenBy 2 := ⟨⟨jj_mem 1852 rfl rfl, jj_mem 97 (by decide +kernel) (by decide +kernel), by decide +kernel, ⟨by decide +kernel, by decide +kernel, by decide +kernel⟩, by decide, rfl, rfl⟩, jj_mem 1851 (by decide +kernel) (by decide +kernel), jj_mem 80 (by decide +kernel) (by decide +kernel)⟩
abbrev mX10_share : jj_Mt := (yX10_share, cX10_share, 5, (some .int), [], none)
set_option maxRecDepth 100000 in
theorem okX10_share : jj_okV mX10_share 3 := ⟨⟨jj_mem 1848 rfl rfl, jj_mem 97 (by decide +kernel) (by decide +kernel), by decide +kernel, ⟨by decide +kernel, by decide +kernel, by decide +kernel⟩, by decide, rfl, rfl⟩, jj_mem 1846 (by decide +kernel) (by decide +kernel), jj_mem 1847 (by decide +kernel) (by decide +kernel)⟩
abbrev mX10_slowest : jj_Mt := (yX10_slowest, cX10_slowest, 5, (some .int), [], none)
set_option maxRecDepth 100000 in
theorem okX10_slowest : jj_okV mX10_slowest 1 := ⟨⟨jj_mem 1856 rfl rfl, jj_mem 97 (by decide +kernel) (by decide +kernel), by decide +kernel, ⟨by decide +kernel, by decide +kernel, by decide +kernel⟩, by decide, rfl, rfl⟩, jj_mem 1854 (by decide +kernel) (by decide +kernel), jj_mem 1855 (by decide +kernel) (by decide +kernel)⟩
abbrev mX10_helpers : jj_Mt := (yX10_helpers, cX10_helpers, 4, (some .int), [], none)
set_option maxRecDepth 100000 in
theorem okX10_helpers : jj_okV mX10_helpers 1 := ⟨⟨jj_mem 1860 rfl rfl, jj_mem 97 (by decide +kernel) (by decide +kernel), by decide +kernel, ⟨by decide +kernel, by decide +kernel, by decide +kernel⟩, by decide, rfl, rfl⟩, jj_mem 1858 (by decide +kernel) (by decide +kernel), jj_mem 1859 (by decide +kernel) (by decide +kernel)⟩
abbrev mX10_tied : jj_Mt := (yX10_tied, cX10_tied, 4, (some .int), [], none)
set_option maxRecDepth 100000 in
theorem okX10_tied : jj_okV mX10_tied 1 := ⟨⟨jj_mem 1864 rfl rfl, jj_mem 97 (by decide +kernel) (by decide +kernel), by decide +kernel, ⟨by decide +kernel, by decide +kernel, by decide +kernel⟩, by decide, rfl, rfl⟩, jj_mem 1862 (by decide +kernel) (by decide +kernel), jj_mem 1863 (by decide +kernel) (by decide +kernel)⟩
abbrev mX10_inDay : jj_Mt := (yX10_inDay, cX10_inDay, 4, (some .int), [], none)
set_option maxRecDepth 100000 in
theorem okX10_inDay : jj_okV mX10_inDay 1 := ⟨⟨jj_mem 1872 rfl rfl, jj_mem 97 (by decide +kernel) (by decide +kernel), by decide +kernel, ⟨by decide +kernel, by decide +kernel, by decide +kernel⟩, by decide, rfl, rfl⟩, jj_mem 1871 (by decide +kernel) (by decide +kernel), jj_mem 81 (by decide +kernel) (by decide +kernel)⟩
abbrev mX10_within : jj_Mt := (yX10_within, cX10_within, 2, (some .int), [], none)
set_option maxRecDepth 100000 in
theorem okX10_within : jj_okV mX10_within 1 := ⟨⟨jj_mem 1868 rfl rfl, jj_mem 97 (by decide +kernel) (by decide +kernel), by decide +kernel, ⟨by decide +kernel, by decide +kernel, by decide +kernel⟩, by decide, rfl, rfl⟩, jj_mem 1866 (by decide +kernel) (by decide +kernel), jj_mem 1867 (by decide +kernel) (by decide +kernel)⟩
abbrev mX10_days : jj_Mt := (yX10_days, cX10_days, 3, (some .int), [], none)
set_option maxRecDepth 100000 in
theorem okX10_days : jj_okV mX10_days 0 := ⟨⟨jj_mem 1876 rfl rfl, jj_mem 97 (by decide +kernel) (by decide +kernel), by decide +kernel, ⟨by decide +kernel, by decide +kernel, by decide +kernel⟩, by decide, rfl, rfl⟩, jj_mem 1874 (by decide +kernel) (by decide +kernel), jj_mem 1875 (by decide +kernel) (by decide +kernel)⟩
abbrev mX10_kin : jj_Mt := (yX10_kin, cX10_kin, 5, (some .int), [], none)
set_option maxRecDepth 100000 in
theorem okX10_kin : jj_okV mX10_kin 1 := ⟨⟨jj_mem 1880 rfl rfl, jj_mem 97 (by decide +kernel) (by decide +kernel), by decide +kernel, ⟨by decide +kernel, by decide +kernel, by decide +kernel⟩, by decide, rfl, rfl⟩, jj_mem 1878 (by decide +kernel) (by decide +kernel), jj_mem 1879 (by decide +kernel) (by decide +kernel)⟩
abbrev mX10_steady : jj_Mt := (yX10_steady, cX10_steady, 3, (some .int), [], none)
set_option maxRecDepth 100000 in
theorem okX10_steady : jj_okV mX10_steady 0 := ⟨⟨jj_mem 1884 rfl rfl, jj_mem 97 (by decide +kernel) (by decide +kernel), by decide +kernel, ⟨by decide +kernel, by decide +kernel, by decide +kernel⟩, by decide, rfl, rfl⟩, jj_mem 1882 (by decide +kernel) (by decide +kernel), jj_mem 1883 (by decide +kernel) (by decide +kernel)⟩
abbrev mX10_best : jj_Mt := (yX10_best, cX10_best, 5, (some .int), [], none)
set_option maxRecDepth 100000 in
theorem okX10_best : jj_okV mX10_best 1 := ⟨⟨jj_mem 1888 rfl rfl, jj_mem 97 (by decide +kernel) (by decide +kernel), by decide +kernel, ⟨by decide +kernel, by decide +kernel, by decide +kernel⟩, by decide, rfl, rfl⟩, jj_mem 1886 (by decide +kernel) (by decide +kernel), jj_mem 1887 (by decide +kernel) (by decide +kernel)⟩
abbrev mX10_gap : jj_Mt := (yX10_gap, cX10_gap, 3, (some .int), [], none)
set_option maxRecDepth 100000 in
theorem okX10_gap : jj_okV mX10_gap 2 := ⟨⟨jj_mem 1892 rfl rfl, jj_mem 97 (by decide +kernel) (by decide +kernel), by decide +kernel, ⟨by decide +kernel, by decide +kernel, by decide +kernel⟩, by decide, rfl, rfl⟩, jj_mem 1890 (by decide +kernel) (by decide +kernel), jj_mem 1891 (by decide +kernel) (by decide +kernel)⟩
abbrev mX10_nearest : jj_Mt := (yX10_nearest, cX10_nearest, 4, (some .int), [], none)
set_option maxRecDepth 100000 in
theorem okX10_nearest : jj_okV mX10_nearest 1 := ⟨⟨jj_mem 1896 rfl rfl, jj_mem 97 (by decide +kernel) (by decide +kernel), by decide +kernel, ⟨by decide +kernel, by decide +kernel, by decide +kernel⟩, by decide, rfl, rfl⟩, jj_mem 1894 (by decide +kernel) (by decide +kernel), jj_mem 1895 (by decide +kernel) (by decide +kernel)⟩
abbrev mX10_later : jj_Mt := (yX10_later, cX10_later, 4, (some .int), [], none)
set_option maxRecDepth 100000 in
theorem okX10_later : jj_okV mX10_later 2 := ⟨⟨jj_mem 1900 rfl rfl, jj_mem 97 (by decide +kernel) (by decide +kernel), by decide +kernel, ⟨by decide +kernel, by decide +kernel, by decide +kernel⟩, by decide, rfl, rfl⟩, jj_mem 1898 (by decide +kernel) (by decide +kernel), jj_mem 1899 (by decide +kernel) (by decide +kernel)⟩
abbrev mX10_loose : jj_Mt := (yX10_loose, cX10_loose, 3, (some .int), [], none)
set_option maxRecDepth 100000 in
theorem okX10_loose : jj_okV mX10_loose 0 := ⟨⟨jj_mem 1904 rfl rfl, jj_mem 97 (by decide +kernel) (by decide +kernel), by decide +kernel, ⟨by decide +kernel, by decide +kernel, by decide +kernel⟩, by decide, rfl, rfl⟩, jj_mem 1902 (by decide +kernel) (by decide +kernel), jj_mem 1903 (by decide +kernel) (by decide +kernel)⟩
abbrev mX10_farthest : jj_Mt := (yX10_farthest, cX10_farthest, 6, (some .int), [], none)
set_option maxRecDepth 100000 in
theorem okX10_farthest : jj_okV mX10_farthest 1 := ⟨⟨jj_mem 1908 rfl rfl, jj_mem 97 (by decide +kernel) (by decide +kernel), by decide +kernel, ⟨by decide +kernel, by decide +kernel, by decide +kernel⟩, by decide, rfl, rfl⟩, jj_mem 1906 (by decide +kernel) (by decide +kernel), jj_mem 1907 (by decide +kernel) (by decide +kernel)⟩
abbrev mX10_mates : jj_Mt := (yX10_mates, cX10_mates, 2, (some .int), [], none)
set_option maxRecDepth 100000 in
theorem okX10_mates : jj_okV mX10_mates 1 := ⟨⟨jj_mem 1912 rfl rfl, jj_mem 97 (by decide +kernel) (by decide +kernel), by decide +kernel, ⟨by decide +kernel, by decide +kernel, by decide +kernel⟩, by decide, rfl, rfl⟩, jj_mem 1910 (by decide +kernel) (by decide +kernel), jj_mem 1911 (by decide +kernel) (by decide +kernel)⟩
abbrev mX10_middle : jj_Mt := (yX10_middle, cX10_middle, 7, (some .int), [], none)
set_option maxRecDepth 100000 in
theorem okX10_middle : jj_okV mX10_middle 1 := ⟨⟨jj_mem 1916 rfl rfl, jj_mem 97 (by decide +kernel) (by decide +kernel), by decide +kernel, ⟨by decide +kernel, by decide +kernel, by decide +kernel⟩, by decide, rfl, rfl⟩, jj_mem 1914 (by decide +kernel) (by decide +kernel), jj_mem 1915 (by decide +kernel) (by decide +kernel)⟩
abbrev mX10_draw : jj_Mt := (yX10_draw, cX10_draw, 2, (some .int), [], none)
set_option maxRecDepth 100000 in
theorem okX10_draw : jj_okV mX10_draw 1 := ⟨⟨jj_mem 1931 rfl rfl, jj_mem 97 (by decide +kernel) (by decide +kernel), by decide +kernel, ⟨by decide +kernel, by decide +kernel, by decide +kernel⟩, by decide, rfl, rfl⟩, jj_mem 1930 (by decide +kernel) (by decide +kernel), jj_mem 83 (by decide +kernel) (by decide +kernel)⟩
abbrev mX10_weekBy : jj_Mt := (yX10_weekBy, cX10_weekBy, 8, none, [], none)
set_option maxRecDepth 100000 in
theorem okX10_weekBy : jj_okV mX10_weekBy 3 := ⟨⟨jj_mem 1927 rfl rfl, jj_mem 97 (by decide +kernel) (by decide +kernel), by decide +kernel, ⟨by decide +kernel, by decide +kernel, by decide +kernel⟩, by decide, rfl, rfl⟩, jj_mem 1926 (by decide +kernel) (by decide +kernel), jj_mem 82 (by decide +kernel) (by decide +kernel)⟩
abbrev mX10_isWeek : jj_Mt := (yX10_isWeek, cX10_isWeek, 2, (some .boolean), [], none)
set_option maxRecDepth 100000 in
theorem okX10_isWeek : jj_okS mX10_isWeek 2 := ⟨⟨jj_mem 1923 rfl rfl, jj_mem 97 (by decide +kernel) (by decide +kernel), by decide +kernel, ⟨by decide +kernel, by decide +kernel, by decide +kernel⟩, by decide, rfl, rfl⟩, jj_mem 1922 (by decide +kernel) (by decide +kernel)⟩
abbrev mX10_week : jj_Mt := (yX10_week, cX10_week, 5, (some .int), [], none)
set_option maxRecDepth 100000 in
theorem okX10_week : jj_okV mX10_week 4 := ⟨⟨jj_mem 1920 rfl rfl, jj_mem 97 (by decide +kernel) (by decide +kernel), by decide +kernel, ⟨by decide +kernel, by decide +kernel, by decide +kernel⟩, by decide, rfl, rfl⟩, jj_mem 1918 (by decide +kernel) (by decide +kernel), jj_mem 1919 (by decide +kernel) (by decide +kernel)⟩
abbrev mX10_span : jj_Mt := (yX10_span, cX10_span, 12, (some .int), [], none)
set_option maxRecDepth 100000 in
theorem okX10_span : jj_okV mX10_span 6 := ⟨⟨jj_mem 1936 rfl rfl, jj_mem 97 (by decide +kernel) (by decide +kernel), by decide +kernel, ⟨by decide +kernel, by decide +kernel, by decide +kernel⟩, by decide, rfl, rfl⟩, jj_mem 1934 (by decide +kernel) (by decide +kernel), jj_mem 1935 (by decide +kernel) (by decide +kernel)⟩
abbrev mX10_puts : jj_Mt := (yX10_puts, cX10_puts, 4, (some .int), [], none)
set_option maxRecDepth 100000 in
theorem okX10_puts : jj_okV mX10_puts 3 := ⟨⟨jj_mem 1948 rfl rfl, jj_mem 97 (by decide +kernel) (by decide +kernel), by decide +kernel, ⟨by decide +kernel, by decide +kernel, by decide +kernel⟩, by decide, rfl, rfl⟩, jj_mem 1947 (by decide +kernel) (by decide +kernel), jj_mem 85 (by decide +kernel) (by decide +kernel)⟩
abbrev mX10_putsAll : jj_Mt := (yX10_putsAll, cX10_putsAll, 5, none, [], none)
set_option maxRecDepth 100000 in
theorem okX10_putsAll : jj_okV mX10_putsAll 2 := ⟨⟨jj_mem 1944 rfl rfl, jj_mem 97 (by decide +kernel) (by decide +kernel), by decide +kernel, ⟨by decide +kernel, by decide +kernel, by decide +kernel⟩, by decide, rfl, rfl⟩, jj_mem 1943 (by decide +kernel) (by decide +kernel), jj_mem 84 (by decide +kernel) (by decide +kernel)⟩
abbrev mX10_image : jj_Mt := (yX10_image, cX10_image, 1, (some .int), [], none)
set_option maxRecDepth 100000 in
theorem okX10_image : jj_okV mX10_image 0 := ⟨⟨jj_mem 1940 rfl rfl, jj_mem 97 (by decide +kernel) (by decide +kernel), by decide +kernel, ⟨by decide +kernel, by decide +kernel, by decide +kernel⟩, by decide, rfl, rfl⟩, jj_mem 1938 (by decide +kernel) (by decide +kernel), jj_mem 1939 (by decide +kernel) (by decide +kernel)⟩
abbrev mX10_restore : jj_Mt := (yX10_restore, cX10_restore, 1, (some .int), [], none)
set_option maxRecDepth 100000 in
theorem okX10_restore : jj_okV mX10_restore 0 := ⟨⟨jj_mem 1952 rfl rfl, jj_mem 97 (by decide +kernel) (by decide +kernel), by decide +kernel, ⟨by decide +kernel, by decide +kernel, by decide +kernel⟩, by decide, rfl, rfl⟩, jj_mem 1950 (by decide +kernel) (by decide +kernel), jj_mem 1951 (by decide +kernel) (by decide +kernel)⟩
abbrev mX10_status : jj_Mt := (yX10_status, cX10_status, 2, (some .int), [], none)
set_option maxRecDepth 100000 in
theorem okX10_status : jj_okV mX10_status 1 := ⟨⟨jj_mem 1956 rfl rfl, jj_mem 97 (by decide +kernel) (by decide +kernel), by decide +kernel, ⟨by decide +kernel, by decide +kernel, by decide +kernel⟩, by decide, rfl, rfl⟩, jj_mem 1954 (by decide +kernel) (by decide +kernel), jj_mem 1955 (by decide +kernel) (by decide +kernel)⟩
abbrev mX10_count : jj_Mt := (yX10_count, cX10_count, 2, (some .int), [], none)
set_option maxRecDepth 100000 in
theorem okX10_count : jj_okV mX10_count 1 := ⟨⟨jj_mem 1960 rfl rfl, jj_mem 97 (by decide +kernel) (by decide +kernel), by decide +kernel, ⟨by decide +kernel, by decide +kernel, by decide +kernel⟩, by decide, rfl, rfl⟩, jj_mem 1958 (by decide +kernel) (by decide +kernel), jj_mem 1959 (by decide +kernel) (by decide +kernel)⟩
abbrev mJ_length : jj_Mt := (yJ_length, cJ_length, 1, (some .int), [], none)
set_option maxRecDepth 100000 in
theorem okJ_length : jj_okV mJ_length 0 := ⟨⟨jj_mem 698 rfl rfl, jj_mem 102 (by decide +kernel) (by decide +kernel), by decide +kernel, ⟨by decide +kernel, by decide +kernel, by decide +kernel⟩, by decide, rfl, rfl⟩, jj_mem 696 (by decide +kernel) (by decide +kernel), jj_mem 697 (by decide +kernel) (by decide +kernel)⟩
abbrev mJ_coder : jj_Mt := (yJ_coder, cJ_coder, 1, (some .byte), [], none)
set_option maxRecDepth 100000 in
theorem okJ_coder : jj_okV mJ_coder 0 := ⟨⟨jj_mem 702 rfl rfl, jj_mem 102 (by decide +kernel) (by decide +kernel), by decide +kernel, ⟨by decide +kernel, by decide +kernel, by decide +kernel⟩, by decide, rfl, rfl⟩, jj_mem 700 (by decide +kernel) (by decide +kernel), jj_mem 701 (by decide +kernel) (by decide +kernel)⟩
abbrev mJ_charAt : jj_Mt := (yJ_charAt, cJ_charAt, 2, (some .char), [], none)
set_option maxRecDepth 100000 in
theorem okJ_charAt : jj_okV mJ_charAt 1 := ⟨⟨jj_mem 708 rfl rfl, jj_mem 102 (by decide +kernel) (by decide +kernel), by decide +kernel, ⟨by decide +kernel, by decide +kernel, by decide +kernel⟩, by decide, rfl, rfl⟩, jj_mem 706 (by decide +kernel) (by decide +kernel), jj_mem 707 (by decide +kernel) (by decide +kernel)⟩
abbrev mJ_isLatin1 : jj_Mt := (yJ_isLatin1, cJ_isLatin1, 1, (some .boolean), [], none)
set_option maxRecDepth 100000 in
theorem okJ_isLatin1 : jj_okV mJ_isLatin1 0 := ⟨⟨jj_mem 712 rfl rfl, jj_mem 102 (by decide +kernel) (by decide +kernel), by decide +kernel, ⟨by decide +kernel, by decide +kernel, by decide +kernel⟩, by decide, rfl, rfl⟩, jj_mem 710 (by decide +kernel) (by decide +kernel), jj_mem 711 (by decide +kernel) (by decide +kernel)⟩
abbrev mJ_lcharAt : jj_Mt := (yJ_lcharAt, cJ_lcharAt, 2, (some .char), [], none)
set_option maxRecDepth 100000 in
theorem okJ_lcharAt : jj_okS mJ_lcharAt 2 := ⟨⟨jj_mem 715 rfl rfl, jj_mem 103 (by decide +kernel) (by decide +kernel), by decide +kernel, ⟨by decide +kernel, by decide +kernel, by decide +kernel⟩, by decide, rfl, rfl⟩, jj_mem 714 (by decide +kernel) (by decide +kernel)⟩
abbrev mJ_checkIndex : jj_Mt := (yJ_checkIndex, cJ_checkIndex, 2, none, [], none)
set_option maxRecDepth 100000 in
theorem okJ_checkIndex : jj_okS mJ_checkIndex 2 := ⟨⟨jj_mem 718 rfl rfl, jj_mem 102 (by decide +kernel) (by decide +kernel), by decide +kernel, ⟨by decide +kernel, by decide +kernel, by decide +kernel⟩, by decide, rfl, rfl⟩, jj_mem 717 (by decide +kernel) (by decide +kernel)⟩
abbrev mJ_pcheck : jj_Mt := (yJ_pcheck, cJ_pcheck, 3, (some .int), [], none)
set_option maxRecDepth 100000 in
theorem okJ_pcheck : jj_okS mJ_pcheck 3 := ⟨⟨jj_mem 723 rfl rfl, jj_mem 104 (by decide +kernel) (by decide +kernel), by decide +kernel, ⟨by decide +kernel, by decide +kernel, by decide +kernel⟩, by decide, rfl, rfl⟩, jj_mem 722 (by decide +kernel) (by decide +kernel)⟩
