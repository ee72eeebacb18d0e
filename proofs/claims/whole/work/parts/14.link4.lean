theorem wi_X3_addToken : Cond.instanceMethod yX3_addToken ∈ nd_tbl := nd_ti (i := 677) (by decide +kernel) rfl
theorem wl_X3_addToken : Cond.selects RX3 yX3_addToken yX3_addToken ∈ nd_tbl := nd_tp (i := 19) (by decide +kernel) rfl
theorem cl_X3_171 : nd_cv RX3 171 M_X3_addToken 3 2 := ⟨ok_X3_addToken, wi_X3_addToken, wl_X3_addToken, nd_ti (i := 675) (by decide +kernel) rfl, TX3, 15, rfl⟩
theorem wc_X3_numberOf : Cond.code yX3_numberOf cX3_numberOf 5 (some .int) ∈ nd_tbl := nd_ti (i := 674) (by decide +kernel) rfl
theorem ok_X3_numberOf : nd_okN M_X3_numberOf 2 := ⟨wc_X3_numberOf, wn_X3, by decide +kernel, by decide +kernel, by decide +kernel⟩
theorem wi_X3_numberOf : Cond.instanceMethod yX3_numberOf ∈ nd_tbl := nd_ti (i := 673) (by decide +kernel) rfl
theorem wl_X3_numberOf : Cond.selects RX3 yX3_numberOf yX3_numberOf ∈ nd_tbl := nd_tp (i := 18) (by decide +kernel) rfl
theorem cl_X3_179 : nd_cv RX3 179 M_X3_numberOf 2 2 := ⟨ok_X3_numberOf, wi_X3_numberOf, wl_X3_numberOf, nd_ti (i := 671) (by decide +kernel) rfl, TX3, 15, rfl⟩
theorem wc_X3_wordNumber : Cond.code yX3_wordNumber cX3_wordNumber 7 (some .int) ∈ nd_tbl := nd_ti (i := 649) (by decide +kernel) rfl
theorem ok_X3_wordNumber : nd_okN M_X3_wordNumber 2 := ⟨wc_X3_wordNumber, wn_X3, by decide +kernel, by decide +kernel, by decide +kernel⟩
theorem wi_X3_wordNumber : Cond.instanceMethod yX3_wordNumber ∈ nd_tbl := nd_ti (i := 648) (by decide +kernel) rfl
theorem wl_X3_wordNumber : Cond.selects RX3 yX3_wordNumber yX3_wordNumber ∈ nd_tbl := nd_tp (i := 17) (by decide +kernel) rfl
theorem cl_X3_175 : nd_cv RX3 175 M_X3_wordNumber 2 2 := ⟨ok_X3_wordNumber, wi_X3_wordNumber, wl_X3_wordNumber, nd_ti (i := 646) (by decide +kernel) rfl, TX3, 15, rfl⟩
theorem wc_X3_standsTogether : Cond.code yX3_standsTogether cX3_standsTogether 1 (some .boolean) ∈ nd_tbl := nd_ti (i := 641) (by decide +kernel) rfl
theorem ok_X3_standsTogether : nd_okN M_X3_standsTogether 1 := ⟨wc_X3_standsTogether, wn_X3, by decide +kernel, by decide +kernel, by decide +kernel⟩
theorem ws_X3_standsTogether : Cond.static yX3_standsTogether ∈ nd_tbl := nd_ti (i := 640) (by decide +kernel) rfl
theorem cl_X3_165 : nd_cs RX3 165 M_X3_standsTogether 1 := ⟨ok_X3_standsTogether, ws_X3_standsTogether, Or.inl (nd_ti (i := 639) (by decide +kernel) rfl)⟩
theorem wc_X3_sortOf : Cond.code yX3_sortOf cX3_sortOf 1 (some .int) ∈ nd_tbl := nd_ti (i := 555) (by decide +kernel) rfl
theorem ok_X3_sortOf : nd_okN M_X3_sortOf 1 := ⟨wc_X3_sortOf, wn_X3, by decide +kernel, by decide +kernel, by decide +kernel⟩
theorem ws_X3_sortOf : Cond.static yX3_sortOf ∈ nd_tbl := nd_ti (i := 554) (by decide +kernel) rfl
theorem cl_X3_162 : nd_cs RX3 162 M_X3_sortOf 1 := ⟨ok_X3_sortOf, ws_X3_sortOf, Or.inl (nd_ti (i := 553) (by decide +kernel) rfl)⟩
theorem wc_X9_wed : Cond.code yX9_wed cX9_wed 5 none ∈ nd_tbl := nd_ti (i := 426) (by decide +kernel) rfl
theorem ok_X9_wed : nd_okN M_X9_wed 2 := ⟨wc_X9_wed, wn_X9, by decide +kernel, by decide +kernel, by decide +kernel⟩
theorem wi_X9_wed : Cond.instanceMethod yX9_wed ∈ nd_tbl := nd_ti (i := 425) (by decide +kernel) rfl
theorem wl_X9_wed : Cond.selects RX9 yX9_wed yX9_wed ∈ nd_tbl := nd_tp (i := 3) (by decide +kernel) rfl
theorem cl_X9_74 : nd_cv RX9 74 M_X9_wed 2 8 := ⟨ok_X9_wed, wi_X9_wed, wl_X9_wed, nd_ti (i := 423) (by decide +kernel) rfl, TX9, 6, rfl⟩
theorem wc_X9_isLucky : Cond.code yX9_isLucky cX9_isLucky 2 (some .boolean) ∈ nd_tbl := nd_ti (i := 491) (by decide +kernel) rfl
theorem ok_X9_isLucky : nd_okN M_X9_isLucky 1 := ⟨wc_X9_isLucky, wn_X9, by decide +kernel, by decide +kernel, by decide +kernel⟩
theorem wi_X9_isLucky : Cond.instanceMethod yX9_isLucky ∈ nd_tbl := nd_ti (i := 490) (by decide +kernel) rfl
theorem wl_X9_isLucky : Cond.selects RX9 yX9_isLucky yX9_isLucky ∈ nd_tbl := nd_tp (i := 12) (by decide +kernel) rfl
theorem cl_X9_114 : nd_cv RX9 114 M_X9_isLucky 1 8 := ⟨ok_X9_isLucky, wi_X9_isLucky, wl_X9_isLucky, nd_ti (i := 488) (by decide +kernel) rfl, TX9, 6, rfl⟩
theorem pf_X9_33 : nd_pf RX9 33 8 5 .int false := ⟨RX9, TX9, 6, rfl, by decide, Or.inl (nd_ti (i := 265) (by decide +kernel) rfl), rfl, by decide +kernel, fun h => absurd h (by decide)⟩
theorem pf_X9_105 : nd_pf RX9 105 5 4 .int false := ⟨RX6, TX6, 9, rfl, by decide, Or.inr ⟨rfl, "NextDoorBrides", nd_tn (i := 46) (by decide +kernel) rfl⟩, rfl, by decide +kernel, fun h => absurd h (by decide)⟩
theorem wc_X9_canByHand : Cond.code yX9_canByHand cX9_canByHand 3 (some .boolean) ∈ nd_tbl := nd_ti (i := 379) (by decide +kernel) rfl
theorem ok_X9_canByHand : nd_okN M_X9_canByHand 2 := ⟨wc_X9_canByHand, wn_X9, by decide +kernel, by decide +kernel, by decide +kernel⟩
theorem wi_X9_canByHand : Cond.instanceMethod yX9_canByHand ∈ nd_tbl := nd_ti (i := 377) (by decide +kernel) rfl
theorem wl_X9_canByHand : Cond.selects RX9 yX9_canByHand yX9_canByHand ∈ nd_tbl := nd_ti (i := 378) (by decide +kernel) rfl
theorem cl_X10_99 : nd_cv RX10 99 M_X9_canByHand 2 8 := ⟨ok_X9_canByHand, wi_X9_canByHand, wl_X9_canByHand, nd_ti (i := 376) (by decide +kernel) rfl, TX9, 6, rfl⟩
theorem wc_X1_keep : Cond.code yX1_keep cX1_keep 2 none ∈ nd_tbl := nd_ti (i := 408) (by decide +kernel) rfl
theorem ok_X1_keep : nd_okN M_X1_keep 1 := ⟨wc_X1_keep, wn_X1, by decide +kernel, by decide +kernel, by decide +kernel⟩
theorem wi_X1_keep : Cond.instanceMethod yX1_keep ∈ nd_tbl := nd_ti (i := 406) (by decide +kernel) rfl
theorem wl_X1_keep : Cond.selects RX1 yX1_keep yX1_keep ∈ nd_tbl := nd_ti (i := 407) (by decide +kernel) rfl
theorem cl_X10_102 : nd_cv RX10 102 M_X1_keep 1 0 := ⟨ok_X1_keep, wi_X1_keep, wl_X1_keep, nd_ti (i := 405) (by decide +kernel) rfl, TX1, 3, rfl⟩
theorem wc_X9_doByHand : Cond.code yX9_doByHand cX9_doByHand 3 none ∈ nd_tbl := nd_ti (i := 422) (by decide +kernel) rfl
theorem ok_X9_doByHand : nd_okN M_X9_doByHand 2 := ⟨wc_X9_doByHand, wn_X9, by decide +kernel, by decide +kernel, by decide +kernel⟩
theorem wi_X9_doByHand : Cond.instanceMethod yX9_doByHand ∈ nd_tbl := nd_ti (i := 420) (by decide +kernel) rfl
theorem wl_X9_doByHand : Cond.selects RX9 yX9_doByHand yX9_doByHand ∈ nd_tbl := nd_ti (i := 421) (by decide +kernel) rfl
theorem cl_X10_106 : nd_cv RX10 106 M_X9_doByHand 2 8 := ⟨ok_X9_doByHand, wi_X9_doByHand, wl_X9_doByHand, nd_ti (i := 419) (by decide +kernel) rfl, TX9, 6, rfl⟩
theorem wc_X11_canAct : Cond.code yX11_canAct cX11_canAct 3 (some .boolean) ∈ nd_tbl := nd_ti (i := 1527) (by decide +kernel) rfl
theorem ok_X11_canAct : nd_okN M_X11_canAct 2 := ⟨wc_X11_canAct, wn_X11, by decide +kernel, by decide +kernel, by decide +kernel⟩
theorem wi_X11_canAct : Cond.instanceMethod yX11_canAct ∈ nd_tbl := nd_ti (i := 1526) (by decide +kernel) rfl
theorem wl_X11_canAct : Cond.selects RX11 yX11_canAct yX11_canAct ∈ nd_tbl := nd_tp (i := 81) (by decide +kernel) rfl
theorem cl_X11_348 : nd_cv RX11 348 M_X11_canAct 2 10 := ⟨ok_X11_canAct, wi_X11_canAct, wl_X11_canAct, nd_ti (i := 1524) (by decide +kernel) rfl, TX11, 69, rfl⟩
theorem wc_X11_keepsAhead : Cond.code yX11_keepsAhead cX11_keepsAhead 2 none ∈ nd_tbl := nd_ti (i := 1543) (by decide +kernel) rfl
theorem ok_X11_keepsAhead : nd_okN M_X11_keepsAhead 0 := ⟨wc_X11_keepsAhead, wn_X11, by decide +kernel, by decide +kernel, by decide +kernel⟩
theorem wi_X11_keepsAhead : Cond.instanceMethod yX11_keepsAhead ∈ nd_tbl := nd_ti (i := 1542) (by decide +kernel) rfl
theorem wl_X11_keepsAhead : Cond.selects RX11 yX11_keepsAhead yX11_keepsAhead ∈ nd_tbl := nd_tp (i := 85) (by decide +kernel) rfl
theorem cl_X11_351 : nd_cv RX11 351 M_X11_keepsAhead 0 10 := ⟨ok_X11_keepsAhead, wi_X11_keepsAhead, wl_X11_keepsAhead, nd_ti (i := 1540) (by decide +kernel) rfl, TX11, 69, rfl⟩
theorem wc_X11_girlGoes : Cond.code yX11_girlGoes cX11_girlGoes 5 none ∈ nd_tbl := nd_ti (i := 1547) (by decide +kernel) rfl
theorem ok_X11_girlGoes : nd_okN M_X11_girlGoes 1 := ⟨wc_X11_girlGoes, wn_X11, by decide +kernel, by decide +kernel, by decide +kernel⟩
theorem wi_X11_girlGoes : Cond.instanceMethod yX11_girlGoes ∈ nd_tbl := nd_ti (i := 1546) (by decide +kernel) rfl
theorem wl_X11_girlGoes : Cond.selects RX11 yX11_girlGoes yX11_girlGoes ∈ nd_tbl := nd_tp (i := 86) (by decide +kernel) rfl
theorem cl_X11_354 : nd_cv RX11 354 M_X11_girlGoes 1 10 := ⟨ok_X11_girlGoes, wi_X11_girlGoes, wl_X11_girlGoes, nd_ti (i := 1544) (by decide +kernel) rfl, TX11, 69, rfl⟩
theorem gf_X11_71 : nd_gf RX11 71 10 39 := ⟨RX11, TX11, 69, rfl, by decide, Or.inl (nd_ti (i := 1179) (by decide +kernel) rfl)⟩
theorem wc_X11_happens : Cond.code yX11_happens cX11_happens 2 (some .boolean) ∈ nd_tbl := nd_ti (i := 1611) (by decide +kernel) rfl
theorem ok_X11_happens : nd_okN M_X11_happens 1 := ⟨wc_X11_happens, wn_X11, by decide +kernel, by decide +kernel, by decide +kernel⟩
theorem wi_X11_happens : Cond.instanceMethod yX11_happens ∈ nd_tbl := nd_ti (i := 1610) (by decide +kernel) rfl
theorem wl_X11_happens : Cond.selects RX11 yX11_happens yX11_happens ∈ nd_tbl := nd_tp (i := 101) (by decide +kernel) rfl
theorem cl_X11_363 : nd_cv RX11 363 M_X11_happens 1 10 := ⟨ok_X11_happens, wi_X11_happens, wl_X11_happens, nd_ti (i := 1608) (by decide +kernel) rfl, TX11, 69, rfl⟩
theorem wc_X11_readSum : Cond.code yX11_readSum cX11_readSum 2 (some .int) ∈ nd_tbl := nd_ti (i := 1463) (by decide +kernel) rfl
theorem ok_X11_readSum : nd_okN M_X11_readSum 0 := ⟨wc_X11_readSum, wn_X11, by decide +kernel, by decide +kernel, by decide +kernel⟩
theorem wi_X11_readSum : Cond.instanceMethod yX11_readSum ∈ nd_tbl := nd_ti (i := 1462) (by decide +kernel) rfl
theorem wl_X11_readSum : Cond.selects RX11 yX11_readSum yX11_readSum ∈ nd_tbl := nd_tp (i := 67) (by decide +kernel) rfl
theorem cl_X11_223 : nd_cv RX11 223 M_X11_readSum 0 10 := ⟨ok_X11_readSum, wi_X11_readSum, wl_X11_readSum, nd_ti (i := 1460) (by decide +kernel) rfl, TX11, 69, rfl⟩
theorem wc_X11_readFeud : Cond.code yX11_readFeud cX11_readFeud 3 (some .int) ∈ nd_tbl := nd_ti (i := 1507) (by decide +kernel) rfl
theorem ok_X11_readFeud : nd_okN M_X11_readFeud 0 := ⟨wc_X11_readFeud, wn_X11, by decide +kernel, by decide +kernel, by decide +kernel⟩
theorem wi_X11_readFeud : Cond.instanceMethod yX11_readFeud ∈ nd_tbl := nd_ti (i := 1506) (by decide +kernel) rfl
theorem wl_X11_readFeud : Cond.selects RX11 yX11_readFeud yX11_readFeud ∈ nd_tbl := nd_tp (i := 78) (by decide +kernel) rfl
theorem cl_X11_273 : nd_cv RX11 273 M_X11_readFeud 0 10 := ⟨ok_X11_readFeud, wi_X11_readFeud, wl_X11_readFeud, nd_ti (i := 1504) (by decide +kernel) rfl, TX11, 69, rfl⟩
theorem wc_X11_readSide : Cond.code yX11_readSide cX11_readSide 3 (some .int) ∈ nd_tbl := nd_ti (i := 1503) (by decide +kernel) rfl
theorem ok_X11_readSide : nd_okN M_X11_readSide 0 := ⟨wc_X11_readSide, wn_X11, by decide +kernel, by decide +kernel, by decide +kernel⟩
theorem wi_X11_readSide : Cond.instanceMethod yX11_readSide ∈ nd_tbl := nd_ti (i := 1502) (by decide +kernel) rfl
theorem wl_X11_readSide : Cond.selects RX11 yX11_readSide yX11_readSide ∈ nd_tbl := nd_tp (i := 77) (by decide +kernel) rfl
theorem cl_X11_270 : nd_cv RX11 270 M_X11_readSide 0 10 := ⟨ok_X11_readSide, wi_X11_readSide, wl_X11_readSide, nd_ti (i := 1500) (by decide +kernel) rfl, TX11, 69, rfl⟩
theorem wc_X11_readDeed : Cond.code yX11_readDeed cX11_readDeed 3 (some .int) ∈ nd_tbl := nd_ti (i := 1431) (by decide +kernel) rfl
theorem ok_X11_readDeed : nd_okN M_X11_readDeed 1 := ⟨wc_X11_readDeed, wn_X11, by decide +kernel, by decide +kernel, by decide +kernel⟩
theorem wi_X11_readDeed : Cond.instanceMethod yX11_readDeed ∈ nd_tbl := nd_ti (i := 1430) (by decide +kernel) rfl
theorem wl_X11_readDeed : Cond.selects RX11 yX11_readDeed yX11_readDeed ∈ nd_tbl := nd_tp (i := 59) (by decide +kernel) rfl
theorem cl_X11_267 : nd_cv RX11 267 M_X11_readDeed 1 10 := ⟨ok_X11_readDeed, wi_X11_readDeed, wl_X11_readDeed, nd_ti (i := 1428) (by decide +kernel) rfl, TX11, 69, rfl⟩
theorem wc_X3_findToken : Cond.code yX3_findToken cX3_findToken 5 none ∈ nd_tbl := nd_ti (i := 645) (by decide +kernel) rfl
theorem ok_X3_findToken : nd_okN M_X3_findToken 2 := ⟨wc_X3_findToken, wn_X3, by decide +kernel, by decide +kernel, by decide +kernel⟩
theorem wi_X3_findToken : Cond.instanceMethod yX3_findToken ∈ nd_tbl := nd_ti (i := 644) (by decide +kernel) rfl
theorem wl_X3_findToken : Cond.selects RX3 yX3_findToken yX3_findToken ∈ nd_tbl := nd_tp (i := 16) (by decide +kernel) rfl
theorem cl_X3_168 : nd_cv RX3 168 M_X3_findToken 2 2 := ⟨ok_X3_findToken, wi_X3_findToken, wl_X3_findToken, nd_ti (i := 642) (by decide +kernel) rfl, TX3, 15, rfl⟩
theorem pf_X9_56 : nd_pf RX9 56 5 6 .int false := ⟨RX6, TX6, 9, rfl, by decide, Or.inr ⟨rfl, "NextDoorBrides", nd_tn (i := 52) (by decide +kernel) rfl⟩, rfl, by decide +kernel, fun h => absurd h (by decide)⟩
theorem wc_X9_beWidowed : Cond.code yX9_beWidowed cX9_beWidowed 3 none ∈ nd_tbl := nd_ti (i := 505) (by decide +kernel) rfl
theorem ok_X9_beWidowed : nd_okN M_X9_beWidowed 1 := ⟨wc_X9_beWidowed, wn_X9, by decide +kernel, by decide +kernel, by decide +kernel⟩
theorem wi_X9_beWidowed : Cond.instanceMethod yX9_beWidowed ∈ nd_tbl := nd_ti (i := 504) (by decide +kernel) rfl
theorem wl_X9_beWidowed : Cond.selects RX9 yX9_beWidowed yX9_beWidowed ∈ nd_tbl := nd_tp (i := 14) (by decide +kernel) rfl
theorem cl_X9_53 : nd_cv RX9 53 M_X9_beWidowed 1 8 := ⟨ok_X9_beWidowed, wi_X9_beWidowed, wl_X9_beWidowed, nd_ti (i := 502) (by decide +kernel) rfl, TX9, 6, rfl⟩
theorem wc_X9_bear : Cond.code yX9_bear cX9_bear 9 none ∈ nd_tbl := nd_ti (i := 501) (by decide +kernel) rfl
theorem ok_X9_bear : nd_okN M_X9_bear 1 := ⟨wc_X9_bear, wn_X9, by decide +kernel, by decide +kernel, by decide +kernel⟩
theorem wi_X9_bear : Cond.instanceMethod yX9_bear ∈ nd_tbl := nd_ti (i := 500) (by decide +kernel) rfl
theorem wl_X9_bear : Cond.selects RX9 yX9_bear yX9_bear ∈ nd_tbl := nd_tp (i := 13) (by decide +kernel) rfl
theorem cl_X9_50 : nd_cv RX9 50 M_X9_bear 1 8 := ⟨ok_X9_bear, wi_X9_bear, wl_X9_bear, nd_ti (i := 498) (by decide +kernel) rfl, TX9, 6, rfl⟩
theorem wc_X9_lookForHusband : Cond.code yX9_lookForHusband cX9_lookForHusband 3 none ∈ nd_tbl := nd_ti (i := 487) (by decide +kernel) rfl
theorem ok_X9_lookForHusband : nd_okN M_X9_lookForHusband 1 := ⟨wc_X9_lookForHusband, wn_X9, by decide +kernel, by decide +kernel, by decide +kernel⟩
theorem wi_X9_lookForHusband : Cond.instanceMethod yX9_lookForHusband ∈ nd_tbl := nd_ti (i := 486) (by decide +kernel) rfl
theorem wl_X9_lookForHusband : Cond.selects RX9 yX9_lookForHusband yX9_lookForHusband ∈ nd_tbl := nd_tp (i := 11) (by decide +kernel) rfl
theorem cl_X9_46 : nd_cv RX9 46 M_X9_lookForHusband 1 8 := ⟨ok_X9_lookForHusband, wi_X9_lookForHusband, wl_X9_lookForHusband, nd_ti (i := 484) (by decide +kernel) rfl, TX9, 6, rfl⟩
theorem wc_X9_carryOutPlans : Cond.code yX9_carryOutPlans cX9_carryOutPlans 3 none ∈ nd_tbl := nd_ti (i := 479) (by decide +kernel) rfl
theorem ok_X9_carryOutPlans : nd_okN M_X9_carryOutPlans 0 := ⟨wc_X9_carryOutPlans, wn_X9, by decide +kernel, by decide +kernel, by decide +kernel⟩
theorem wi_X9_carryOutPlans : Cond.instanceMethod yX9_carryOutPlans ∈ nd_tbl := nd_ti (i := 478) (by decide +kernel) rfl
theorem wl_X9_carryOutPlans : Cond.selects RX9 yX9_carryOutPlans yX9_carryOutPlans ∈ nd_tbl := nd_tp (i := 9) (by decide +kernel) rfl
theorem cl_X9_30 : nd_cv RX9 30 M_X9_carryOutPlans 0 8 := ⟨ok_X9_carryOutPlans, wi_X9_carryOutPlans, wl_X9_carryOutPlans, nd_ti (i := 476) (by decide +kernel) rfl, TX9, 6, rfl⟩
theorem gf_X10_57 : nd_gf RX10 57 9 7 := ⟨RX10, TX10, 11, rfl, by decide, Or.inl (nd_ti (i := 310) (by decide +kernel) rfl)⟩
theorem gf_X10_60 : nd_gf RX10 60 9 8 := ⟨RX10, TX10, 11, rfl, by decide, Or.inl (nd_ti (i := 311) (by decide +kernel) rfl)⟩
theorem wc_X6_dowries : Cond.code yX6_dowries cX6_dowries 3 (some .int) ∈ nd_tbl := nd_ti (i := 804) (by decide +kernel) rfl
theorem ok_X6_dowries : nd_okN M_X6_dowries 0 := ⟨wc_X6_dowries, wn_X6, by decide +kernel, by decide +kernel, by decide +kernel⟩
theorem wi_X6_dowries : Cond.instanceMethod yX6_dowries ∈ nd_tbl := nd_ti (i := 802) (by decide +kernel) rfl
theorem wl_X6_dowries : Cond.selects RX6 yX6_dowries yX6_dowries ∈ nd_tbl := nd_ti (i := 803) (by decide +kernel) rfl
theorem cl_X10_175 : nd_cv RX10 175 M_X6_dowries 0 5 := ⟨ok_X6_dowries, wi_X6_dowries, wl_X6_dowries, nd_ti (i := 801) (by decide +kernel) rfl, TX6, 9, rfl⟩
theorem wc_X9_pass : Cond.code yX9_pass cX9_pass 2 none ∈ nd_tbl := nd_ti (i := 475) (by decide +kernel) rfl
theorem ok_X9_pass : nd_okN M_X9_pass 0 := ⟨wc_X9_pass, wn_X9, by decide +kernel, by decide +kernel, by decide +kernel⟩
theorem wi_X9_pass : Cond.instanceMethod yX9_pass ∈ nd_tbl := nd_ti (i := 473) (by decide +kernel) rfl
theorem wl_X9_pass : Cond.selects RX9 yX9_pass yX9_pass ∈ nd_tbl := nd_ti (i := 474) (by decide +kernel) rfl
theorem cl_X10_116 : nd_cv RX10 116 M_X9_pass 0 8 := ⟨ok_X9_pass, wi_X9_pass, wl_X9_pass, nd_ti (i := 472) (by decide +kernel) rfl, TX9, 6, rfl⟩
theorem cl_X10_166 : nd_cv RX10 166 M_X6_copy 1 5 := ⟨ok_X6_copy, wi_X6_copy, wl_X6_copy, nd_ti (i := 800) (by decide +kernel) rfl, TX6, 9, rfl⟩
theorem wc_X11_childrenOf : Cond.code yX11_childrenOf cX11_childrenOf 8 none ∈ nd_tbl := nd_ti (i := 1621) (by decide +kernel) rfl
theorem ok_X11_childrenOf : nd_okN M_X11_childrenOf 1 := ⟨wc_X11_childrenOf, wn_X11, by decide +kernel, by decide +kernel, by decide +kernel⟩
theorem wi_X11_childrenOf : Cond.instanceMethod yX11_childrenOf ∈ nd_tbl := nd_ti (i := 1620) (by decide +kernel) rfl
theorem wl_X11_childrenOf : Cond.selects RX11 yX11_childrenOf yX11_childrenOf ∈ nd_tbl := nd_tp (i := 103) (by decide +kernel) rfl
theorem cl_X11_375 : nd_cv RX11 375 M_X11_childrenOf 1 10 := ⟨ok_X11_childrenOf, wi_X11_childrenOf, wl_X11_childrenOf, nd_ti (i := 1618) (by decide +kernel) rfl, TX11, 69, rfl⟩
theorem wc_X11_girlsGo : Cond.code yX11_girlsGo cX11_girlsGo 3 none ∈ nd_tbl := nd_ti (i := 1603) (by decide +kernel) rfl
theorem ok_X11_girlsGo : nd_okN M_X11_girlsGo 0 := ⟨wc_X11_girlsGo, wn_X11, by decide +kernel, by decide +kernel, by decide +kernel⟩
theorem wi_X11_girlsGo : Cond.instanceMethod yX11_girlsGo ∈ nd_tbl := nd_ti (i := 1602) (by decide +kernel) rfl
theorem wl_X11_girlsGo : Cond.selects RX11 yX11_girlsGo yX11_girlsGo ∈ nd_tbl := nd_tp (i := 99) (by decide +kernel) rfl
theorem cl_X11_372 : nd_cv RX11 372 M_X11_girlsGo 0 10 := ⟨ok_X11_girlsGo, wi_X11_girlsGo, wl_X11_girlsGo, nd_ti (i := 1600) (by decide +kernel) rfl, TX11, 69, rfl⟩
theorem wc_X11_does : Cond.code yX11_does cX11_does 4 none ∈ nd_tbl := nd_ti (i := 1599) (by decide +kernel) rfl
theorem ok_X11_does : nd_okN M_X11_does 1 := ⟨wc_X11_does, wn_X11, by decide +kernel, by decide +kernel, by decide +kernel⟩
theorem wi_X11_does : Cond.instanceMethod yX11_does ∈ nd_tbl := nd_ti (i := 1598) (by decide +kernel) rfl
theorem wl_X11_does : Cond.selects RX11 yX11_does yX11_does ∈ nd_tbl := nd_tp (i := 98) (by decide +kernel) rfl
theorem cl_X11_369 : nd_cv RX11 369 M_X11_does 1 10 := ⟨ok_X11_does, wi_X11_does, wl_X11_does, nd_ti (i := 1596) (by decide +kernel) rfl, TX11, 69, rfl⟩
theorem wc_X11_waits : Cond.code yX11_waits cX11_waits 2 none ∈ nd_tbl := nd_ti (i := 1487) (by decide +kernel) rfl
theorem ok_X11_waits : nd_okN M_X11_waits 1 := ⟨wc_X11_waits, wn_X11, by decide +kernel, by decide +kernel, by decide +kernel⟩
theorem wi_X11_waits : Cond.instanceMethod yX11_waits ∈ nd_tbl := nd_ti (i := 1486) (by decide +kernel) rfl
theorem wl_X11_waits : Cond.selects RX11 yX11_waits yX11_waits ∈ nd_tbl := nd_tp (i := 73) (by decide +kernel) rfl
theorem cl_X11_235 : nd_cv RX11 235 M_X11_waits 1 10 := ⟨ok_X11_waits, wi_X11_waits, wl_X11_waits, nd_ti (i := 1484) (by decide +kernel) rfl, TX11, 69, rfl⟩
theorem wc_X11_settles : Cond.code yX11_settles cX11_settles 2 none ∈ nd_tbl := nd_ti (i := 1495) (by decide +kernel) rfl
theorem ok_X11_settles : nd_okN M_X11_settles 1 := ⟨wc_X11_settles, wn_X11, by decide +kernel, by decide +kernel, by decide +kernel⟩
theorem wi_X11_settles : Cond.instanceMethod yX11_settles ∈ nd_tbl := nd_ti (i := 1494) (by decide +kernel) rfl
theorem wl_X11_settles : Cond.selects RX11 yX11_settles yX11_settles ∈ nd_tbl := nd_tp (i := 75) (by decide +kernel) rfl
theorem cl_X11_241 : nd_cv RX11 241 M_X11_settles 1 10 := ⟨ok_X11_settles, wi_X11_settles, wl_X11_settles, nd_ti (i := 1492) (by decide +kernel) rfl, TX11, 69, rfl⟩
theorem wc_X11_readCompared : Cond.code yX11_readCompared cX11_readCompared 2 (some .int) ∈ nd_tbl := nd_ti (i := 1491) (by decide +kernel) rfl
theorem ok_X11_readCompared : nd_okN M_X11_readCompared 0 := ⟨wc_X11_readCompared, wn_X11, by decide +kernel, by decide +kernel, by decide +kernel⟩
theorem wi_X11_readCompared : Cond.instanceMethod yX11_readCompared ∈ nd_tbl := nd_ti (i := 1490) (by decide +kernel) rfl
theorem wl_X11_readCompared : Cond.selects RX11 yX11_readCompared yX11_readCompared ∈ nd_tbl := nd_tp (i := 74) (by decide +kernel) rfl
theorem cl_X11_238 : nd_cv RX11 238 M_X11_readCompared 0 10 := ⟨ok_X11_readCompared, wi_X11_readCompared, wl_X11_readCompared, nd_ti (i := 1488) (by decide +kernel) rfl, TX11, 69, rfl⟩
theorem wc_X11_endsThought : Cond.code yX11_endsThought cX11_endsThought 2 none ∈ nd_tbl := nd_ti (i := 1645) (by decide +kernel) rfl
theorem ok_X11_endsThought : nd_okN M_X11_endsThought 0 := ⟨wc_X11_endsThought, wn_X11, by decide +kernel, by decide +kernel, by decide +kernel⟩
theorem wi_X11_endsThought : Cond.instanceMethod yX11_endsThought ∈ nd_tbl := nd_ti (i := 1644) (by decide +kernel) rfl
theorem wl_X11_endsThought : Cond.selects RX11 yX11_endsThought yX11_endsThought ∈ nd_tbl := nd_tp (i := 106) (by decide +kernel) rfl
theorem cl_X11_384 : nd_cv RX11 384 M_X11_endsThought 0 10 := ⟨ok_X11_endsThought, wi_X11_endsThought, wl_X11_endsThought, nd_ti (i := 1642) (by decide +kernel) rfl, TX11, 69, rfl⟩
theorem wc_X11_goesBy : Cond.code yX11_goesBy cX11_goesBy 3 (some .int) ∈ nd_tbl := nd_ti (i := 1595) (by decide +kernel) rfl
theorem ok_X11_goesBy : nd_okN M_X11_goesBy 0 := ⟨wc_X11_goesBy, wn_X11, by decide +kernel, by decide +kernel, by decide +kernel⟩
theorem wi_X11_goesBy : Cond.instanceMethod yX11_goesBy ∈ nd_tbl := nd_ti (i := 1594) (by decide +kernel) rfl
theorem wl_X11_goesBy : Cond.selects RX11 yX11_goesBy yX11_goesBy ∈ nd_tbl := nd_tp (i := 97) (by decide +kernel) rfl
theorem cl_X11_378 : nd_cv RX11 378 M_X11_goesBy 0 10 := ⟨ok_X11_goesBy, wi_X11_goesBy, wl_X11_goesBy, nd_ti (i := 1592) (by decide +kernel) rfl, TX11, 69, rfl⟩
theorem wc_X11_thinks : Cond.code yX11_thinks cX11_thinks 2 none ∈ nd_tbl := nd_ti (i := 1641) (by decide +kernel) rfl
theorem ok_X11_thinks : nd_okN M_X11_thinks 0 := ⟨wc_X11_thinks, wn_X11, by decide +kernel, by decide +kernel, by decide +kernel⟩
theorem wi_X11_thinks : Cond.instanceMethod yX11_thinks ∈ nd_tbl := nd_ti (i := 1640) (by decide +kernel) rfl
theorem wl_X11_thinks : Cond.selects RX11 yX11_thinks yX11_thinks ∈ nd_tbl := nd_tp (i := 105) (by decide +kernel) rfl
theorem cl_X11_381 : nd_cv RX11 381 M_X11_thinks 0 10 := ⟨ok_X11_thinks, wi_X11_thinks, wl_X11_thinks, nd_ti (i := 1638) (by decide +kernel) rfl, TX11, 69, rfl⟩
theorem wc_X11_isLineWord : Cond.code yX11_isLineWord cX11_isLineWord 1 (some .boolean) ∈ nd_tbl := nd_ti (i := 1459) (by decide +kernel) rfl
theorem ok_X11_isLineWord : nd_okN M_X11_isLineWord 0 := ⟨wc_X11_isLineWord, wn_X11, by decide +kernel, by decide +kernel, by decide +kernel⟩
theorem wi_X11_isLineWord : Cond.instanceMethod yX11_isLineWord ∈ nd_tbl := nd_ti (i := 1458) (by decide +kernel) rfl
theorem wl_X11_isLineWord : Cond.selects RX11 yX11_isLineWord yX11_isLineWord ∈ nd_tbl := nd_tp (i := 66) (by decide +kernel) rfl
theorem cl_X11_244 : nd_cv RX11 244 M_X11_isLineWord 0 10 := ⟨ok_X11_isLineWord, wi_X11_isLineWord, wl_X11_isLineWord, nd_ti (i := 1456) (by decide +kernel) rfl, TX11, 69, rfl⟩
theorem wc_X11_readAny : Cond.code yX11_readAny cX11_readAny 4 (some .int) ∈ nd_tbl := nd_ti (i := 1483) (by decide +kernel) rfl
theorem ok_X11_readAny : nd_okN M_X11_readAny 0 := ⟨wc_X11_readAny, wn_X11, by decide +kernel, by decide +kernel, by decide +kernel⟩
theorem wi_X11_readAny : Cond.instanceMethod yX11_readAny ∈ nd_tbl := nd_ti (i := 1482) (by decide +kernel) rfl
theorem wl_X11_readAny : Cond.selects RX11 yX11_readAny yX11_readAny ∈ nd_tbl := nd_tp (i := 72) (by decide +kernel) rfl
theorem cl_X11_248 : nd_cv RX11 248 M_X11_readAny 0 10 := ⟨ok_X11_readAny, wi_X11_readAny, wl_X11_readAny, nd_ti (i := 1480) (by decide +kernel) rfl, TX11, 69, rfl⟩
theorem wc_X11_readHouses : Cond.code yX11_readHouses cX11_readHouses 4 (some .int) ∈ nd_tbl := nd_ti (i := 1499) (by decide +kernel) rfl
theorem ok_X11_readHouses : nd_okN M_X11_readHouses 1 := ⟨wc_X11_readHouses, wn_X11, by decide +kernel, by decide +kernel, by decide +kernel⟩
theorem wi_X11_readHouses : Cond.instanceMethod yX11_readHouses ∈ nd_tbl := nd_ti (i := 1498) (by decide +kernel) rfl
theorem wl_X11_readHouses : Cond.selects RX11 yX11_readHouses yX11_readHouses ∈ nd_tbl := nd_tp (i := 76) (by decide +kernel) rfl
theorem cl_X11_282 : nd_cv RX11 282 M_X11_readHouses 1 10 := ⟨ok_X11_readHouses, wi_X11_readHouses, wl_X11_readHouses, nd_ti (i := 1496) (by decide +kernel) rfl, TX11, 69, rfl⟩
theorem pf_X11_251 : nd_pf RX11 251 10 22 .int false := ⟨RX11, TX11, 69, rfl, by decide, Or.inl (nd_ti (i := 1162) (by decide +kernel) rfl), rfl, by decide +kernel, fun h => absurd h (by decide)⟩
theorem wc_X11_readLaw : Cond.code yX11_readLaw cX11_readLaw 3 (some .int) ∈ nd_tbl := nd_ti (i := 1455) (by decide +kernel) rfl
theorem ok_X11_readLaw : nd_okN M_X11_readLaw 0 := ⟨wc_X11_readLaw, wn_X11, by decide +kernel, by decide +kernel, by decide +kernel⟩
theorem wi_X11_readLaw : Cond.instanceMethod yX11_readLaw ∈ nd_tbl := nd_ti (i := 1454) (by decide +kernel) rfl
theorem wl_X11_readLaw : Cond.selects RX11 yX11_readLaw yX11_readLaw ∈ nd_tbl := nd_tp (i := 65) (by decide +kernel) rfl
theorem cl_X11_279 : nd_cv RX11 279 M_X11_readLaw 0 10 := ⟨ok_X11_readLaw, wi_X11_readLaw, wl_X11_readLaw, nd_ti (i := 1452) (by decide +kernel) rfl, TX11, 69, rfl⟩
theorem wc_X11_readPlans : Cond.code yX11_readPlans cX11_readPlans 2 (some .int) ∈ nd_tbl := nd_ti (i := 1419) (by decide +kernel) rfl
theorem ok_X11_readPlans : nd_okN M_X11_readPlans 0 := ⟨wc_X11_readPlans, wn_X11, by decide +kernel, by decide +kernel, by decide +kernel⟩
theorem wi_X11_readPlans : Cond.instanceMethod yX11_readPlans ∈ nd_tbl := nd_ti (i := 1418) (by decide +kernel) rfl
theorem wl_X11_readPlans : Cond.selects RX11 yX11_readPlans yX11_readPlans ∈ nd_tbl := nd_tp (i := 56) (by decide +kernel) rfl
theorem cl_X11_276 : nd_cv RX11 276 M_X11_readPlans 0 10 := ⟨ok_X11_readPlans, wi_X11_readPlans, wl_X11_readPlans, nd_ti (i := 1416) (by decide +kernel) rfl, TX11, 69, rfl⟩
theorem wc_X11_takesOther : Cond.code yX11_takesOther cX11_takesOther 4 none ∈ nd_tbl := nd_ti (i := 1515) (by decide +kernel) rfl
theorem ok_X11_takesOther : nd_okN M_X11_takesOther 2 := ⟨wc_X11_takesOther, wn_X11, by decide +kernel, by decide +kernel, by decide +kernel⟩
theorem wi_X11_takesOther : Cond.instanceMethod yX11_takesOther ∈ nd_tbl := nd_ti (i := 1514) (by decide +kernel) rfl
theorem wl_X11_takesOther : Cond.selects RX11 yX11_takesOther yX11_takesOther ∈ nd_tbl := nd_tp (i := 80) (by decide +kernel) rfl
theorem cl_X11_304 : nd_cv RX11 304 M_X11_takesOther 2 10 := ⟨ok_X11_takesOther, wi_X11_takesOther, wl_X11_takesOther, nd_ti (i := 1512) (by decide +kernel) rfl, TX11, 69, rfl⟩
theorem wc_X11_takesLaw : Cond.code yX11_takesLaw cX11_takesLaw 3 none ∈ nd_tbl := nd_ti (i := 1511) (by decide +kernel) rfl
theorem ok_X11_takesLaw : nd_okN M_X11_takesLaw 1 := ⟨wc_X11_takesLaw, wn_X11, by decide +kernel, by decide +kernel, by decide +kernel⟩
theorem wi_X11_takesLaw : Cond.instanceMethod yX11_takesLaw ∈ nd_tbl := nd_ti (i := 1510) (by decide +kernel) rfl
theorem wl_X11_takesLaw : Cond.selects RX11 yX11_takesLaw yX11_takesLaw ∈ nd_tbl := nd_tp (i := 79) (by decide +kernel) rfl
theorem cl_X11_301 : nd_cv RX11 301 M_X11_takesLaw 1 10 := ⟨ok_X11_takesLaw, wi_X11_takesLaw, wl_X11_takesLaw, nd_ti (i := 1508) (by decide +kernel) rfl, TX11, 69, rfl⟩
theorem pf_X11_295 : nd_pf RX11 295 10 29 .int false := ⟨RX11, TX11, 69, rfl, by decide, Or.inl (nd_ti (i := 1169) (by decide +kernel) rfl), rfl, by decide +kernel, fun h => absurd h (by decide)⟩
theorem pf_X11_52 : nd_pf RX11 52 10 30 .int false := ⟨RX11, TX11, 69, rfl, by decide, Or.inl (nd_ti (i := 1170) (by decide +kernel) rfl), rfl, by decide +kernel, fun h => absurd h (by decide)⟩
theorem wc_X11_readsText : Cond.code yX11_readsText cX11_readsText 2 (some .int) ∈ nd_tbl := nd_ti (i := 1391) (by decide +kernel) rfl
theorem ok_X11_readsText : nd_okN M_X11_readsText 1 := ⟨wc_X11_readsText, wn_X11, by decide +kernel, by decide +kernel, by decide +kernel⟩
theorem wi_X11_readsText : Cond.instanceMethod yX11_readsText ∈ nd_tbl := nd_ti (i := 1390) (by decide +kernel) rfl
theorem wl_X11_readsText : Cond.selects RX11 yX11_readsText yX11_readsText ∈ nd_tbl := nd_tp (i := 49) (by decide +kernel) rfl
theorem cl_X11_298 : nd_cv RX11 298 M_X11_readsText 1 10 := ⟨ok_X11_readsText, wi_X11_readsText, wl_X11_readsText, nd_ti (i := 1388) (by decide +kernel) rfl, TX11, 69, rfl⟩
theorem wc_J3_checkIndex_8e157 : Cond.code yJ3_checkIndex_8e157 cJ3_checkIndex_8e157 3 (some .int) ∈ nd_tbl := nd_ti (i := 663) (by decide +kernel) rfl
theorem wn_J3 : Cond.initialized RJ3 ∈ nd_tbl := nd_ti (i := 17) (by decide +kernel) rfl
theorem ok_J3_checkIndex_8e157 : nd_okN M_J3_checkIndex_8e157 3 := ⟨wc_J3_checkIndex_8e157, wn_J3, by decide +kernel, by decide +kernel, by decide +kernel⟩
theorem ws_J3_checkIndex_8e157 : Cond.static yJ3_checkIndex_8e157 ∈ nd_tbl := nd_ti (i := 662) (by decide +kernel) rfl
theorem cl_J0_1059 : nd_cs RJ0 1059 M_J3_checkIndex_8e157 3 := ⟨ok_J3_checkIndex_8e157, ws_J3_checkIndex_8e157, Or.inl (nd_ti (i := 661) (by decide +kernel) rfl)⟩
theorem gs_J0_1053 : Cond.fieldLink RJ0 1053 "jdk/internal/util/Preconditions" "SIOOBE_FORMATTER" "Ljava/util/function/BiFunction;" ∈ nd_tbl := nd_ti (i := 608) (by decide +kernel) rfl
