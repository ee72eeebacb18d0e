theorem wc_X11_happens : Cond.code yX11_happens cX11_happens 2 (some .boolean) ∈ nd_tbl := nd_ti (i := 1587) (by decide +kernel) rfl
theorem ok_X11_happens : nd_okN M_X11_happens 1 := ⟨wc_X11_happens, wn_X11, by decide +kernel, by decide +kernel, by decide +kernel⟩
theorem wi_X11_happens : Cond.instanceMethod yX11_happens ∈ nd_tbl := nd_ti (i := 1586) (by decide +kernel) rfl
theorem wl_X11_happens : Cond.selects RX11 yX11_happens yX11_happens ∈ nd_tbl := nd_tp (i := 98) (by decide +kernel) rfl
theorem cl_X11_363 : nd_cv RX11 363 M_X11_happens 1 10 := ⟨ok_X11_happens, wi_X11_happens, wl_X11_happens, nd_ti (i := 1584) (by decide +kernel) rfl, TX11, 69, rfl⟩
theorem wc_X11_readSum : Cond.code yX11_readSum cX11_readSum 2 (some .int) ∈ nd_tbl := nd_ti (i := 1439) (by decide +kernel) rfl
theorem ok_X11_readSum : nd_okN M_X11_readSum 0 := ⟨wc_X11_readSum, wn_X11, by decide +kernel, by decide +kernel, by decide +kernel⟩
theorem wi_X11_readSum : Cond.instanceMethod yX11_readSum ∈ nd_tbl := nd_ti (i := 1438) (by decide +kernel) rfl
theorem wl_X11_readSum : Cond.selects RX11 yX11_readSum yX11_readSum ∈ nd_tbl := nd_tp (i := 64) (by decide +kernel) rfl
theorem cl_X11_223 : nd_cv RX11 223 M_X11_readSum 0 10 := ⟨ok_X11_readSum, wi_X11_readSum, wl_X11_readSum, nd_ti (i := 1436) (by decide +kernel) rfl, TX11, 69, rfl⟩
theorem wc_X11_readFeud : Cond.code yX11_readFeud cX11_readFeud 3 (some .int) ∈ nd_tbl := nd_ti (i := 1483) (by decide +kernel) rfl
theorem ok_X11_readFeud : nd_okN M_X11_readFeud 0 := ⟨wc_X11_readFeud, wn_X11, by decide +kernel, by decide +kernel, by decide +kernel⟩
theorem wi_X11_readFeud : Cond.instanceMethod yX11_readFeud ∈ nd_tbl := nd_ti (i := 1482) (by decide +kernel) rfl
theorem wl_X11_readFeud : Cond.selects RX11 yX11_readFeud yX11_readFeud ∈ nd_tbl := nd_tp (i := 75) (by decide +kernel) rfl
theorem cl_X11_273 : nd_cv RX11 273 M_X11_readFeud 0 10 := ⟨ok_X11_readFeud, wi_X11_readFeud, wl_X11_readFeud, nd_ti (i := 1480) (by decide +kernel) rfl, TX11, 69, rfl⟩
theorem wc_X11_readSide : Cond.code yX11_readSide cX11_readSide 3 (some .int) ∈ nd_tbl := nd_ti (i := 1479) (by decide +kernel) rfl
theorem ok_X11_readSide : nd_okN M_X11_readSide 0 := ⟨wc_X11_readSide, wn_X11, by decide +kernel, by decide +kernel, by decide +kernel⟩
theorem wi_X11_readSide : Cond.instanceMethod yX11_readSide ∈ nd_tbl := nd_ti (i := 1478) (by decide +kernel) rfl
theorem wl_X11_readSide : Cond.selects RX11 yX11_readSide yX11_readSide ∈ nd_tbl := nd_tp (i := 74) (by decide +kernel) rfl
theorem cl_X11_270 : nd_cv RX11 270 M_X11_readSide 0 10 := ⟨ok_X11_readSide, wi_X11_readSide, wl_X11_readSide, nd_ti (i := 1476) (by decide +kernel) rfl, TX11, 69, rfl⟩
theorem wc_X11_readDeed : Cond.code yX11_readDeed cX11_readDeed 3 (some .int) ∈ nd_tbl := nd_ti (i := 1407) (by decide +kernel) rfl
theorem ok_X11_readDeed : nd_okN M_X11_readDeed 1 := ⟨wc_X11_readDeed, wn_X11, by decide +kernel, by decide +kernel, by decide +kernel⟩
theorem wi_X11_readDeed : Cond.instanceMethod yX11_readDeed ∈ nd_tbl := nd_ti (i := 1406) (by decide +kernel) rfl
theorem wl_X11_readDeed : Cond.selects RX11 yX11_readDeed yX11_readDeed ∈ nd_tbl := nd_tp (i := 56) (by decide +kernel) rfl
theorem cl_X11_267 : nd_cv RX11 267 M_X11_readDeed 1 10 := ⟨ok_X11_readDeed, wi_X11_readDeed, wl_X11_readDeed, nd_ti (i := 1404) (by decide +kernel) rfl, TX11, 69, rfl⟩
theorem wc_X3_advance : Cond.code yX3_advance cX3_advance 1 none ∈ nd_tbl := nd_ti (i := 540) (by decide +kernel) rfl
theorem ok_X3_advance : nd_okN M_X3_advance 0 := ⟨wc_X3_advance, wn_X3, by decide +kernel, by decide +kernel, by decide +kernel⟩
theorem wi_X3_advance : Cond.instanceMethod yX3_advance ∈ nd_tbl := nd_ti (i := 539) (by decide +kernel) rfl
theorem wl_X3_advance : Cond.selects RX3 yX3_advance yX3_advance ∈ nd_tbl := nd_tp (i := 15) (by decide +kernel) rfl
theorem cl_X3_52 : nd_cv RX3 52 M_X3_advance 0 2 := ⟨ok_X3_advance, wi_X3_advance, wl_X3_advance, nd_ti (i := 537) (by decide +kernel) rfl, TX3, 11, rfl⟩
theorem wc_X3_refuse : Cond.code yX3_refuse cX3_refuse 2 (some .boolean) ∈ nd_tbl := nd_ti (i := 662) (by decide +kernel) rfl
theorem ok_X3_refuse : nd_okN M_X3_refuse 1 := ⟨wc_X3_refuse, wn_X3, by decide +kernel, by decide +kernel, by decide +kernel⟩
theorem wi_X3_refuse : Cond.instanceMethod yX3_refuse ∈ nd_tbl := nd_ti (i := 661) (by decide +kernel) rfl
theorem wl_X3_refuse : Cond.selects RX3 yX3_refuse yX3_refuse ∈ nd_tbl := nd_tp (i := 18) (by decide +kernel) rfl
theorem cl_X3_75 : nd_cv RX3 75 M_X3_refuse 1 2 := ⟨ok_X3_refuse, wi_X3_refuse, wl_X3_refuse, nd_ti (i := 659) (by decide +kernel) rfl, TX3, 11, rfl⟩
theorem wc_X3_isWord : Cond.code yX3_isWord cX3_isWord 2 (some .boolean) ∈ nd_tbl := nd_ti (i := 682) (by decide +kernel) rfl
theorem ok_X3_isWord : nd_okN M_X3_isWord 1 := ⟨wc_X3_isWord, wn_X3, by decide +kernel, by decide +kernel, by decide +kernel⟩
theorem wi_X3_isWord : Cond.instanceMethod yX3_isWord ∈ nd_tbl := nd_ti (i := 681) (by decide +kernel) rfl
theorem wl_X3_isWord : Cond.selects RX3 yX3_isWord yX3_isWord ∈ nd_tbl := nd_tp (i := 22) (by decide +kernel) rfl
theorem cl_X3_105 : nd_cv RX3 105 M_X3_isWord 1 2 := ⟨ok_X3_isWord, wi_X3_isWord, wl_X3_isWord, nd_ti (i := 679) (by decide +kernel) rfl, TX3, 11, rfl⟩
theorem wc_X3_isSign : Cond.code yX3_isSign cX3_isSign 2 (some .boolean) ∈ nd_tbl := nd_ti (i := 678) (by decide +kernel) rfl
theorem ok_X3_isSign : nd_okN M_X3_isSign 1 := ⟨wc_X3_isSign, wn_X3, by decide +kernel, by decide +kernel, by decide +kernel⟩
theorem wi_X3_isSign : Cond.instanceMethod yX3_isSign ∈ nd_tbl := nd_ti (i := 677) (by decide +kernel) rfl
theorem wl_X3_isSign : Cond.selects RX3 yX3_isSign yX3_isSign ∈ nd_tbl := nd_tp (i := 21) (by decide +kernel) rfl
theorem cl_X3_132 : nd_cv RX3 132 M_X3_isSign 1 2 := ⟨ok_X3_isSign, wi_X3_isSign, wl_X3_isSign, nd_ti (i := 675) (by decide +kernel) rfl, TX3, 11, rfl⟩
theorem gf_X3_12 : nd_gf RX3 12 2 0 := ⟨RX3, TX3, 11, rfl, by decide, Or.inl (nd_ti (i := 204) (by decide +kernel) rfl)⟩
theorem gf_X3_95 : nd_gf RX3 95 4 1 := ⟨RX5, TX5, 7, rfl, by decide, Or.inr ⟨"NextDoorBrides", nd_tn (i := 110) (by decide +kernel) rfl⟩⟩
theorem cl_X3_138 : nd_cv RX3 138 M_X4_add 1 3 := ⟨ok_X4_add, wi_X4_add, wl_X4_add, nd_ti (i := 671) (by decide +kernel) rfl, TX4, 2, rfl⟩
theorem pf_X9_56 : nd_pf RX9 56 5 6 .int false := ⟨RX6, TX6, 9, rfl, by decide, Or.inr ⟨rfl, "NextDoorBrides", nd_tn (i := 52) (by decide +kernel) rfl⟩, rfl, by decide +kernel, fun h => absurd h (by decide)⟩
theorem wc_X9_beWidowed : Cond.code yX9_beWidowed cX9_beWidowed 3 none ∈ nd_tbl := nd_ti (i := 493) (by decide +kernel) rfl
theorem ok_X9_beWidowed : nd_okN M_X9_beWidowed 1 := ⟨wc_X9_beWidowed, wn_X9, by decide +kernel, by decide +kernel, by decide +kernel⟩
theorem wi_X9_beWidowed : Cond.instanceMethod yX9_beWidowed ∈ nd_tbl := nd_ti (i := 492) (by decide +kernel) rfl
theorem wl_X9_beWidowed : Cond.selects RX9 yX9_beWidowed yX9_beWidowed ∈ nd_tbl := nd_tp (i := 14) (by decide +kernel) rfl
theorem cl_X9_53 : nd_cv RX9 53 M_X9_beWidowed 1 8 := ⟨ok_X9_beWidowed, wi_X9_beWidowed, wl_X9_beWidowed, nd_ti (i := 490) (by decide +kernel) rfl, TX9, 6, rfl⟩
theorem wc_X9_bear : Cond.code yX9_bear cX9_bear 9 none ∈ nd_tbl := nd_ti (i := 489) (by decide +kernel) rfl
theorem ok_X9_bear : nd_okN M_X9_bear 1 := ⟨wc_X9_bear, wn_X9, by decide +kernel, by decide +kernel, by decide +kernel⟩
theorem wi_X9_bear : Cond.instanceMethod yX9_bear ∈ nd_tbl := nd_ti (i := 488) (by decide +kernel) rfl
theorem wl_X9_bear : Cond.selects RX9 yX9_bear yX9_bear ∈ nd_tbl := nd_tp (i := 13) (by decide +kernel) rfl
theorem cl_X9_50 : nd_cv RX9 50 M_X9_bear 1 8 := ⟨ok_X9_bear, wi_X9_bear, wl_X9_bear, nd_ti (i := 486) (by decide +kernel) rfl, TX9, 6, rfl⟩
theorem wc_X9_lookForHusband : Cond.code yX9_lookForHusband cX9_lookForHusband 3 none ∈ nd_tbl := nd_ti (i := 475) (by decide +kernel) rfl
theorem ok_X9_lookForHusband : nd_okN M_X9_lookForHusband 1 := ⟨wc_X9_lookForHusband, wn_X9, by decide +kernel, by decide +kernel, by decide +kernel⟩
theorem wi_X9_lookForHusband : Cond.instanceMethod yX9_lookForHusband ∈ nd_tbl := nd_ti (i := 474) (by decide +kernel) rfl
theorem wl_X9_lookForHusband : Cond.selects RX9 yX9_lookForHusband yX9_lookForHusband ∈ nd_tbl := nd_tp (i := 11) (by decide +kernel) rfl
theorem cl_X9_46 : nd_cv RX9 46 M_X9_lookForHusband 1 8 := ⟨ok_X9_lookForHusband, wi_X9_lookForHusband, wl_X9_lookForHusband, nd_ti (i := 472) (by decide +kernel) rfl, TX9, 6, rfl⟩
theorem wc_X9_carryOutPlans : Cond.code yX9_carryOutPlans cX9_carryOutPlans 3 none ∈ nd_tbl := nd_ti (i := 467) (by decide +kernel) rfl
theorem ok_X9_carryOutPlans : nd_okN M_X9_carryOutPlans 0 := ⟨wc_X9_carryOutPlans, wn_X9, by decide +kernel, by decide +kernel, by decide +kernel⟩
theorem wi_X9_carryOutPlans : Cond.instanceMethod yX9_carryOutPlans ∈ nd_tbl := nd_ti (i := 466) (by decide +kernel) rfl
theorem wl_X9_carryOutPlans : Cond.selects RX9 yX9_carryOutPlans yX9_carryOutPlans ∈ nd_tbl := nd_tp (i := 9) (by decide +kernel) rfl
theorem cl_X9_30 : nd_cv RX9 30 M_X9_carryOutPlans 0 8 := ⟨ok_X9_carryOutPlans, wi_X9_carryOutPlans, wl_X9_carryOutPlans, nd_ti (i := 464) (by decide +kernel) rfl, TX9, 6, rfl⟩
theorem gf_X10_57 : nd_gf RX10 57 9 7 := ⟨RX10, TX10, 11, rfl, by decide, Or.inl (nd_ti (i := 298) (by decide +kernel) rfl)⟩
theorem gf_X10_60 : nd_gf RX10 60 9 8 := ⟨RX10, TX10, 11, rfl, by decide, Or.inl (nd_ti (i := 299) (by decide +kernel) rfl)⟩
theorem wc_X6_dowries : Cond.code yX6_dowries cX6_dowries 3 (some .int) ∈ nd_tbl := nd_ti (i := 780) (by decide +kernel) rfl
theorem ok_X6_dowries : nd_okN M_X6_dowries 0 := ⟨wc_X6_dowries, wn_X6, by decide +kernel, by decide +kernel, by decide +kernel⟩
theorem wi_X6_dowries : Cond.instanceMethod yX6_dowries ∈ nd_tbl := nd_ti (i := 778) (by decide +kernel) rfl
theorem wl_X6_dowries : Cond.selects RX6 yX6_dowries yX6_dowries ∈ nd_tbl := nd_ti (i := 779) (by decide +kernel) rfl
theorem cl_X10_175 : nd_cv RX10 175 M_X6_dowries 0 5 := ⟨ok_X6_dowries, wi_X6_dowries, wl_X6_dowries, nd_ti (i := 777) (by decide +kernel) rfl, TX6, 9, rfl⟩
theorem wc_X9_pass : Cond.code yX9_pass cX9_pass 2 none ∈ nd_tbl := nd_ti (i := 463) (by decide +kernel) rfl
theorem ok_X9_pass : nd_okN M_X9_pass 0 := ⟨wc_X9_pass, wn_X9, by decide +kernel, by decide +kernel, by decide +kernel⟩
theorem wi_X9_pass : Cond.instanceMethod yX9_pass ∈ nd_tbl := nd_ti (i := 461) (by decide +kernel) rfl
theorem wl_X9_pass : Cond.selects RX9 yX9_pass yX9_pass ∈ nd_tbl := nd_ti (i := 462) (by decide +kernel) rfl
theorem cl_X10_116 : nd_cv RX10 116 M_X9_pass 0 8 := ⟨ok_X9_pass, wi_X9_pass, wl_X9_pass, nd_ti (i := 460) (by decide +kernel) rfl, TX9, 6, rfl⟩
theorem cl_X10_166 : nd_cv RX10 166 M_X6_copy 1 5 := ⟨ok_X6_copy, wi_X6_copy, wl_X6_copy, nd_ti (i := 776) (by decide +kernel) rfl, TX6, 9, rfl⟩
theorem wc_X11_childrenOf : Cond.code yX11_childrenOf cX11_childrenOf 8 none ∈ nd_tbl := nd_ti (i := 1597) (by decide +kernel) rfl
theorem ok_X11_childrenOf : nd_okN M_X11_childrenOf 1 := ⟨wc_X11_childrenOf, wn_X11, by decide +kernel, by decide +kernel, by decide +kernel⟩
theorem wi_X11_childrenOf : Cond.instanceMethod yX11_childrenOf ∈ nd_tbl := nd_ti (i := 1596) (by decide +kernel) rfl
theorem wl_X11_childrenOf : Cond.selects RX11 yX11_childrenOf yX11_childrenOf ∈ nd_tbl := nd_tp (i := 100) (by decide +kernel) rfl
theorem cl_X11_375 : nd_cv RX11 375 M_X11_childrenOf 1 10 := ⟨ok_X11_childrenOf, wi_X11_childrenOf, wl_X11_childrenOf, nd_ti (i := 1594) (by decide +kernel) rfl, TX11, 69, rfl⟩
theorem wc_X11_girlsGo : Cond.code yX11_girlsGo cX11_girlsGo 3 none ∈ nd_tbl := nd_ti (i := 1579) (by decide +kernel) rfl
theorem ok_X11_girlsGo : nd_okN M_X11_girlsGo 0 := ⟨wc_X11_girlsGo, wn_X11, by decide +kernel, by decide +kernel, by decide +kernel⟩
theorem wi_X11_girlsGo : Cond.instanceMethod yX11_girlsGo ∈ nd_tbl := nd_ti (i := 1578) (by decide +kernel) rfl
theorem wl_X11_girlsGo : Cond.selects RX11 yX11_girlsGo yX11_girlsGo ∈ nd_tbl := nd_tp (i := 96) (by decide +kernel) rfl
theorem cl_X11_372 : nd_cv RX11 372 M_X11_girlsGo 0 10 := ⟨ok_X11_girlsGo, wi_X11_girlsGo, wl_X11_girlsGo, nd_ti (i := 1576) (by decide +kernel) rfl, TX11, 69, rfl⟩
theorem wc_X11_does : Cond.code yX11_does cX11_does 4 none ∈ nd_tbl := nd_ti (i := 1575) (by decide +kernel) rfl
theorem ok_X11_does : nd_okN M_X11_does 1 := ⟨wc_X11_does, wn_X11, by decide +kernel, by decide +kernel, by decide +kernel⟩
theorem wi_X11_does : Cond.instanceMethod yX11_does ∈ nd_tbl := nd_ti (i := 1574) (by decide +kernel) rfl
theorem wl_X11_does : Cond.selects RX11 yX11_does yX11_does ∈ nd_tbl := nd_tp (i := 95) (by decide +kernel) rfl
theorem cl_X11_369 : nd_cv RX11 369 M_X11_does 1 10 := ⟨ok_X11_does, wi_X11_does, wl_X11_does, nd_ti (i := 1572) (by decide +kernel) rfl, TX11, 69, rfl⟩
theorem wc_X11_waits : Cond.code yX11_waits cX11_waits 2 none ∈ nd_tbl := nd_ti (i := 1463) (by decide +kernel) rfl
theorem ok_X11_waits : nd_okN M_X11_waits 1 := ⟨wc_X11_waits, wn_X11, by decide +kernel, by decide +kernel, by decide +kernel⟩
theorem wi_X11_waits : Cond.instanceMethod yX11_waits ∈ nd_tbl := nd_ti (i := 1462) (by decide +kernel) rfl
theorem wl_X11_waits : Cond.selects RX11 yX11_waits yX11_waits ∈ nd_tbl := nd_tp (i := 70) (by decide +kernel) rfl
theorem cl_X11_235 : nd_cv RX11 235 M_X11_waits 1 10 := ⟨ok_X11_waits, wi_X11_waits, wl_X11_waits, nd_ti (i := 1460) (by decide +kernel) rfl, TX11, 69, rfl⟩
theorem wc_X11_settles : Cond.code yX11_settles cX11_settles 2 none ∈ nd_tbl := nd_ti (i := 1471) (by decide +kernel) rfl
theorem ok_X11_settles : nd_okN M_X11_settles 1 := ⟨wc_X11_settles, wn_X11, by decide +kernel, by decide +kernel, by decide +kernel⟩
theorem wi_X11_settles : Cond.instanceMethod yX11_settles ∈ nd_tbl := nd_ti (i := 1470) (by decide +kernel) rfl
theorem wl_X11_settles : Cond.selects RX11 yX11_settles yX11_settles ∈ nd_tbl := nd_tp (i := 72) (by decide +kernel) rfl
theorem cl_X11_241 : nd_cv RX11 241 M_X11_settles 1 10 := ⟨ok_X11_settles, wi_X11_settles, wl_X11_settles, nd_ti (i := 1468) (by decide +kernel) rfl, TX11, 69, rfl⟩
theorem wc_X11_readCompared : Cond.code yX11_readCompared cX11_readCompared 2 (some .int) ∈ nd_tbl := nd_ti (i := 1467) (by decide +kernel) rfl
theorem ok_X11_readCompared : nd_okN M_X11_readCompared 0 := ⟨wc_X11_readCompared, wn_X11, by decide +kernel, by decide +kernel, by decide +kernel⟩
theorem wi_X11_readCompared : Cond.instanceMethod yX11_readCompared ∈ nd_tbl := nd_ti (i := 1466) (by decide +kernel) rfl
theorem wl_X11_readCompared : Cond.selects RX11 yX11_readCompared yX11_readCompared ∈ nd_tbl := nd_tp (i := 71) (by decide +kernel) rfl
theorem cl_X11_238 : nd_cv RX11 238 M_X11_readCompared 0 10 := ⟨ok_X11_readCompared, wi_X11_readCompared, wl_X11_readCompared, nd_ti (i := 1464) (by decide +kernel) rfl, TX11, 69, rfl⟩
theorem gf_X3_42 : nd_gf RX3 42 2 6 := ⟨RX3, TX3, 11, rfl, by decide, Or.inl (nd_ti (i := 213) (by decide +kernel) rfl)⟩
theorem wc_X3_readNumber : Cond.code yX3_readNumber cX3_readNumber 4 (some .boolean) ∈ nd_tbl := nd_ti (i := 715) (by decide +kernel) rfl
theorem ok_X3_readNumber : nd_okN M_X3_readNumber 3 := ⟨wc_X3_readNumber, wn_X3, by decide +kernel, by decide +kernel, by decide +kernel⟩
theorem wi_X3_readNumber : Cond.instanceMethod yX3_readNumber ∈ nd_tbl := nd_ti (i := 714) (by decide +kernel) rfl
theorem wl_X3_readNumber : Cond.selects RX3 yX3_readNumber yX3_readNumber ∈ nd_tbl := nd_tp (i := 29) (by decide +kernel) rfl
theorem cl_X3_115 : nd_cv RX3 115 M_X3_readNumber 3 2 := ⟨ok_X3_readNumber, wi_X3_readNumber, wl_X3_readNumber, nd_ti (i := 712) (by decide +kernel) rfl, TX3, 11, rfl⟩
theorem wc_X3_readSecondWord : Cond.code yX3_readSecondWord cX3_readSecondWord 1 (some .boolean) ∈ nd_tbl := nd_ti (i := 727) (by decide +kernel) rfl
theorem ok_X3_readSecondWord : nd_okN M_X3_readSecondWord 0 := ⟨wc_X3_readSecondWord, wn_X3, by decide +kernel, by decide +kernel, by decide +kernel⟩
theorem wi_X3_readSecondWord : Cond.instanceMethod yX3_readSecondWord ∈ nd_tbl := nd_ti (i := 726) (by decide +kernel) rfl
theorem wl_X3_readSecondWord : Cond.selects RX3 yX3_readSecondWord yX3_readSecondWord ∈ nd_tbl := nd_tp (i := 31) (by decide +kernel) rfl
theorem cl_X3_122 : nd_cv RX3 122 M_X3_readSecondWord 0 2 := ⟨ok_X3_readSecondWord, wi_X3_readSecondWord, wl_X3_readSecondWord, nd_ti (i := 724) (by decide +kernel) rfl, TX3, 11, rfl⟩
theorem wc_X5_addFeud : Cond.code yX5_addFeud cX5_addFeud 3 none ∈ nd_tbl := nd_ti (i := 731) (by decide +kernel) rfl
theorem ok_X5_addFeud : nd_okN M_X5_addFeud 2 := ⟨wc_X5_addFeud, wn_X5, by decide +kernel, by decide +kernel, by decide +kernel⟩
theorem wi_X5_addFeud : Cond.instanceMethod yX5_addFeud ∈ nd_tbl := nd_ti (i := 729) (by decide +kernel) rfl
theorem wl_X5_addFeud : Cond.selects RX5 yX5_addFeud yX5_addFeud ∈ nd_tbl := nd_ti (i := 730) (by decide +kernel) rfl
theorem cl_X3_125 : nd_cv RX3 125 M_X5_addFeud 2 4 := ⟨ok_X5_addFeud, wi_X5_addFeud, wl_X5_addFeud, nd_ti (i := 728) (by decide +kernel) rfl, TX5, 7, rfl⟩
theorem wc_X5_addPlan : Cond.code yX5_addPlan cX5_addPlan 5 none ∈ nd_tbl := nd_ti (i := 719) (by decide +kernel) rfl
theorem ok_X5_addPlan : nd_okN M_X5_addPlan 4 := ⟨wc_X5_addPlan, wn_X5, by decide +kernel, by decide +kernel, by decide +kernel⟩
theorem wi_X5_addPlan : Cond.instanceMethod yX5_addPlan ∈ nd_tbl := nd_ti (i := 717) (by decide +kernel) rfl
theorem wl_X5_addPlan : Cond.selects RX5 yX5_addPlan yX5_addPlan ∈ nd_tbl := nd_ti (i := 718) (by decide +kernel) rfl
theorem cl_X3_119 : nd_cv RX3 119 M_X5_addPlan 4 4 := ⟨ok_X5_addPlan, wi_X5_addPlan, wl_X5_addPlan, nd_ti (i := 716) (by decide +kernel) rfl, TX5, 7, rfl⟩
theorem wc_X5_addSide : Cond.code yX5_addSide cX5_addSide 3 none ∈ nd_tbl := nd_ti (i := 739) (by decide +kernel) rfl
theorem ok_X5_addSide : nd_okN M_X5_addSide 2 := ⟨wc_X5_addSide, wn_X5, by decide +kernel, by decide +kernel, by decide +kernel⟩
theorem wi_X5_addSide : Cond.instanceMethod yX5_addSide ∈ nd_tbl := nd_ti (i := 737) (by decide +kernel) rfl
theorem wl_X5_addSide : Cond.selects RX5 yX5_addSide yX5_addSide ∈ nd_tbl := nd_ti (i := 738) (by decide +kernel) rfl
theorem cl_X3_129 : nd_cv RX3 129 M_X5_addSide 2 4 := ⟨ok_X5_addSide, wi_X5_addSide, wl_X5_addSide, nd_ti (i := 736) (by decide +kernel) rfl, TX5, 7, rfl⟩
theorem wc_X11_endsThought : Cond.code yX11_endsThought cX11_endsThought 2 none ∈ nd_tbl := nd_ti (i := 1621) (by decide +kernel) rfl
theorem ok_X11_endsThought : nd_okN M_X11_endsThought 0 := ⟨wc_X11_endsThought, wn_X11, by decide +kernel, by decide +kernel, by decide +kernel⟩
theorem wi_X11_endsThought : Cond.instanceMethod yX11_endsThought ∈ nd_tbl := nd_ti (i := 1620) (by decide +kernel) rfl
theorem wl_X11_endsThought : Cond.selects RX11 yX11_endsThought yX11_endsThought ∈ nd_tbl := nd_tp (i := 103) (by decide +kernel) rfl
theorem cl_X11_384 : nd_cv RX11 384 M_X11_endsThought 0 10 := ⟨ok_X11_endsThought, wi_X11_endsThought, wl_X11_endsThought, nd_ti (i := 1618) (by decide +kernel) rfl, TX11, 69, rfl⟩
theorem wc_X11_goesBy : Cond.code yX11_goesBy cX11_goesBy 3 (some .int) ∈ nd_tbl := nd_ti (i := 1571) (by decide +kernel) rfl
theorem ok_X11_goesBy : nd_okN M_X11_goesBy 0 := ⟨wc_X11_goesBy, wn_X11, by decide +kernel, by decide +kernel, by decide +kernel⟩
theorem wi_X11_goesBy : Cond.instanceMethod yX11_goesBy ∈ nd_tbl := nd_ti (i := 1570) (by decide +kernel) rfl
theorem wl_X11_goesBy : Cond.selects RX11 yX11_goesBy yX11_goesBy ∈ nd_tbl := nd_tp (i := 94) (by decide +kernel) rfl
theorem cl_X11_378 : nd_cv RX11 378 M_X11_goesBy 0 10 := ⟨ok_X11_goesBy, wi_X11_goesBy, wl_X11_goesBy, nd_ti (i := 1568) (by decide +kernel) rfl, TX11, 69, rfl⟩
theorem wc_X11_thinks : Cond.code yX11_thinks cX11_thinks 2 none ∈ nd_tbl := nd_ti (i := 1617) (by decide +kernel) rfl
theorem ok_X11_thinks : nd_okN M_X11_thinks 0 := ⟨wc_X11_thinks, wn_X11, by decide +kernel, by decide +kernel, by decide +kernel⟩
theorem wi_X11_thinks : Cond.instanceMethod yX11_thinks ∈ nd_tbl := nd_ti (i := 1616) (by decide +kernel) rfl
theorem wl_X11_thinks : Cond.selects RX11 yX11_thinks yX11_thinks ∈ nd_tbl := nd_tp (i := 102) (by decide +kernel) rfl
theorem cl_X11_381 : nd_cv RX11 381 M_X11_thinks 0 10 := ⟨ok_X11_thinks, wi_X11_thinks, wl_X11_thinks, nd_ti (i := 1614) (by decide +kernel) rfl, TX11, 69, rfl⟩
theorem wc_X11_isLineWord : Cond.code yX11_isLineWord cX11_isLineWord 1 (some .boolean) ∈ nd_tbl := nd_ti (i := 1435) (by decide +kernel) rfl
theorem ok_X11_isLineWord : nd_okN M_X11_isLineWord 0 := ⟨wc_X11_isLineWord, wn_X11, by decide +kernel, by decide +kernel, by decide +kernel⟩
theorem wi_X11_isLineWord : Cond.instanceMethod yX11_isLineWord ∈ nd_tbl := nd_ti (i := 1434) (by decide +kernel) rfl
theorem wl_X11_isLineWord : Cond.selects RX11 yX11_isLineWord yX11_isLineWord ∈ nd_tbl := nd_tp (i := 63) (by decide +kernel) rfl
theorem cl_X11_244 : nd_cv RX11 244 M_X11_isLineWord 0 10 := ⟨ok_X11_isLineWord, wi_X11_isLineWord, wl_X11_isLineWord, nd_ti (i := 1432) (by decide +kernel) rfl, TX11, 69, rfl⟩
theorem wc_X11_readAny : Cond.code yX11_readAny cX11_readAny 4 (some .int) ∈ nd_tbl := nd_ti (i := 1459) (by decide +kernel) rfl
theorem ok_X11_readAny : nd_okN M_X11_readAny 0 := ⟨wc_X11_readAny, wn_X11, by decide +kernel, by decide +kernel, by decide +kernel⟩
theorem wi_X11_readAny : Cond.instanceMethod yX11_readAny ∈ nd_tbl := nd_ti (i := 1458) (by decide +kernel) rfl
theorem wl_X11_readAny : Cond.selects RX11 yX11_readAny yX11_readAny ∈ nd_tbl := nd_tp (i := 69) (by decide +kernel) rfl
theorem cl_X11_248 : nd_cv RX11 248 M_X11_readAny 0 10 := ⟨ok_X11_readAny, wi_X11_readAny, wl_X11_readAny, nd_ti (i := 1456) (by decide +kernel) rfl, TX11, 69, rfl⟩
theorem wc_X11_readHouses : Cond.code yX11_readHouses cX11_readHouses 4 (some .int) ∈ nd_tbl := nd_ti (i := 1475) (by decide +kernel) rfl
theorem ok_X11_readHouses : nd_okN M_X11_readHouses 1 := ⟨wc_X11_readHouses, wn_X11, by decide +kernel, by decide +kernel, by decide +kernel⟩
theorem wi_X11_readHouses : Cond.instanceMethod yX11_readHouses ∈ nd_tbl := nd_ti (i := 1474) (by decide +kernel) rfl
theorem wl_X11_readHouses : Cond.selects RX11 yX11_readHouses yX11_readHouses ∈ nd_tbl := nd_tp (i := 73) (by decide +kernel) rfl
theorem cl_X11_282 : nd_cv RX11 282 M_X11_readHouses 1 10 := ⟨ok_X11_readHouses, wi_X11_readHouses, wl_X11_readHouses, nd_ti (i := 1472) (by decide +kernel) rfl, TX11, 69, rfl⟩
theorem pf_X11_251 : nd_pf RX11 251 10 22 .int false := ⟨RX11, TX11, 69, rfl, by decide, Or.inl (nd_ti (i := 1138) (by decide +kernel) rfl), rfl, by decide +kernel, fun h => absurd h (by decide)⟩
theorem wc_X11_readLaw : Cond.code yX11_readLaw cX11_readLaw 3 (some .int) ∈ nd_tbl := nd_ti (i := 1431) (by decide +kernel) rfl
theorem ok_X11_readLaw : nd_okN M_X11_readLaw 0 := ⟨wc_X11_readLaw, wn_X11, by decide +kernel, by decide +kernel, by decide +kernel⟩
theorem wi_X11_readLaw : Cond.instanceMethod yX11_readLaw ∈ nd_tbl := nd_ti (i := 1430) (by decide +kernel) rfl
theorem wl_X11_readLaw : Cond.selects RX11 yX11_readLaw yX11_readLaw ∈ nd_tbl := nd_tp (i := 62) (by decide +kernel) rfl
theorem cl_X11_279 : nd_cv RX11 279 M_X11_readLaw 0 10 := ⟨ok_X11_readLaw, wi_X11_readLaw, wl_X11_readLaw, nd_ti (i := 1428) (by decide +kernel) rfl, TX11, 69, rfl⟩
theorem wc_X11_readPlans : Cond.code yX11_readPlans cX11_readPlans 2 (some .int) ∈ nd_tbl := nd_ti (i := 1395) (by decide +kernel) rfl
theorem ok_X11_readPlans : nd_okN M_X11_readPlans 0 := ⟨wc_X11_readPlans, wn_X11, by decide +kernel, by decide +kernel, by decide +kernel⟩
theorem wi_X11_readPlans : Cond.instanceMethod yX11_readPlans ∈ nd_tbl := nd_ti (i := 1394) (by decide +kernel) rfl
theorem wl_X11_readPlans : Cond.selects RX11 yX11_readPlans yX11_readPlans ∈ nd_tbl := nd_tp (i := 53) (by decide +kernel) rfl
theorem cl_X11_276 : nd_cv RX11 276 M_X11_readPlans 0 10 := ⟨ok_X11_readPlans, wi_X11_readPlans, wl_X11_readPlans, nd_ti (i := 1392) (by decide +kernel) rfl, TX11, 69, rfl⟩
theorem wc_X11_takesOther : Cond.code yX11_takesOther cX11_takesOther 4 none ∈ nd_tbl := nd_ti (i := 1491) (by decide +kernel) rfl
theorem ok_X11_takesOther : nd_okN M_X11_takesOther 2 := ⟨wc_X11_takesOther, wn_X11, by decide +kernel, by decide +kernel, by decide +kernel⟩
theorem wi_X11_takesOther : Cond.instanceMethod yX11_takesOther ∈ nd_tbl := nd_ti (i := 1490) (by decide +kernel) rfl
theorem wl_X11_takesOther : Cond.selects RX11 yX11_takesOther yX11_takesOther ∈ nd_tbl := nd_tp (i := 77) (by decide +kernel) rfl
theorem cl_X11_304 : nd_cv RX11 304 M_X11_takesOther 2 10 := ⟨ok_X11_takesOther, wi_X11_takesOther, wl_X11_takesOther, nd_ti (i := 1488) (by decide +kernel) rfl, TX11, 69, rfl⟩
theorem wc_X11_takesLaw : Cond.code yX11_takesLaw cX11_takesLaw 3 none ∈ nd_tbl := nd_ti (i := 1487) (by decide +kernel) rfl
theorem ok_X11_takesLaw : nd_okN M_X11_takesLaw 1 := ⟨wc_X11_takesLaw, wn_X11, by decide +kernel, by decide +kernel, by decide +kernel⟩
theorem wi_X11_takesLaw : Cond.instanceMethod yX11_takesLaw ∈ nd_tbl := nd_ti (i := 1486) (by decide +kernel) rfl
theorem wl_X11_takesLaw : Cond.selects RX11 yX11_takesLaw yX11_takesLaw ∈ nd_tbl := nd_tp (i := 76) (by decide +kernel) rfl
theorem cl_X11_301 : nd_cv RX11 301 M_X11_takesLaw 1 10 := ⟨ok_X11_takesLaw, wi_X11_takesLaw, wl_X11_takesLaw, nd_ti (i := 1484) (by decide +kernel) rfl, TX11, 69, rfl⟩
theorem pf_X11_295 : nd_pf RX11 295 10 29 .int false := ⟨RX11, TX11, 69, rfl, by decide, Or.inl (nd_ti (i := 1145) (by decide +kernel) rfl), rfl, by decide +kernel, fun h => absurd h (by decide)⟩
theorem pf_X11_52 : nd_pf RX11 52 10 30 .int false := ⟨RX11, TX11, 69, rfl, by decide, Or.inl (nd_ti (i := 1146) (by decide +kernel) rfl), rfl, by decide +kernel, fun h => absurd h (by decide)⟩
theorem wc_X11_readsText : Cond.code yX11_readsText cX11_readsText 2 (some .int) ∈ nd_tbl := nd_ti (i := 1367) (by decide +kernel) rfl
theorem ok_X11_readsText : nd_okN M_X11_readsText 1 := ⟨wc_X11_readsText, wn_X11, by decide +kernel, by decide +kernel, by decide +kernel⟩
theorem wi_X11_readsText : Cond.instanceMethod yX11_readsText ∈ nd_tbl := nd_ti (i := 1366) (by decide +kernel) rfl
theorem wl_X11_readsText : Cond.selects RX11 yX11_readsText yX11_readsText ∈ nd_tbl := nd_tp (i := 46) (by decide +kernel) rfl
theorem cl_X11_298 : nd_cv RX11 298 M_X11_readsText 1 10 := ⟨ok_X11_readsText, wi_X11_readsText, wl_X11_readsText, nd_ti (i := 1364) (by decide +kernel) rfl, TX11, 69, rfl⟩
theorem wc_J3_checkIndex_8e157 : Cond.code yJ3_checkIndex_8e157 cJ3_checkIndex_8e157 3 (some .int) ∈ nd_tbl := nd_ti (i := 576) (by decide +kernel) rfl
theorem wn_J3 : Cond.initialized RJ3 ∈ nd_tbl := nd_ti (i := 16) (by decide +kernel) rfl
theorem ok_J3_checkIndex_8e157 : nd_okN M_J3_checkIndex_8e157 3 := ⟨wc_J3_checkIndex_8e157, wn_J3, by decide +kernel, by decide +kernel, by decide +kernel⟩
theorem ws_J3_checkIndex_8e157 : Cond.static yJ3_checkIndex_8e157 ∈ nd_tbl := nd_ti (i := 575) (by decide +kernel) rfl
theorem cl_J0_1059 : nd_cs RJ0 1059 M_J3_checkIndex_8e157 3 := ⟨ok_J3_checkIndex_8e157, ws_J3_checkIndex_8e157, Or.inl (nd_ti (i := 574) (by decide +kernel) rfl)⟩
theorem gs_J0_1053 : Cond.fieldLink RJ0 1053 "jdk/internal/util/Preconditions" "SIOOBE_FORMATTER" "Ljava/util/function/BiFunction;" ∈ nd_tbl := nd_ti (i := 572) (by decide +kernel) rfl
