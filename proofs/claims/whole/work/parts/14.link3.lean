theorem wc_X5_below : Cond.code yX5_below cX5_below 4 (some .int) ∈ nd_tbl := nd_ti (i := 916) (by decide +kernel) rfl
theorem ok_X5_below : nd_okN M_X5_below 1 := ⟨wc_X5_below, wn_X5, by decide +kernel, by decide +kernel, by decide +kernel⟩
theorem wi_X5_below : Cond.instanceMethod yX5_below ∈ nd_tbl := nd_ti (i := 915) (by decide +kernel) rfl
theorem wl_X5_below : Cond.selects RX5 yX5_below yX5_below ∈ nd_tbl := nd_tp (i := 37) (by decide +kernel) rfl
theorem cl_X5_74 : nd_cv RX5 74 M_X5_below 1 4 := ⟨ok_X5_below, wi_X5_below, wl_X5_below, nd_ti (i := 913) (by decide +kernel) rfl, TX5, 7, rfl⟩
theorem wc_X4_copy : Cond.code yX4_copy cX4_copy 2 none ∈ nd_tbl := nd_ti (i := 751) (by decide +kernel) rfl
theorem ok_X4_copy : nd_okN M_X4_copy 1 := ⟨wc_X4_copy, wn_X4, by decide +kernel, by decide +kernel, by decide +kernel⟩
theorem wi_X4_copy : Cond.instanceMethod yX4_copy ∈ nd_tbl := nd_ti (i := 749) (by decide +kernel) rfl
theorem wl_X4_copy : Cond.selects RX4 yX4_copy yX4_copy ∈ nd_tbl := nd_ti (i := 750) (by decide +kernel) rfl
theorem cl_X5_50 : nd_cv RX5 50 M_X4_copy 1 3 := ⟨ok_X4_copy, wi_X4_copy, wl_X4_copy, nd_ti (i := 748) (by decide +kernel) rfl, TX4, 2, rfl⟩
theorem lk_X5_54 : Cond.methodLink RX5 54 arraycopyName ∈ nd_tbl := nd_ti (i := 754) (by decide +kernel) rfl
theorem gf_X7_82 : nd_gf RX7 82 7 3 := ⟨RX8, TX8, 6, rfl, by decide, Or.inr ⟨"NextDoorBrides", nd_tn (i := 154) (by decide +kernel) rfl⟩⟩
theorem kc_X7_88 : Cond.constant RX7 88 (524288 : Int32) ∈ nd_tbl := nd_ti (i := 945) (by decide +kernel) rfl
theorem wc_X7_between : Cond.code yX7_between cX7_between 4 (some .int) ∈ nd_tbl := nd_ti (i := 943) (by decide +kernel) rfl
theorem ok_X7_between : nd_okN M_X7_between 2 := ⟨wc_X7_between, wn_X7, by decide +kernel, by decide +kernel, by decide +kernel⟩
theorem wi_X7_between : Cond.instanceMethod yX7_between ∈ nd_tbl := nd_ti (i := 942) (by decide +kernel) rfl
theorem wl_X7_between : Cond.selects RX7 yX7_between yX7_between ∈ nd_tbl := nd_tp (i := 38) (by decide +kernel) rfl
theorem cl_X7_85 : nd_cv RX7 85 M_X7_between 2 6 := ⟨ok_X7_between, wi_X7_between, wl_X7_between, nd_ti (i := 940) (by decide +kernel) rfl, TX7, 3, rfl⟩
theorem wc_X7_nextCanWin : Cond.code yX7_nextCanWin cX7_nextCanWin 8 (some .boolean) ∈ nd_tbl := nd_ti (i := 1040) (by decide +kernel) rfl
theorem ok_X7_nextCanWin : nd_okN M_X7_nextCanWin 2 := ⟨wc_X7_nextCanWin, wn_X7, by decide +kernel, by decide +kernel, by decide +kernel⟩
theorem wi_X7_nextCanWin : Cond.instanceMethod yX7_nextCanWin ∈ nd_tbl := nd_ti (i := 1039) (by decide +kernel) rfl
theorem wl_X7_nextCanWin : Cond.selects RX7 yX7_nextCanWin yX7_nextCanWin ∈ nd_tbl := nd_tp (i := 42) (by decide +kernel) rfl
theorem cl_X7_111 : nd_cv RX7 111 M_X7_nextCanWin 2 6 := ⟨ok_X7_nextCanWin, wi_X7_nextCanWin, wl_X7_nextCanWin, nd_ti (i := 1037) (by decide +kernel) rfl, TX7, 3, rfl⟩
theorem wc_X7_see : Cond.code yX7_see cX7_see 5 (some .boolean) ∈ nd_tbl := nd_ti (i := 1016) (by decide +kernel) rfl
theorem ok_X7_see : nd_okN M_X7_see 2 := ⟨wc_X7_see, wn_X7, by decide +kernel, by decide +kernel, by decide +kernel⟩
theorem wi_X7_see : Cond.instanceMethod yX7_see ∈ nd_tbl := nd_ti (i := 1015) (by decide +kernel) rfl
theorem wl_X7_see : Cond.selects RX7 yX7_see yX7_see ∈ nd_tbl := nd_tp (i := 41) (by decide +kernel) rfl
theorem cl_X7_104 : nd_cv RX7 104 M_X7_see 2 6 := ⟨ok_X7_see, wi_X7_see, wl_X7_see, nd_ti (i := 1013) (by decide +kernel) rfl, TX7, 3, rfl⟩
theorem gf_X8_14 : nd_gf RX8 14 7 0 := ⟨RX8, TX8, 6, rfl, by decide, Or.inl (nd_ti (i := 144) (by decide +kernel) rfl)⟩
theorem gf_X8_20 : nd_gf RX8 20 7 1 := ⟨RX8, TX8, 6, rfl, by decide, Or.inl (nd_ti (i := 147) (by decide +kernel) rfl)⟩
theorem gf_X8_23 : nd_gf RX8 23 7 2 := ⟨RX8, TX8, 6, rfl, by decide, Or.inl (nd_ti (i := 150) (by decide +kernel) rfl)⟩
theorem gf_X8_26 : nd_gf RX8 26 7 3 := ⟨RX8, TX8, 6, rfl, by decide, Or.inl (nd_ti (i := 153) (by decide +kernel) rfl)⟩
theorem gf_X8_29 : nd_gf RX8 29 7 4 := ⟨RX8, TX8, 6, rfl, by decide, Or.inl (nd_ti (i := 156) (by decide +kernel) rfl)⟩
theorem gf_X8_32 : nd_gf RX8 32 7 5 := ⟨RX8, TX8, 6, rfl, by decide, Or.inl (nd_ti (i := 159) (by decide +kernel) rfl)⟩
theorem cl_X8_42 : nd_cv RX8 42 M_X4_copy 1 3 := ⟨ok_X4_copy, wi_X4_copy, wl_X4_copy, nd_ti (i := 1093) (by decide +kernel) rfl, TX4, 2, rfl⟩
theorem lk_X8_46 : Cond.methodLink RX8 46 arraycopyName ∈ nd_tbl := nd_ti (i := 1094) (by decide +kernel) rfl
theorem wc_X5_feud : Cond.code yX5_feud cX5_feud 3 (some .boolean) ∈ nd_tbl := nd_ti (i := 388) (by decide +kernel) rfl
theorem ok_X5_feud : nd_okN M_X5_feud 2 := ⟨wc_X5_feud, wn_X5, by decide +kernel, by decide +kernel, by decide +kernel⟩
theorem wi_X5_feud : Cond.instanceMethod yX5_feud ∈ nd_tbl := nd_ti (i := 386) (by decide +kernel) rfl
theorem wl_X5_feud : Cond.selects RX5 yX5_feud yX5_feud ∈ nd_tbl := nd_ti (i := 387) (by decide +kernel) rfl
theorem cl_X9_117 : nd_cv RX9 117 M_X5_feud 2 4 := ⟨ok_X5_feud, wi_X5_feud, wl_X5_feud, nd_ti (i := 385) (by decide +kernel) rfl, TX5, 7, rfl⟩
theorem wc_X6_add : Cond.code yX6_add cX6_add 4 none ∈ nd_tbl := nd_ti (i := 418) (by decide +kernel) rfl
theorem ok_X6_add : nd_okN M_X6_add 3 := ⟨wc_X6_add, wn_X6, by decide +kernel, by decide +kernel, by decide +kernel⟩
theorem wi_X6_add : Cond.instanceMethod yX6_add ∈ nd_tbl := nd_ti (i := 416) (by decide +kernel) rfl
theorem wl_X6_add : Cond.selects RX6 yX6_add yX6_add ∈ nd_tbl := nd_ti (i := 417) (by decide +kernel) rfl
theorem cl_X9_78 : nd_cv RX9 78 M_X6_add 3 5 := ⟨ok_X6_add, wi_X6_add, wl_X6_add, nd_ti (i := 415) (by decide +kernel) rfl, TX6, 9, rfl⟩
theorem pf_X9_71 : nd_pf RX9 71 5 2 .int false := ⟨RX6, TX6, 9, rfl, by decide, Or.inr ⟨rfl, "NextDoorBrides", nd_tn (i := 41) (by decide +kernel) rfl⟩, rfl, by decide +kernel, fun h => absurd h (by decide)⟩
theorem gf_X9_27 : nd_gf RX9 27 8 4 := ⟨RX9, TX9, 6, rfl, by decide, Or.inl (nd_ti (i := 252) (by decide +kernel) rfl)⟩
theorem gf_X9_153 : nd_gf RX9 153 4 1 := ⟨RX5, TX5, 7, rfl, by decide, Or.inr ⟨"NextDoorBrides", nd_tn (i := 111) (by decide +kernel) rfl⟩⟩
theorem wc_X9_joined : Cond.code yX9_joined cX9_joined 3 (some .int) ∈ nd_tbl := nd_ti (i := 444) (by decide +kernel) rfl
theorem ok_X9_joined : nd_okN M_X9_joined 3 := ⟨wc_X9_joined, wn_X9, by decide +kernel, by decide +kernel, by decide +kernel⟩
theorem ws_X9_joined : Cond.static yX9_joined ∈ nd_tbl := nd_ti (i := 443) (by decide +kernel) rfl
theorem cl_X9_159 : nd_cs RX9 159 M_X9_joined 3 := ⟨ok_X9_joined, ws_X9_joined, Or.inl (nd_ti (i := 442) (by decide +kernel) rfl)⟩
theorem wc_X9_named : Cond.code yX9_named cX9_named 3 (some .int) ∈ nd_tbl := nd_ti (i := 441) (by decide +kernel) rfl
theorem ok_X9_named : nd_okN M_X9_named 2 := ⟨wc_X9_named, wn_X9, by decide +kernel, by decide +kernel, by decide +kernel⟩
theorem wi_X9_named : Cond.instanceMethod yX9_named ∈ nd_tbl := nd_ti (i := 440) (by decide +kernel) rfl
theorem wl_X9_named : Cond.selects RX9 yX9_named yX9_named ∈ nd_tbl := nd_tp (i := 6) (by decide +kernel) rfl
theorem cl_X9_156 : nd_cv RX9 156 M_X9_named 2 8 := ⟨ok_X9_named, wi_X9_named, wl_X9_named, nd_ti (i := 438) (by decide +kernel) rfl, TX9, 6, rfl⟩
theorem cl_X9_99 : nd_cv RX9 99 M_X4_at 1 3 := ⟨ok_X4_at, wi_X4_at, wl_X4_at, nd_ti (i := 430) (by decide +kernel) rfl, TX4, 2, rfl⟩
theorem wc_J1_charAt_3b067 : Cond.code yJ1_charAt_3b067 cJ1_charAt_3b067 2 (some .char) ∈ nd_tbl := nd_ti (i := 568) (by decide +kernel) rfl
theorem ok_J1_charAt_3b067 : nd_okN M_J1_charAt_3b067 2 := ⟨wc_J1_charAt_3b067, wn_J1, by decide +kernel, by decide +kernel, by decide +kernel⟩
theorem ws_J1_charAt_3b067 : Cond.static yJ1_charAt_3b067 ∈ nd_tbl := nd_ti (i := 567) (by decide +kernel) rfl
theorem cl_J0_495 : nd_cs RJ0 495 M_J1_charAt_3b067 2 := ⟨ok_J1_charAt_3b067, ws_J1_charAt_3b067, Or.inl (nd_ti (i := 566) (by decide +kernel) rfl)⟩
theorem wc_J0_indexOf_7cf53 : Cond.code yJ0_indexOf_7cf53 cJ0_indexOf_7cf53 3 (some .int) ∈ nd_tbl := nd_ti (i := 607) (by decide +kernel) rfl
theorem ok_J0_indexOf_7cf53 : nd_okN M_J0_indexOf_7cf53 2 := ⟨wc_J0_indexOf_7cf53, wn_J0, by decide +kernel, by decide +kernel, by decide +kernel⟩
theorem wi_J0_indexOf_7cf53 : Cond.instanceMethod yJ0_indexOf_7cf53 ∈ nd_tbl := nd_ti (i := 605) (by decide +kernel) rfl
theorem wl_J0_indexOf_7cf53 : Cond.selects RJ0 yJ0_indexOf_7cf53 yJ0_indexOf_7cf53 ∈ nd_tbl := nd_ti (i := 606) (by decide +kernel) rfl
theorem cl_J0_633 : nd_ct RJ0 633 M_J0_indexOf_7cf53 2 := ⟨ok_J0_indexOf_7cf53, rfl, wi_J0_indexOf_7cf53, wl_J0_indexOf_7cf53, nd_ti (i := 604) (by decide +kernel) rfl⟩
theorem lk_X10_254 : Cond.methodLink RX10 254 Lib.Math.max.name ∈ nd_tbl := nd_ti (i := 934) (by decide +kernel) rfl
theorem lk_X10_257 : Cond.methodLink RX10 257 Lib.Math.min.name ∈ nd_tbl := nd_ti (i := 935) (by decide +kernel) rfl
theorem wc_X7_kinship : Cond.code yX7_kinship cX7_kinship 9 (some .int) ∈ nd_tbl := nd_ti (i := 939) (by decide +kernel) rfl
theorem ok_X7_kinship : nd_okN M_X7_kinship 2 := ⟨wc_X7_kinship, wn_X7, by decide +kernel, by decide +kernel, by decide +kernel⟩
theorem wi_X7_kinship : Cond.instanceMethod yX7_kinship ∈ nd_tbl := nd_ti (i := 937) (by decide +kernel) rfl
theorem wl_X7_kinship : Cond.selects RX7 yX7_kinship yX7_kinship ∈ nd_tbl := nd_ti (i := 938) (by decide +kernel) rfl
theorem cl_X10_260 : nd_cv RX10 260 M_X7_kinship 2 6 := ⟨ok_X7_kinship, wi_X7_kinship, wl_X7_kinship, nd_ti (i := 936) (by decide +kernel) rfl, TX7, 3, rfl⟩
theorem kc_X10_263 : Cond.constant RX10 263 (1048576 : Int32) ∈ nd_tbl := nd_ti (i := 946) (by decide +kernel) rfl
theorem wc_X7_leastWinningDoor : Cond.code yX7_leastWinningDoor cX7_leastWinningDoor 5 (some .int) ∈ nd_tbl := nd_ti (i := 1035) (by decide +kernel) rfl
theorem ok_X7_leastWinningDoor : nd_okN M_X7_leastWinningDoor 2 := ⟨wc_X7_leastWinningDoor, wn_X7, by decide +kernel, by decide +kernel, by decide +kernel⟩
theorem wi_X7_leastWinningDoor : Cond.instanceMethod yX7_leastWinningDoor ∈ nd_tbl := nd_ti (i := 1033) (by decide +kernel) rfl
theorem wl_X7_leastWinningDoor : Cond.selects RX7 yX7_leastWinningDoor yX7_leastWinningDoor ∈ nd_tbl := nd_ti (i := 1034) (by decide +kernel) rfl
theorem cl_X10_304 : nd_cv RX10 304 M_X7_leastWinningDoor 2 6 := ⟨ok_X7_leastWinningDoor, wi_X7_leastWinningDoor, wl_X7_leastWinningDoor, nd_ti (i := 1032) (by decide +kernel) rfl, TX7, 3, rfl⟩
theorem cl_X10_301 : nd_cs RX10 301 M_X7_threeTogether 1 := ⟨ok_X7_threeTogether, ws_X7_threeTogether, Or.inl (nd_ti (i := 1029) (by decide +kernel) rfl)⟩
theorem cl_X10_182 : nd_cs RX10 182 M_J9_floorMod_7cf53 2 := ⟨ok_J9_floorMod_7cf53, ws_J9_floorMod_7cf53, Or.inl (nd_ti (i := 789) (by decide +kernel) rfl)⟩
theorem wc_X0_passesFirst : Cond.code yX0_passesFirst cX0_passesFirst 5 (some .int) ∈ nd_tbl := nd_ti (i := 801) (by decide +kernel) rfl
theorem ok_X0_passesFirst : nd_okN M_X0_passesFirst 3 := ⟨wc_X0_passesFirst, wn_X0, by decide +kernel, by decide +kernel, by decide +kernel⟩
theorem ws_X0_passesFirst : Cond.static yX0_passesFirst ∈ nd_tbl := nd_ti (i := 800) (by decide +kernel) rfl
theorem cl_X10_192 : nd_cs RX10 192 M_X0_passesFirst 3 := ⟨ok_X0_passesFirst, ws_X0_passesFirst, Or.inl (nd_ti (i := 799) (by decide +kernel) rfl)⟩
theorem wc_X0_meetsBehind : Cond.code yX0_meetsBehind cX0_meetsBehind 4 (some .int) ∈ nd_tbl := nd_ti (i := 794) (by decide +kernel) rfl
theorem ok_X0_meetsBehind : nd_okN M_X0_meetsBehind 3 := ⟨wc_X0_meetsBehind, wn_X0, by decide +kernel, by decide +kernel, by decide +kernel⟩
theorem ws_X0_meetsBehind : Cond.static yX0_meetsBehind ∈ nd_tbl := nd_ti (i := 793) (by decide +kernel) rfl
theorem cl_X10_187 : nd_cs RX10 187 M_X0_meetsBehind 3 := ⟨ok_X0_meetsBehind, ws_X0_meetsBehind, Or.inl (nd_ti (i := 792) (by decide +kernel) rfl)⟩
theorem wc_X1_goBack : Cond.code yX1_goBack cX1_goBack 2 (some .boolean) ∈ nd_tbl := nd_ti (i := 1048) (by decide +kernel) rfl
theorem ok_X1_goBack : nd_okN M_X1_goBack 1 := ⟨wc_X1_goBack, wn_X1, by decide +kernel, by decide +kernel, by decide +kernel⟩
theorem wi_X1_goBack : Cond.instanceMethod yX1_goBack ∈ nd_tbl := nd_ti (i := 1046) (by decide +kernel) rfl
theorem wl_X1_goBack : Cond.selects RX1 yX1_goBack yX1_goBack ∈ nd_tbl := nd_ti (i := 1047) (by decide +kernel) rfl
theorem cl_X10_307 : nd_cv RX10 307 M_X1_goBack 1 0 := ⟨ok_X1_goBack, wi_X1_goBack, wl_X1_goBack, nd_ti (i := 1045) (by decide +kernel) rfl, TX1, 3, rfl⟩
theorem wc_X11_canGo : Cond.code yX11_canGo cX11_canGo 3 (some .boolean) ∈ nd_tbl := nd_ti (i := 1507) (by decide +kernel) rfl
theorem ok_X11_canGo : nd_okN M_X11_canGo 1 := ⟨wc_X11_canGo, wn_X11, by decide +kernel, by decide +kernel, by decide +kernel⟩
theorem wi_X11_canGo : Cond.instanceMethod yX11_canGo ∈ nd_tbl := nd_ti (i := 1506) (by decide +kernel) rfl
theorem wl_X11_canGo : Cond.selects RX11 yX11_canGo yX11_canGo ∈ nd_tbl := nd_tp (i := 79) (by decide +kernel) rfl
theorem cl_X11_345 : nd_cv RX11 345 M_X11_canGo 1 10 := ⟨ok_X11_canGo, wi_X11_canGo, wl_X11_canGo, nd_ti (i := 1504) (by decide +kernel) rfl, TX11, 69, rfl⟩
theorem wc_X11_isKing : Cond.code yX11_isKing cX11_isKing 5 (some .boolean) ∈ nd_tbl := nd_ti (i := 1703) (by decide +kernel) rfl
theorem ok_X11_isKing : nd_okN M_X11_isKing 1 := ⟨wc_X11_isKing, wn_X11, by decide +kernel, by decide +kernel, by decide +kernel⟩
theorem wi_X11_isKing : Cond.instanceMethod yX11_isKing ∈ nd_tbl := nd_ti (i := 1702) (by decide +kernel) rfl
theorem wl_X11_isKing : Cond.selects RX11 yX11_isKing yX11_isKing ∈ nd_tbl := nd_tp (i := 113) (by decide +kernel) rfl
theorem cl_X11_426 : nd_cv RX11 426 M_X11_isKing 1 10 := ⟨ok_X11_isKing, wi_X11_isKing, wl_X11_isKing, nd_ti (i := 1700) (by decide +kernel) rfl, TX11, 69, rfl⟩
theorem wc_X11_longest : Cond.code yX11_longest cX11_longest 8 (some .int) ∈ nd_tbl := nd_ti (i := 1695) (by decide +kernel) rfl
theorem ok_X11_longest : nd_okN M_X11_longest 0 := ⟨wc_X11_longest, wn_X11, by decide +kernel, by decide +kernel, by decide +kernel⟩
theorem wi_X11_longest : Cond.instanceMethod yX11_longest ∈ nd_tbl := nd_ti (i := 1694) (by decide +kernel) rfl
theorem wl_X11_longest : Cond.selects RX11 yX11_longest yX11_longest ∈ nd_tbl := nd_tp (i := 111) (by decide +kernel) rfl
theorem cl_X11_423 : nd_cv RX11 423 M_X11_longest 0 10 := ⟨ok_X11_longest, wi_X11_longest, wl_X11_longest, nd_ti (i := 1692) (by decide +kernel) rfl, TX11, 69, rfl⟩
theorem wc_X11_held : Cond.code yX11_held cX11_held 4 (some .int) ∈ nd_tbl := nd_ti (i := 1551) (by decide +kernel) rfl
theorem ok_X11_held : nd_okN M_X11_held 3 := ⟨wc_X11_held, wn_X11, by decide +kernel, by decide +kernel, by decide +kernel⟩
theorem wi_X11_held : Cond.instanceMethod yX11_held ∈ nd_tbl := nd_ti (i := 1550) (by decide +kernel) rfl
theorem wl_X11_held : Cond.selects RX11 yX11_held yX11_held ∈ nd_tbl := nd_tp (i := 90) (by decide +kernel) rfl
theorem cl_X11_316 : nd_cv RX11 316 M_X11_held 3 10 := ⟨ok_X11_held, wi_X11_held, wl_X11_held, nd_ti (i := 1548) (by decide +kernel) rfl, TX11, 69, rfl⟩
theorem wc_X11_lineOf : Cond.code yX11_lineOf cX11_lineOf 3 (some .int) ∈ nd_tbl := nd_ti (i := 1539) (by decide +kernel) rfl
theorem ok_X11_lineOf : nd_okN M_X11_lineOf 1 := ⟨wc_X11_lineOf, wn_X11, by decide +kernel, by decide +kernel, by decide +kernel⟩
theorem wi_X11_lineOf : Cond.instanceMethod yX11_lineOf ∈ nd_tbl := nd_ti (i := 1538) (by decide +kernel) rfl
theorem wl_X11_lineOf : Cond.selects RX11 yX11_lineOf yX11_lineOf ∈ nd_tbl := nd_tp (i := 87) (by decide +kernel) rfl
theorem cl_X11_313 : nd_cv RX11 313 M_X11_lineOf 1 10 := ⟨ok_X11_lineOf, wi_X11_lineOf, wl_X11_lineOf, nd_ti (i := 1536) (by decide +kernel) rfl, TX11, 69, rfl⟩
theorem wc_X11_isSign : Cond.code yX11_isSign cX11_isSign 2 (some .boolean) ∈ nd_tbl := nd_ti (i := 1427) (by decide +kernel) rfl
theorem ok_X11_isSign : nd_okN M_X11_isSign 1 := ⟨wc_X11_isSign, wn_X11, by decide +kernel, by decide +kernel, by decide +kernel⟩
theorem wi_X11_isSign : Cond.instanceMethod yX11_isSign ∈ nd_tbl := nd_ti (i := 1426) (by decide +kernel) rfl
theorem wl_X11_isSign : Cond.selects RX11 yX11_isSign yX11_isSign ∈ nd_tbl := nd_tp (i := 61) (by decide +kernel) rfl
theorem cl_X11_217 : nd_cv RX11 217 M_X11_isSign 1 10 := ⟨ok_X11_isSign, wi_X11_isSign, wl_X11_isSign, nd_ti (i := 1424) (by decide +kernel) rfl, TX11, 69, rfl⟩
theorem wc_X11_reads : Cond.code yX11_reads cX11_reads 2 none ∈ nd_tbl := nd_ti (i := 1371) (by decide +kernel) rfl
theorem ok_X11_reads : nd_okN M_X11_reads 0 := ⟨wc_X11_reads, wn_X11, by decide +kernel, by decide +kernel, by decide +kernel⟩
theorem wi_X11_reads : Cond.instanceMethod yX11_reads ∈ nd_tbl := nd_ti (i := 1370) (by decide +kernel) rfl
theorem wl_X11_reads : Cond.selects RX11 yX11_reads yX11_reads ∈ nd_tbl := nd_tp (i := 47) (by decide +kernel) rfl
theorem cl_X11_210 : nd_cv RX11 210 M_X11_reads 0 10 := ⟨ok_X11_reads, wi_X11_reads, wl_X11_reads, nd_ti (i := 1368) (by decide +kernel) rfl, TX11, 69, rfl⟩
theorem wc_X11_errs : Cond.code yX11_errs cX11_errs 2 (some .int) ∈ nd_tbl := nd_ti (i := 1403) (by decide +kernel) rfl
theorem ok_X11_errs : nd_okN M_X11_errs 1 := ⟨wc_X11_errs, wn_X11, by decide +kernel, by decide +kernel, by decide +kernel⟩
theorem wi_X11_errs : Cond.instanceMethod yX11_errs ∈ nd_tbl := nd_ti (i := 1402) (by decide +kernel) rfl
theorem wl_X11_errs : Cond.selects RX11 yX11_errs yX11_errs ∈ nd_tbl := nd_tp (i := 55) (by decide +kernel) rfl
theorem cl_X11_203 : nd_cv RX11 203 M_X11_errs 1 10 := ⟨ok_X11_errs, wi_X11_errs, wl_X11_errs, nd_ti (i := 1400) (by decide +kernel) rfl, TX11, 69, rfl⟩
theorem wc_X11_canAsk : Cond.code yX11_canAsk cX11_canAsk 2 (some .boolean) ∈ nd_tbl := nd_ti (i := 1451) (by decide +kernel) rfl
theorem ok_X11_canAsk : nd_okN M_X11_canAsk 1 := ⟨wc_X11_canAsk, wn_X11, by decide +kernel, by decide +kernel, by decide +kernel⟩
theorem wi_X11_canAsk : Cond.instanceMethod yX11_canAsk ∈ nd_tbl := nd_ti (i := 1450) (by decide +kernel) rfl
theorem wl_X11_canAsk : Cond.selects RX11 yX11_canAsk yX11_canAsk ∈ nd_tbl := nd_tp (i := 67) (by decide +kernel) rfl
theorem cl_X11_200 : nd_cv RX11 200 M_X11_canAsk 1 10 := ⟨ok_X11_canAsk, wi_X11_canAsk, wl_X11_canAsk, nd_ti (i := 1448) (by decide +kernel) rfl, TX11, 69, rfl⟩
theorem wc_X5_take : Cond.code yX5_take cX5_take 3 none ∈ nd_tbl := nd_ti (i := 747) (by decide +kernel) rfl
theorem ok_X5_take : nd_okN M_X5_take 2 := ⟨wc_X5_take, wn_X5, by decide +kernel, by decide +kernel, by decide +kernel⟩
theorem wi_X5_take : Cond.instanceMethod yX5_take ∈ nd_tbl := nd_ti (i := 745) (by decide +kernel) rfl
theorem wl_X5_take : Cond.selects RX5 yX5_take yX5_take ∈ nd_tbl := nd_ti (i := 746) (by decide +kernel) rfl
theorem cl_X5_60 : nd_cv RX5 60 M_X5_take 2 4 := ⟨ok_X5_take, wi_X5_take, wl_X5_take, nd_ti (i := 1087) (by decide +kernel) rfl, TX5, 7, rfl⟩
theorem wc_X7_seenFrom : Cond.code yX7_seenFrom cX7_seenFrom 4 (some .int) ∈ nd_tbl := nd_ti (i := 1012) (by decide +kernel) rfl
theorem ok_X7_seenFrom : nd_okN M_X7_seenFrom 1 := ⟨wc_X7_seenFrom, wn_X7, by decide +kernel, by decide +kernel, by decide +kernel⟩
theorem wi_X7_seenFrom : Cond.instanceMethod yX7_seenFrom ∈ nd_tbl := nd_ti (i := 1011) (by decide +kernel) rfl
theorem wl_X7_seenFrom : Cond.selects RX7 yX7_seenFrom yX7_seenFrom ∈ nd_tbl := nd_tp (i := 40) (by decide +kernel) rfl
theorem cl_X7_101 : nd_cv RX7 101 M_X7_seenFrom 1 6 := ⟨ok_X7_seenFrom, wi_X7_seenFrom, wl_X7_seenFrom, nd_ti (i := 1009) (by decide +kernel) rfl, TX7, 3, rfl⟩
theorem gf_X9_135 : nd_gf RX9 135 4 0 := ⟨RX5, TX5, 7, rfl, by decide, Or.inr ⟨"NextDoorBrides", nd_tn (i := 108) (by decide +kernel) rfl⟩⟩
theorem gf_X9_94 : nd_gf RX9 94 3 1 := ⟨RX4, TX4, 2, rfl, by decide, Or.inr ⟨"NextDoorBrides", nd_tn (i := 99) (by decide +kernel) rfl⟩⟩
theorem wc_X9_mostFor : Cond.code yX9_mostFor cX9_mostFor 3 (some .int) ∈ nd_tbl := nd_ti (i := 448) (by decide +kernel) rfl
theorem ok_X9_mostFor : nd_okN M_X9_mostFor 2 := ⟨wc_X9_mostFor, wn_X9, by decide +kernel, by decide +kernel, by decide +kernel⟩
theorem wi_X9_mostFor : Cond.instanceMethod yX9_mostFor ∈ nd_tbl := nd_ti (i := 447) (by decide +kernel) rfl
theorem wl_X9_mostFor : Cond.selects RX9 yX9_mostFor yX9_mostFor ∈ nd_tbl := nd_tp (i := 7) (by decide +kernel) rfl
theorem cl_X9_142 : nd_cv RX9 142 M_X9_mostFor 2 8 := ⟨ok_X9_mostFor, wi_X9_mostFor, wl_X9_mostFor, nd_ti (i := 445) (by decide +kernel) rfl, TX9, 6, rfl⟩
theorem lk_X9_145 : Cond.methodLink RX9 145 Lib.Math.min.name ∈ nd_tbl := nd_ti (i := 449) (by decide +kernel) rfl
theorem lk_X9_150 : Cond.methodLink RX9 150 Lib.Math.max.name ∈ nd_tbl := nd_ti (i := 450) (by decide +kernel) rfl
theorem wc_X9_reckon : Cond.code yX9_reckon cX9_reckon 8 (some .int) ∈ nd_tbl := nd_ti (i := 437) (by decide +kernel) rfl
theorem ok_X9_reckon : nd_okN M_X9_reckon 3 := ⟨wc_X9_reckon, wn_X9, by decide +kernel, by decide +kernel, by decide +kernel⟩
theorem wi_X9_reckon : Cond.instanceMethod yX9_reckon ∈ nd_tbl := nd_ti (i := 436) (by decide +kernel) rfl
theorem wl_X9_reckon : Cond.selects RX9 yX9_reckon yX9_reckon ∈ nd_tbl := nd_tp (i := 5) (by decide +kernel) rfl
theorem cl_X9_138 : nd_cv RX9 138 M_X9_reckon 3 8 := ⟨ok_X9_reckon, wi_X9_reckon, wl_X9_reckon, nd_ti (i := 434) (by decide +kernel) rfl, TX9, 6, rfl⟩
theorem wc_X9_usual : Cond.code yX9_usual cX9_usual 3 (some .int) ∈ nd_tbl := nd_ti (i := 429) (by decide +kernel) rfl
theorem ok_X9_usual : nd_okN M_X9_usual 2 := ⟨wc_X9_usual, wn_X9, by decide +kernel, by decide +kernel, by decide +kernel⟩
theorem wi_X9_usual : Cond.instanceMethod yX9_usual ∈ nd_tbl := nd_ti (i := 428) (by decide +kernel) rfl
theorem wl_X9_usual : Cond.selects RX9 yX9_usual yX9_usual ∈ nd_tbl := nd_tp (i := 4) (by decide +kernel) rfl
theorem cl_X9_132 : nd_cv RX9 132 M_X9_usual 2 8 := ⟨ok_X9_usual, wi_X9_usual, wl_X9_usual, nd_ti (i := 426) (by decide +kernel) rfl, TX9, 6, rfl⟩
theorem cl_X9_59 : nd_cv RX9 59 M_X6_has 1 5 := ⟨ok_X6_has, wi_X6_has, wl_X6_has, nd_ti (i := 368) (by decide +kernel) rfl, TX6, 9, rfl⟩
theorem wc_X9_nextOf : Cond.code yX9_nextOf cX9_nextOf 5 (some .int) ∈ nd_tbl := nd_ti (i := 376) (by decide +kernel) rfl
theorem ok_X9_nextOf : nd_okN M_X9_nextOf 1 := ⟨wc_X9_nextOf, wn_X9, by decide +kernel, by decide +kernel, by decide +kernel⟩
theorem wi_X9_nextOf : Cond.instanceMethod yX9_nextOf ∈ nd_tbl := nd_ti (i := 374) (by decide +kernel) rfl
theorem wl_X9_nextOf : Cond.selects RX9 yX9_nextOf yX9_nextOf ∈ nd_tbl := nd_ti (i := 375) (by decide +kernel) rfl
theorem cl_X9_63 : nd_cv RX9 63 M_X9_nextOf 1 8 := ⟨ok_X9_nextOf, wi_X9_nextOf, wl_X9_nextOf, nd_ti (i := 373) (by decide +kernel) rfl, TX9, 6, rfl⟩
theorem wc_X9_canGo : Cond.code yX9_canGo cX9_canGo 3 (some .boolean) ∈ nd_tbl := nd_ti (i := 384) (by decide +kernel) rfl
theorem ok_X9_canGo : nd_okN M_X9_canGo 2 := ⟨wc_X9_canGo, wn_X9, by decide +kernel, by decide +kernel, by decide +kernel⟩
theorem wi_X9_canGo : Cond.instanceMethod yX9_canGo ∈ nd_tbl := nd_ti (i := 383) (by decide +kernel) rfl
theorem wl_X9_canGo : Cond.selects RX9 yX9_canGo yX9_canGo ∈ nd_tbl := nd_tp (i := 2) (by decide +kernel) rfl
theorem cl_X9_67 : nd_cv RX9 67 M_X9_canGo 2 8 := ⟨ok_X9_canGo, wi_X9_canGo, wl_X9_canGo, nd_ti (i := 381) (by decide +kernel) rfl, TX9, 6, rfl⟩
theorem gf_X9_90 : nd_gf RX9 90 4 2 := ⟨RX5, TX5, 7, rfl, by decide, Or.inr ⟨"NextDoorBrides", nd_tn (i := 113) (by decide +kernel) rfl⟩⟩
theorem wc_X9_carryOut : Cond.code yX9_carryOut cX9_carryOut 4 none ∈ nd_tbl := nd_ti (i := 471) (by decide +kernel) rfl
theorem ok_X9_carryOut : nd_okN M_X9_carryOut 3 := ⟨wc_X9_carryOut, wn_X9, by decide +kernel, by decide +kernel, by decide +kernel⟩
theorem wi_X9_carryOut : Cond.instanceMethod yX9_carryOut ∈ nd_tbl := nd_ti (i := 470) (by decide +kernel) rfl
theorem wl_X9_carryOut : Cond.selects RX9 yX9_carryOut yX9_carryOut ∈ nd_tbl := nd_tp (i := 10) (by decide +kernel) rfl
theorem cl_X9_102 : nd_cv RX9 102 M_X9_carryOut 3 8 := ⟨ok_X9_carryOut, wi_X9_carryOut, wl_X9_carryOut, nd_ti (i := 468) (by decide +kernel) rfl, TX9, 6, rfl⟩
theorem gf_X10_53 : nd_gf RX10 53 9 6 := ⟨RX10, TX10, 11, rfl, by decide, Or.inl (nd_ti (i := 297) (by decide +kernel) rfl)⟩
theorem cl_X10_148 : nd_cv RX10 148 M_X6_get 2 5 := ⟨ok_X6_get, wi_X6_get, wl_X6_get, nd_ti (i := 763) (by decide +kernel) rfl, TX6, 9, rfl⟩
theorem cl_X10_151 : nd_cv RX10 151 M_X5_sideOf 1 4 := ⟨ok_X5_sideOf, wi_X5_sideOf, wl_X5_sideOf, nd_ti (i := 764) (by decide +kernel) rfl, TX5, 7, rfl⟩
theorem cl_X10_154 : nd_cv RX10 154 M_X9_nextOf 1 8 := ⟨ok_X9_nextOf, wi_X9_nextOf, wl_X9_nextOf, nd_ti (i := 765) (by decide +kernel) rfl, TX9, 6, rfl⟩
theorem wc_X9_ask : Cond.code yX9_ask cX9_ask 8 (some .int) ∈ nd_tbl := nd_ti (i := 425) (by decide +kernel) rfl
theorem ok_X9_ask : nd_okN M_X9_ask 2 := ⟨wc_X9_ask, wn_X9, by decide +kernel, by decide +kernel, by decide +kernel⟩
theorem wi_X9_ask : Cond.instanceMethod yX9_ask ∈ nd_tbl := nd_ti (i := 423) (by decide +kernel) rfl
theorem wl_X9_ask : Cond.selects RX9 yX9_ask yX9_ask ∈ nd_tbl := nd_ti (i := 424) (by decide +kernel) rfl
theorem cl_X10_157 : nd_cv RX10 157 M_X9_ask 2 8 := ⟨ok_X9_ask, wi_X9_ask, wl_X9_ask, nd_ti (i := 766) (by decide +kernel) rfl, TX9, 6, rfl⟩
theorem cl_X10_160 : nd_cv RX10 160 M_X5_feudsOf 1 4 := ⟨ok_X5_feudsOf, wi_X5_feudsOf, wl_X5_feudsOf, nd_ti (i := 767) (by decide +kernel) rfl, TX5, 7, rfl⟩
theorem wc_X7_couplesThatSee : Cond.code yX7_couplesThatSee cX7_couplesThatSee 3 (some .int) ∈ nd_tbl := nd_ti (i := 1008) (by decide +kernel) rfl
theorem ok_X7_couplesThatSee : nd_okN M_X7_couplesThatSee 0 := ⟨wc_X7_couplesThatSee, wn_X7, by decide +kernel, by decide +kernel, by decide +kernel⟩
theorem wi_X7_couplesThatSee : Cond.instanceMethod yX7_couplesThatSee ∈ nd_tbl := nd_ti (i := 1006) (by decide +kernel) rfl
theorem wl_X7_couplesThatSee : Cond.selects RX7 yX7_couplesThatSee yX7_couplesThatSee ∈ nd_tbl := nd_ti (i := 1007) (by decide +kernel) rfl
theorem cl_X10_292 : nd_cv RX10 292 M_X7_couplesThatSee 0 6 := ⟨ok_X7_couplesThatSee, wi_X7_couplesThatSee, wl_X7_couplesThatSee, nd_ti (i := 1005) (by decide +kernel) rfl, TX7, 3, rfl⟩
theorem wc_X7_mostSeen : Cond.code yX7_mostSeen cX7_mostSeen 3 (some .int) ∈ nd_tbl := nd_ti (i := 1020) (by decide +kernel) rfl
theorem ok_X7_mostSeen : nd_okN M_X7_mostSeen 0 := ⟨wc_X7_mostSeen, wn_X7, by decide +kernel, by decide +kernel, by decide +kernel⟩
theorem wi_X7_mostSeen : Cond.instanceMethod yX7_mostSeen ∈ nd_tbl := nd_ti (i := 1018) (by decide +kernel) rfl
theorem wl_X7_mostSeen : Cond.selects RX7 yX7_mostSeen yX7_mostSeen ∈ nd_tbl := nd_ti (i := 1019) (by decide +kernel) rfl
theorem cl_X10_295 : nd_cv RX10 295 M_X7_mostSeen 0 6 := ⟨ok_X7_mostSeen, wi_X7_mostSeen, wl_X7_mostSeen, nd_ti (i := 1017) (by decide +kernel) rfl, TX7, 3, rfl⟩
theorem wc_X7_rising : Cond.code yX7_rising cX7_rising 4 (some .int) ∈ nd_tbl := nd_ti (i := 1024) (by decide +kernel) rfl
theorem ok_X7_rising : nd_okN M_X7_rising 0 := ⟨wc_X7_rising, wn_X7, by decide +kernel, by decide +kernel, by decide +kernel⟩
theorem wi_X7_rising : Cond.instanceMethod yX7_rising ∈ nd_tbl := nd_ti (i := 1022) (by decide +kernel) rfl
theorem wl_X7_rising : Cond.selects RX7 yX7_rising yX7_rising ∈ nd_tbl := nd_ti (i := 1023) (by decide +kernel) rfl
theorem cl_X10_298 : nd_cv RX10 298 M_X7_rising 0 6 := ⟨ok_X7_rising, wi_X7_rising, wl_X7_rising, nd_ti (i := 1021) (by decide +kernel) rfl, TX7, 3, rfl⟩
theorem wc_X11_asks : Cond.code yX11_asks cX11_asks 2 none ∈ nd_tbl := nd_ti (i := 1531) (by decide +kernel) rfl
theorem ok_X11_asks : nd_okN M_X11_asks 1 := ⟨wc_X11_asks, wn_X11, by decide +kernel, by decide +kernel, by decide +kernel⟩
theorem wi_X11_asks : Cond.instanceMethod yX11_asks ∈ nd_tbl := nd_ti (i := 1530) (by decide +kernel) rfl
theorem wl_X11_asks : Cond.selects RX11 yX11_asks yX11_asks ∈ nd_tbl := nd_tp (i := 85) (by decide +kernel) rfl
theorem cl_X11_319 : nd_cv RX11 319 M_X11_asks 1 10 := ⟨ok_X11_asks, wi_X11_asks, wl_X11_asks, nd_ti (i := 1528) (by decide +kernel) rfl, TX11, 69, rfl⟩
theorem wc_X11_lawTells : Cond.code yX11_lawTells cX11_lawTells 5 (some .int) ∈ nd_tbl := nd_ti (i := 1535) (by decide +kernel) rfl
theorem ok_X11_lawTells : nd_okN M_X11_lawTells 3 := ⟨wc_X11_lawTells, wn_X11, by decide +kernel, by decide +kernel, by decide +kernel⟩
theorem wi_X11_lawTells : Cond.instanceMethod yX11_lawTells ∈ nd_tbl := nd_ti (i := 1534) (by decide +kernel) rfl
theorem wl_X11_lawTells : Cond.selects RX11 yX11_lawTells yX11_lawTells ∈ nd_tbl := nd_tp (i := 86) (by decide +kernel) rfl
theorem cl_X11_322 : nd_cv RX11 322 M_X11_lawTells 3 10 := ⟨ok_X11_lawTells, wi_X11_lawTells, wl_X11_lawTells, nd_ti (i := 1532) (by decide +kernel) rfl, TX11, 69, rfl⟩
theorem wc_X11_readUnit : Cond.code yX11_readUnit cX11_readUnit 2 (some .int) ∈ nd_tbl := nd_ti (i := 1447) (by decide +kernel) rfl
theorem ok_X11_readUnit : nd_okN M_X11_readUnit 0 := ⟨wc_X11_readUnit, wn_X11, by decide +kernel, by decide +kernel, by decide +kernel⟩
theorem wi_X11_readUnit : Cond.instanceMethod yX11_readUnit ∈ nd_tbl := nd_ti (i := 1446) (by decide +kernel) rfl
theorem wl_X11_readUnit : Cond.selects RX11 yX11_readUnit yX11_readUnit ∈ nd_tbl := nd_tp (i := 66) (by decide +kernel) rfl
theorem cl_X11_213 : nd_cv RX11 213 M_X11_readUnit 0 10 := ⟨ok_X11_readUnit, wi_X11_readUnit, wl_X11_readUnit, nd_ti (i := 1444) (by decide +kernel) rfl, TX11, 69, rfl⟩
theorem wc_X11_readNumber : Cond.code yX11_readNumber cX11_readNumber 4 (some .int) ∈ nd_tbl := nd_ti (i := 1415) (by decide +kernel) rfl
theorem ok_X11_readNumber : nd_okN M_X11_readNumber 2 := ⟨wc_X11_readNumber, wn_X11, by decide +kernel, by decide +kernel, by decide +kernel⟩
theorem wi_X11_readNumber : Cond.instanceMethod yX11_readNumber ∈ nd_tbl := nd_ti (i := 1414) (by decide +kernel) rfl
theorem wl_X11_readNumber : Cond.selects RX11 yX11_readNumber yX11_readNumber ∈ nd_tbl := nd_tp (i := 58) (by decide +kernel) rfl
theorem cl_X11_254 : nd_cv RX11 254 M_X11_readNumber 2 10 := ⟨ok_X11_readNumber, wi_X11_readNumber, wl_X11_readNumber, nd_ti (i := 1412) (by decide +kernel) rfl, TX11, 69, rfl⟩
theorem gf_X3_28 : nd_gf RX3 28 2 5 := ⟨RX3, TX3, 11, rfl, by decide, Or.inl (nd_ti (i := 212) (by decide +kernel) rfl)⟩
theorem gf_X3_49 : nd_gf RX3 49 2 10 := ⟨RX3, TX3, 11, rfl, by decide, Or.inl (nd_ti (i := 217) (by decide +kernel) rfl)⟩
theorem cl_X3_167 : nd_ct RX3 167 M_J0_length_8abf5 0 := ⟨ok_J0_length_8abf5, rfl, wi_J0_length_8abf5, wl_J0_length_8abf5, nd_ti (i := 548) (by decide +kernel) rfl⟩
theorem wc_J0_charAt_5068e : Cond.code yJ0_charAt_5068e cJ0_charAt_5068e 2 (some .char) ∈ nd_tbl := nd_ti (i := 561) (by decide +kernel) rfl
theorem ok_J0_charAt_5068e : nd_okN M_J0_charAt_5068e 1 := ⟨wc_J0_charAt_5068e, wn_J0, by decide +kernel, by decide +kernel, by decide +kernel⟩
theorem wi_J0_charAt_5068e : Cond.instanceMethod yJ0_charAt_5068e ∈ nd_tbl := nd_ti (i := 559) (by decide +kernel) rfl
theorem wl_J0_charAt_5068e : Cond.selects RJ0 yJ0_charAt_5068e yJ0_charAt_5068e ∈ nd_tbl := nd_ti (i := 560) (by decide +kernel) rfl
theorem cl_X3_170 : nd_ct RX3 170 M_J0_charAt_5068e 1 := ⟨ok_J0_charAt_5068e, rfl, wi_J0_charAt_5068e, wl_J0_charAt_5068e, nd_ti (i := 558) (by decide +kernel) rfl⟩
theorem cl_X9_111 : nd_cv RX9 111 M_X9_ask 2 8 := ⟨ok_X9_ask, wi_X9_ask, wl_X9_ask, nd_ti (i := 422) (by decide +kernel) rfl, TX9, 6, rfl⟩
theorem gf_X9_126 : nd_gf RX9 126 5 5 := ⟨RX6, TX6, 9, rfl, by decide, Or.inr ⟨"NextDoorBrides", nd_tn (i := 51) (by decide +kernel) rfl⟩⟩
theorem gf_X9_123 : nd_gf RX9 123 5 3 := ⟨RX6, TX6, 9, rfl, by decide, Or.inr ⟨"NextDoorBrides", nd_tn (i := 44) (by decide +kernel) rfl⟩⟩
theorem pf_X9_126 : nd_pf RX9 126 5 5 .int false := ⟨RX6, TX6, 9, rfl, by decide, Or.inr ⟨rfl, "NextDoorBrides", nd_tn (i := 51) (by decide +kernel) rfl⟩, rfl, by decide +kernel, fun h => absurd h (by decide)⟩
theorem pf_X9_123 : nd_pf RX9 123 5 3 .int false := ⟨RX6, TX6, 9, rfl, by decide, Or.inr ⟨rfl, "NextDoorBrides", nd_tn (i := 44) (by decide +kernel) rfl⟩, rfl, by decide +kernel, fun h => absurd h (by decide)⟩
theorem wc_X11_notes : Cond.code yX11_notes cX11_notes 5 none ∈ nd_tbl := nd_ti (i := 1555) (by decide +kernel) rfl
theorem ok_X11_notes : nd_okN M_X11_notes 3 := ⟨wc_X11_notes, wn_X11, by decide +kernel, by decide +kernel, by decide +kernel⟩
theorem wi_X11_notes : Cond.instanceMethod yX11_notes ∈ nd_tbl := nd_ti (i := 1554) (by decide +kernel) rfl
theorem wl_X11_notes : Cond.selects RX11 yX11_notes yX11_notes ∈ nd_tbl := nd_tp (i := 91) (by decide +kernel) rfl
theorem cl_X11_338 : nd_cv RX11 338 M_X11_notes 3 10 := ⟨ok_X11_notes, wi_X11_notes, wl_X11_notes, nd_ti (i := 1552) (by decide +kernel) rfl, TX11, 69, rfl⟩
theorem wc_X11_bearsOf : Cond.code yX11_bearsOf cX11_bearsOf 2 (some .int) ∈ nd_tbl := nd_ti (i := 1601) (by decide +kernel) rfl
theorem ok_X11_bearsOf : nd_okN M_X11_bearsOf 1 := ⟨wc_X11_bearsOf, wn_X11, by decide +kernel, by decide +kernel, by decide +kernel⟩
theorem wi_X11_bearsOf : Cond.instanceMethod yX11_bearsOf ∈ nd_tbl := nd_ti (i := 1600) (by decide +kernel) rfl
theorem wl_X11_bearsOf : Cond.selects RX11 yX11_bearsOf yX11_bearsOf ∈ nd_tbl := nd_tp (i := 101) (by decide +kernel) rfl
theorem cl_X11_366 : nd_cv RX11 366 M_X11_bearsOf 1 10 := ⟨ok_X11_bearsOf, wi_X11_bearsOf, wl_X11_bearsOf, nd_ti (i := 1598) (by decide +kernel) rfl, TX11, 69, rfl⟩
theorem wc_X11_bringsOf : Cond.code yX11_bringsOf cX11_bringsOf 2 (some .int) ∈ nd_tbl := nd_ti (i := 1527) (by decide +kernel) rfl
theorem ok_X11_bringsOf : nd_okN M_X11_bringsOf 1 := ⟨wc_X11_bringsOf, wn_X11, by decide +kernel, by decide +kernel, by decide +kernel⟩
theorem wi_X11_bringsOf : Cond.instanceMethod yX11_bringsOf ∈ nd_tbl := nd_ti (i := 1526) (by decide +kernel) rfl
theorem wl_X11_bringsOf : Cond.selects RX11 yX11_bringsOf yX11_bringsOf ∈ nd_tbl := nd_tp (i := 84) (by decide +kernel) rfl
theorem cl_X11_335 : nd_cv RX11 335 M_X11_bringsOf 1 10 := ⟨ok_X11_bringsOf, wi_X11_bringsOf, wl_X11_bringsOf, nd_ti (i := 1524) (by decide +kernel) rfl, TX11, 69, rfl⟩
theorem wc_X11_goesOf : Cond.code yX11_goesOf cX11_goesOf 2 (some .int) ∈ nd_tbl := nd_ti (i := 1583) (by decide +kernel) rfl
theorem ok_X11_goesOf : nd_okN M_X11_goesOf 1 := ⟨wc_X11_goesOf, wn_X11, by decide +kernel, by decide +kernel, by decide +kernel⟩
theorem wi_X11_goesOf : Cond.instanceMethod yX11_goesOf ∈ nd_tbl := nd_ti (i := 1582) (by decide +kernel) rfl
theorem wl_X11_goesOf : Cond.selects RX11 yX11_goesOf yX11_goesOf ∈ nd_tbl := nd_tp (i := 97) (by decide +kernel) rfl
theorem cl_X11_360 : nd_cv RX11 360 M_X11_goesOf 1 10 := ⟨ok_X11_goesOf, wi_X11_goesOf, wl_X11_goesOf, nd_ti (i := 1580) (by decide +kernel) rfl, TX11, 69, rfl⟩
theorem wc_X11_readMark : Cond.code yX11_readMark cX11_readMark 2 (some .int) ∈ nd_tbl := nd_ti (i := 1423) (by decide +kernel) rfl
theorem ok_X11_readMark : nd_okN M_X11_readMark 1 := ⟨wc_X11_readMark, wn_X11, by decide +kernel, by decide +kernel, by decide +kernel⟩
theorem wi_X11_readMark : Cond.instanceMethod yX11_readMark ∈ nd_tbl := nd_ti (i := 1422) (by decide +kernel) rfl
theorem wl_X11_readMark : Cond.selects RX11 yX11_readMark yX11_readMark ∈ nd_tbl := nd_tp (i := 60) (by decide +kernel) rfl
theorem cl_X11_264 : nd_cv RX11 264 M_X11_readMark 1 10 := ⟨ok_X11_readMark, wi_X11_readMark, wl_X11_readMark, nd_ti (i := 1420) (by decide +kernel) rfl, TX11, 69, rfl⟩
theorem wc_X11_readTold : Cond.code yX11_readTold cX11_readTold 4 (some .int) ∈ nd_tbl := nd_ti (i := 1411) (by decide +kernel) rfl
theorem ok_X11_readTold : nd_okN M_X11_readTold 3 := ⟨wc_X11_readTold, wn_X11, by decide +kernel, by decide +kernel, by decide +kernel⟩
theorem wi_X11_readTold : Cond.instanceMethod yX11_readTold ∈ nd_tbl := nd_ti (i := 1410) (by decide +kernel) rfl
theorem wl_X11_readTold : Cond.selects RX11 yX11_readTold yX11_readTold ∈ nd_tbl := nd_tp (i := 57) (by decide +kernel) rfl
theorem cl_X11_257 : nd_cv RX11 257 M_X11_readTold 3 10 := ⟨ok_X11_readTold, wi_X11_readTold, wl_X11_readTold, nd_ti (i := 1408) (by decide +kernel) rfl, TX11, 69, rfl⟩
theorem wc_X11_kindOfDeed : Cond.code yX11_kindOfDeed cX11_kindOfDeed 1 (some .int) ∈ nd_tbl := nd_ti (i := 1419) (by decide +kernel) rfl
theorem ok_X11_kindOfDeed : nd_okN M_X11_kindOfDeed 0 := ⟨wc_X11_kindOfDeed, wn_X11, by decide +kernel, by decide +kernel, by decide +kernel⟩
theorem wi_X11_kindOfDeed : Cond.instanceMethod yX11_kindOfDeed ∈ nd_tbl := nd_ti (i := 1418) (by decide +kernel) rfl
theorem wl_X11_kindOfDeed : Cond.selects RX11 yX11_kindOfDeed yX11_kindOfDeed ∈ nd_tbl := nd_tp (i := 59) (by decide +kernel) rfl
theorem cl_X11_261 : nd_cv RX11 261 M_X11_kindOfDeed 0 10 := ⟨ok_X11_kindOfDeed, wi_X11_kindOfDeed, wl_X11_kindOfDeed, nd_ti (i := 1416) (by decide +kernel) rfl, TX11, 69, rfl⟩
theorem wc_X11_readProduct : Cond.code yX11_readProduct cX11_readProduct 2 (some .int) ∈ nd_tbl := nd_ti (i := 1443) (by decide +kernel) rfl
theorem ok_X11_readProduct : nd_okN M_X11_readProduct 0 := ⟨wc_X11_readProduct, wn_X11, by decide +kernel, by decide +kernel, by decide +kernel⟩
theorem wi_X11_readProduct : Cond.instanceMethod yX11_readProduct ∈ nd_tbl := nd_ti (i := 1442) (by decide +kernel) rfl
theorem wl_X11_readProduct : Cond.selects RX11 yX11_readProduct yX11_readProduct ∈ nd_tbl := nd_tp (i := 65) (by decide +kernel) rfl
theorem cl_X11_220 : nd_cv RX11 220 M_X11_readProduct 0 10 := ⟨ok_X11_readProduct, wi_X11_readProduct, wl_X11_readProduct, nd_ti (i := 1440) (by decide +kernel) rfl, TX11, 69, rfl⟩
theorem pf_X3_147 : nd_pf RX3 147 2 9 .int false := ⟨RX3, TX3, 11, rfl, by decide, Or.inl (nd_ti (i := 216) (by decide +kernel) rfl), rfl, by decide +kernel, fun h => absurd h (by decide)⟩
theorem pf_X3_55 : nd_pf RX3 55 2 7 .int false := ⟨RX3, TX3, 11, rfl, by decide, Or.inl (nd_ti (i := 214) (by decide +kernel) rfl), rfl, by decide +kernel, fun h => absurd h (by decide)⟩
theorem wc_X3_wordNumber : Cond.code yX3_wordNumber cX3_wordNumber 5 (some .int) ∈ nd_tbl := nd_ti (i := 547) (by decide +kernel) rfl
theorem ok_X3_wordNumber : nd_okN M_X3_wordNumber 0 := ⟨wc_X3_wordNumber, wn_X3, by decide +kernel, by decide +kernel, by decide +kernel⟩
theorem wi_X3_wordNumber : Cond.instanceMethod yX3_wordNumber ∈ nd_tbl := nd_ti (i := 546) (by decide +kernel) rfl
theorem wl_X3_wordNumber : Cond.selects RX3 yX3_wordNumber yX3_wordNumber ∈ nd_tbl := nd_tp (i := 16) (by decide +kernel) rfl
theorem cl_X3_153 : nd_cv RX3 153 M_X3_wordNumber 0 2 := ⟨ok_X3_wordNumber, wi_X3_wordNumber, wl_X3_wordNumber, nd_ti (i := 544) (by decide +kernel) rfl, TX3, 11, rfl⟩
theorem pf_X3_72 : nd_pf RX3 72 2 8 .int false := ⟨RX3, TX3, 11, rfl, by decide, Or.inl (nd_ti (i := 215) (by decide +kernel) rfl), rfl, by decide +kernel, fun h => absurd h (by decide)⟩
theorem wc_X3_isLetter : Cond.code yX3_isLetter cX3_isLetter 1 (some .boolean) ∈ nd_tbl := nd_ti (i := 543) (by decide +kernel) rfl
theorem ok_X3_isLetter : nd_okN M_X3_isLetter 1 := ⟨wc_X3_isLetter, wn_X3, by decide +kernel, by decide +kernel, by decide +kernel⟩
theorem ws_X3_isLetter : Cond.static yX3_isLetter ∈ nd_tbl := nd_ti (i := 542) (by decide +kernel) rfl
theorem cl_X3_150 : nd_cs RX3 150 M_X3_isLetter 1 := ⟨ok_X3_isLetter, ws_X3_isLetter, Or.inl (nd_ti (i := 541) (by decide +kernel) rfl)⟩
theorem pf_X3_49 : nd_pf RX3 49 2 10 .int false := ⟨RX3, TX3, 11, rfl, by decide, Or.inl (nd_ti (i := 217) (by decide +kernel) rfl), rfl, by decide +kernel, fun h => absurd h (by decide)⟩
theorem wc_X3_isDigit : Cond.code yX3_isDigit cX3_isDigit 1 (some .boolean) ∈ nd_tbl := nd_ti (i := 598) (by decide +kernel) rfl
theorem ok_X3_isDigit : nd_okN M_X3_isDigit 1 := ⟨wc_X3_isDigit, wn_X3, by decide +kernel, by decide +kernel, by decide +kernel⟩
theorem ws_X3_isDigit : Cond.static yX3_isDigit ∈ nd_tbl := nd_ti (i := 597) (by decide +kernel) rfl
theorem cl_X3_157 : nd_cs RX3 157 M_X3_isDigit 1 := ⟨ok_X3_isDigit, ws_X3_isDigit, Or.inl (nd_ti (i := 596) (by decide +kernel) rfl)⟩
theorem wc_J0_indexOf_0f7a4 : Cond.code yJ0_indexOf_0f7a4 cJ0_indexOf_0f7a4 2 (some .int) ∈ nd_tbl := nd_ti (i := 603) (by decide +kernel) rfl
theorem ok_J0_indexOf_0f7a4 : nd_okN M_J0_indexOf_0f7a4 1 := ⟨wc_J0_indexOf_0f7a4, wn_J0, by decide +kernel, by decide +kernel, by decide +kernel⟩
theorem wi_J0_indexOf_0f7a4 : Cond.instanceMethod yJ0_indexOf_0f7a4 ∈ nd_tbl := nd_ti (i := 601) (by decide +kernel) rfl
theorem wl_J0_indexOf_0f7a4 : Cond.selects RJ0 yJ0_indexOf_0f7a4 yJ0_indexOf_0f7a4 ∈ nd_tbl := nd_ti (i := 602) (by decide +kernel) rfl
theorem cl_X3_162 : nd_ct RX3 162 M_J0_indexOf_0f7a4 1 := ⟨ok_J0_indexOf_0f7a4, rfl, wi_J0_indexOf_0f7a4, wl_J0_indexOf_0f7a4, nd_ti (i := 600) (by decide +kernel) rfl⟩
theorem wc_X9_wed : Cond.code yX9_wed cX9_wed 5 none ∈ nd_tbl := nd_ti (i := 414) (by decide +kernel) rfl
theorem ok_X9_wed : nd_okN M_X9_wed 2 := ⟨wc_X9_wed, wn_X9, by decide +kernel, by decide +kernel, by decide +kernel⟩
theorem wi_X9_wed : Cond.instanceMethod yX9_wed ∈ nd_tbl := nd_ti (i := 413) (by decide +kernel) rfl
theorem wl_X9_wed : Cond.selects RX9 yX9_wed yX9_wed ∈ nd_tbl := nd_tp (i := 3) (by decide +kernel) rfl
theorem cl_X9_74 : nd_cv RX9 74 M_X9_wed 2 8 := ⟨ok_X9_wed, wi_X9_wed, wl_X9_wed, nd_ti (i := 411) (by decide +kernel) rfl, TX9, 6, rfl⟩
theorem wc_X9_isLucky : Cond.code yX9_isLucky cX9_isLucky 2 (some .boolean) ∈ nd_tbl := nd_ti (i := 479) (by decide +kernel) rfl
theorem ok_X9_isLucky : nd_okN M_X9_isLucky 1 := ⟨wc_X9_isLucky, wn_X9, by decide +kernel, by decide +kernel, by decide +kernel⟩
theorem wi_X9_isLucky : Cond.instanceMethod yX9_isLucky ∈ nd_tbl := nd_ti (i := 478) (by decide +kernel) rfl
theorem wl_X9_isLucky : Cond.selects RX9 yX9_isLucky yX9_isLucky ∈ nd_tbl := nd_tp (i := 12) (by decide +kernel) rfl
theorem cl_X9_114 : nd_cv RX9 114 M_X9_isLucky 1 8 := ⟨ok_X9_isLucky, wi_X9_isLucky, wl_X9_isLucky, nd_ti (i := 476) (by decide +kernel) rfl, TX9, 6, rfl⟩
theorem pf_X9_33 : nd_pf RX9 33 8 5 .int false := ⟨RX9, TX9, 6, rfl, by decide, Or.inl (nd_ti (i := 253) (by decide +kernel) rfl), rfl, by decide +kernel, fun h => absurd h (by decide)⟩
theorem pf_X9_105 : nd_pf RX9 105 5 4 .int false := ⟨RX6, TX6, 9, rfl, by decide, Or.inr ⟨rfl, "NextDoorBrides", nd_tn (i := 46) (by decide +kernel) rfl⟩, rfl, by decide +kernel, fun h => absurd h (by decide)⟩
theorem wc_X9_canByHand : Cond.code yX9_canByHand cX9_canByHand 3 (some .boolean) ∈ nd_tbl := nd_ti (i := 367) (by decide +kernel) rfl
theorem ok_X9_canByHand : nd_okN M_X9_canByHand 2 := ⟨wc_X9_canByHand, wn_X9, by decide +kernel, by decide +kernel, by decide +kernel⟩
theorem wi_X9_canByHand : Cond.instanceMethod yX9_canByHand ∈ nd_tbl := nd_ti (i := 365) (by decide +kernel) rfl
theorem wl_X9_canByHand : Cond.selects RX9 yX9_canByHand yX9_canByHand ∈ nd_tbl := nd_ti (i := 366) (by decide +kernel) rfl
theorem cl_X10_99 : nd_cv RX10 99 M_X9_canByHand 2 8 := ⟨ok_X9_canByHand, wi_X9_canByHand, wl_X9_canByHand, nd_ti (i := 364) (by decide +kernel) rfl, TX9, 6, rfl⟩
theorem wc_X1_keep : Cond.code yX1_keep cX1_keep 2 none ∈ nd_tbl := nd_ti (i := 396) (by decide +kernel) rfl
theorem ok_X1_keep : nd_okN M_X1_keep 1 := ⟨wc_X1_keep, wn_X1, by decide +kernel, by decide +kernel, by decide +kernel⟩
theorem wi_X1_keep : Cond.instanceMethod yX1_keep ∈ nd_tbl := nd_ti (i := 394) (by decide +kernel) rfl
theorem wl_X1_keep : Cond.selects RX1 yX1_keep yX1_keep ∈ nd_tbl := nd_ti (i := 395) (by decide +kernel) rfl
theorem cl_X10_102 : nd_cv RX10 102 M_X1_keep 1 0 := ⟨ok_X1_keep, wi_X1_keep, wl_X1_keep, nd_ti (i := 393) (by decide +kernel) rfl, TX1, 3, rfl⟩
theorem wc_X9_doByHand : Cond.code yX9_doByHand cX9_doByHand 3 none ∈ nd_tbl := nd_ti (i := 410) (by decide +kernel) rfl
theorem ok_X9_doByHand : nd_okN M_X9_doByHand 2 := ⟨wc_X9_doByHand, wn_X9, by decide +kernel, by decide +kernel, by decide +kernel⟩
theorem wi_X9_doByHand : Cond.instanceMethod yX9_doByHand ∈ nd_tbl := nd_ti (i := 408) (by decide +kernel) rfl
theorem wl_X9_doByHand : Cond.selects RX9 yX9_doByHand yX9_doByHand ∈ nd_tbl := nd_ti (i := 409) (by decide +kernel) rfl
theorem cl_X10_106 : nd_cv RX10 106 M_X9_doByHand 2 8 := ⟨ok_X9_doByHand, wi_X9_doByHand, wl_X9_doByHand, nd_ti (i := 407) (by decide +kernel) rfl, TX9, 6, rfl⟩
theorem wc_X11_canAct : Cond.code yX11_canAct cX11_canAct 3 (some .boolean) ∈ nd_tbl := nd_ti (i := 1503) (by decide +kernel) rfl
theorem ok_X11_canAct : nd_okN M_X11_canAct 2 := ⟨wc_X11_canAct, wn_X11, by decide +kernel, by decide +kernel, by decide +kernel⟩
theorem wi_X11_canAct : Cond.instanceMethod yX11_canAct ∈ nd_tbl := nd_ti (i := 1502) (by decide +kernel) rfl
theorem wl_X11_canAct : Cond.selects RX11 yX11_canAct yX11_canAct ∈ nd_tbl := nd_tp (i := 78) (by decide +kernel) rfl
theorem cl_X11_348 : nd_cv RX11 348 M_X11_canAct 2 10 := ⟨ok_X11_canAct, wi_X11_canAct, wl_X11_canAct, nd_ti (i := 1500) (by decide +kernel) rfl, TX11, 69, rfl⟩
theorem wc_X11_keepsAhead : Cond.code yX11_keepsAhead cX11_keepsAhead 2 none ∈ nd_tbl := nd_ti (i := 1519) (by decide +kernel) rfl
theorem ok_X11_keepsAhead : nd_okN M_X11_keepsAhead 0 := ⟨wc_X11_keepsAhead, wn_X11, by decide +kernel, by decide +kernel, by decide +kernel⟩
theorem wi_X11_keepsAhead : Cond.instanceMethod yX11_keepsAhead ∈ nd_tbl := nd_ti (i := 1518) (by decide +kernel) rfl
theorem wl_X11_keepsAhead : Cond.selects RX11 yX11_keepsAhead yX11_keepsAhead ∈ nd_tbl := nd_tp (i := 82) (by decide +kernel) rfl
theorem cl_X11_351 : nd_cv RX11 351 M_X11_keepsAhead 0 10 := ⟨ok_X11_keepsAhead, wi_X11_keepsAhead, wl_X11_keepsAhead, nd_ti (i := 1516) (by decide +kernel) rfl, TX11, 69, rfl⟩
theorem wc_X11_girlGoes : Cond.code yX11_girlGoes cX11_girlGoes 5 none ∈ nd_tbl := nd_ti (i := 1523) (by decide +kernel) rfl
theorem ok_X11_girlGoes : nd_okN M_X11_girlGoes 1 := ⟨wc_X11_girlGoes, wn_X11, by decide +kernel, by decide +kernel, by decide +kernel⟩
theorem wi_X11_girlGoes : Cond.instanceMethod yX11_girlGoes ∈ nd_tbl := nd_ti (i := 1522) (by decide +kernel) rfl
theorem wl_X11_girlGoes : Cond.selects RX11 yX11_girlGoes yX11_girlGoes ∈ nd_tbl := nd_tp (i := 83) (by decide +kernel) rfl
theorem cl_X11_354 : nd_cv RX11 354 M_X11_girlGoes 1 10 := ⟨ok_X11_girlGoes, wi_X11_girlGoes, wl_X11_girlGoes, nd_ti (i := 1520) (by decide +kernel) rfl, TX11, 69, rfl⟩
theorem gf_X11_71 : nd_gf RX11 71 10 39 := ⟨RX11, TX11, 69, rfl, by decide, Or.inl (nd_ti (i := 1155) (by decide +kernel) rfl)⟩
