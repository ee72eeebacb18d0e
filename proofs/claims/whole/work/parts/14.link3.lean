theorem wi_X11_isMarkSign : Cond.instanceMethod yX11_isMarkSign ∈ nd_tbl := nd_ti (i := 1414) (by decide +kernel) rfl
theorem wl_X11_isMarkSign : Cond.selects RX11 yX11_isMarkSign yX11_isMarkSign ∈ nd_tbl := nd_tp (i := 55) (by decide +kernel) rfl
theorem cl_X11_188 : nd_cv RX11 188 M_X11_isMarkSign 1 10 := ⟨ok_X11_isMarkSign, wi_X11_isMarkSign, wl_X11_isMarkSign, nd_ti (i := 1412) (by decide +kernel) rfl, TX11, 69, rfl⟩
theorem gf_X11_83 : nd_gf RX11 83 10 44 := ⟨RX11, TX11, 69, rfl, by decide, Or.inl (nd_ti (i := 1184) (by decide +kernel) rfl)⟩
theorem wc_X11_takesWagons : Cond.code yX11_takesWagons cX11_takesWagons 6 (some .int) ∈ nd_tbl := nd_ti (i := 1679) (by decide +kernel) rfl
theorem ok_X11_takesWagons : nd_okN M_X11_takesWagons 1 := ⟨wc_X11_takesWagons, wn_X11, by decide +kernel, by decide +kernel, by decide +kernel⟩
theorem wi_X11_takesWagons : Cond.instanceMethod yX11_takesWagons ∈ nd_tbl := nd_ti (i := 1678) (by decide +kernel) rfl
theorem wl_X11_takesWagons : Cond.selects RX11 yX11_takesWagons yX11_takesWagons ∈ nd_tbl := nd_tp (i := 109) (by decide +kernel) rfl
theorem cl_X11_401 : nd_cv RX11 401 M_X11_takesWagons 1 10 := ⟨ok_X11_takesWagons, wi_X11_takesWagons, wl_X11_takesWagons, nd_ti (i := 1676) (by decide +kernel) rfl, TX11, 69, rfl⟩
theorem wc_X11_deepest : Cond.code yX11_deepest cX11_deepest 6 (some .int) ∈ nd_tbl := nd_ti (i := 1683) (by decide +kernel) rfl
theorem ok_X11_deepest : nd_okN M_X11_deepest 1 := ⟨wc_X11_deepest, wn_X11, by decide +kernel, by decide +kernel, by decide +kernel⟩
theorem wi_X11_deepest : Cond.instanceMethod yX11_deepest ∈ nd_tbl := nd_ti (i := 1682) (by decide +kernel) rfl
theorem wl_X11_deepest : Cond.selects RX11 yX11_deepest yX11_deepest ∈ nd_tbl := nd_tp (i := 110) (by decide +kernel) rfl
theorem cl_X11_404 : nd_cv RX11 404 M_X11_deepest 1 10 := ⟨ok_X11_deepest, wi_X11_deepest, wl_X11_deepest, nd_ti (i := 1680) (by decide +kernel) rfl, TX11, 69, rfl⟩
theorem wc_X11_doSee : Cond.code yX11_doSee cX11_doSee 4 (some .boolean) ∈ nd_tbl := nd_ti (i := 1801) (by decide +kernel) rfl
theorem ok_X11_doSee : nd_okN M_X11_doSee 2 := ⟨wc_X11_doSee, wn_X11, by decide +kernel, by decide +kernel, by decide +kernel⟩
theorem wi_X11_doSee : Cond.instanceMethod yX11_doSee ∈ nd_tbl := nd_ti (i := 1800) (by decide +kernel) rfl
theorem wl_X11_doSee : Cond.selects RX11 yX11_doSee yX11_doSee ∈ nd_tbl := nd_tp (i := 125) (by decide +kernel) rfl
theorem cl_X11_467 : nd_cv RX11 467 M_X11_doSee 2 10 := ⟨ok_X11_doSee, wi_X11_doSee, wl_X11_doSee, nd_ti (i := 1798) (by decide +kernel) rfl, TX11, 69, rfl⟩
theorem wc_X11_rising : Cond.code yX11_rising cX11_rising 4 (some .int) ∈ nd_tbl := nd_ti (i := 1797) (by decide +kernel) rfl
theorem ok_X11_rising : nd_okN M_X11_rising 0 := ⟨wc_X11_rising, wn_X11, by decide +kernel, by decide +kernel, by decide +kernel⟩
theorem wi_X11_rising : Cond.instanceMethod yX11_rising ∈ nd_tbl := nd_ti (i := 1796) (by decide +kernel) rfl
theorem wl_X11_rising : Cond.selects RX11 yX11_rising yX11_rising ∈ nd_tbl := nd_tp (i := 124) (by decide +kernel) rfl
theorem cl_X11_464 : nd_cv RX11 464 M_X11_rising 0 10 := ⟨ok_X11_rising, wi_X11_rising, wl_X11_rising, nd_ti (i := 1794) (by decide +kernel) rfl, TX11, 69, rfl⟩
theorem gf_X1_22 : nd_gf RX1 22 0 2 := ⟨RX1, TX1, 3, rfl, by decide, Or.inl (nd_ti (i := 187) (by decide +kernel) rfl)⟩
theorem gf_X1_11 : nd_gf RX1 11 0 0 := ⟨RX1, TX1, 3, rfl, by decide, Or.inl (nd_ti (i := 184) (by decide +kernel) rfl)⟩
theorem pf_X1_22 : nd_pf RX1 22 0 2 .int false := ⟨RX1, TX1, 3, rfl, by decide, Or.inl (nd_ti (i := 187) (by decide +kernel) rfl), rfl, by decide +kernel, fun h => absurd h (by decide)⟩
theorem wc_X6_copy : Cond.code yX6_copy cX6_copy 2 none ∈ nd_tbl := nd_ti (i := 412) (by decide +kernel) rfl
theorem ok_X6_copy : nd_okN M_X6_copy 1 := ⟨wc_X6_copy, wn_X6, by decide +kernel, by decide +kernel, by decide +kernel⟩
theorem wi_X6_copy : Cond.instanceMethod yX6_copy ∈ nd_tbl := nd_ti (i := 410) (by decide +kernel) rfl
theorem wl_X6_copy : Cond.selects RX6 yX6_copy yX6_copy ∈ nd_tbl := nd_ti (i := 411) (by decide +kernel) rfl
theorem cl_X1_25 : nd_cv RX1 25 M_X6_copy 1 5 := ⟨ok_X6_copy, wi_X6_copy, wl_X6_copy, nd_ti (i := 409) (by decide +kernel) rfl, TX6, 9, rfl⟩
theorem lk_X1_29 : Cond.methodLink RX1 29 Lib.Math.min.name ∈ nd_tbl := nd_ti (i := 416) (by decide +kernel) rfl
theorem gf_X3_51 : nd_gf RX3 51 2 6 := ⟨RX3, TX3, 15, rfl, by decide, Or.inl (nd_ti (i := 213) (by decide +kernel) rfl)⟩
theorem wc_X3_readNumber : Cond.code yX3_readNumber cX3_readNumber 4 (some .boolean) ∈ nd_tbl := nd_ti (i := 739) (by decide +kernel) rfl
theorem ok_X3_readNumber : nd_okN M_X3_readNumber 3 := ⟨wc_X3_readNumber, wn_X3, by decide +kernel, by decide +kernel, by decide +kernel⟩
theorem wi_X3_readNumber : Cond.instanceMethod yX3_readNumber ∈ nd_tbl := nd_ti (i := 738) (by decide +kernel) rfl
theorem wl_X3_readNumber : Cond.selects RX3 yX3_readNumber yX3_readNumber ∈ nd_tbl := nd_tp (i := 32) (by decide +kernel) rfl
theorem cl_X3_124 : nd_cv RX3 124 M_X3_readNumber 3 2 := ⟨ok_X3_readNumber, wi_X3_readNumber, wl_X3_readNumber, nd_ti (i := 736) (by decide +kernel) rfl, TX3, 15, rfl⟩
theorem wc_X3_readSecondWord : Cond.code yX3_readSecondWord cX3_readSecondWord 1 (some .boolean) ∈ nd_tbl := nd_ti (i := 751) (by decide +kernel) rfl
theorem ok_X3_readSecondWord : nd_okN M_X3_readSecondWord 0 := ⟨wc_X3_readSecondWord, wn_X3, by decide +kernel, by decide +kernel, by decide +kernel⟩
theorem wi_X3_readSecondWord : Cond.instanceMethod yX3_readSecondWord ∈ nd_tbl := nd_ti (i := 750) (by decide +kernel) rfl
theorem wl_X3_readSecondWord : Cond.selects RX3 yX3_readSecondWord yX3_readSecondWord ∈ nd_tbl := nd_tp (i := 34) (by decide +kernel) rfl
theorem cl_X3_131 : nd_cv RX3 131 M_X3_readSecondWord 0 2 := ⟨ok_X3_readSecondWord, wi_X3_readSecondWord, wl_X3_readSecondWord, nd_ti (i := 748) (by decide +kernel) rfl, TX3, 15, rfl⟩
theorem wc_X5_addFeud : Cond.code yX5_addFeud cX5_addFeud 3 none ∈ nd_tbl := nd_ti (i := 755) (by decide +kernel) rfl
theorem ok_X5_addFeud : nd_okN M_X5_addFeud 2 := ⟨wc_X5_addFeud, wn_X5, by decide +kernel, by decide +kernel, by decide +kernel⟩
theorem wi_X5_addFeud : Cond.instanceMethod yX5_addFeud ∈ nd_tbl := nd_ti (i := 753) (by decide +kernel) rfl
theorem wl_X5_addFeud : Cond.selects RX5 yX5_addFeud yX5_addFeud ∈ nd_tbl := nd_ti (i := 754) (by decide +kernel) rfl
theorem cl_X3_134 : nd_cv RX3 134 M_X5_addFeud 2 4 := ⟨ok_X5_addFeud, wi_X5_addFeud, wl_X5_addFeud, nd_ti (i := 752) (by decide +kernel) rfl, TX5, 7, rfl⟩
theorem wc_X5_addPlan : Cond.code yX5_addPlan cX5_addPlan 5 none ∈ nd_tbl := nd_ti (i := 743) (by decide +kernel) rfl
theorem ok_X5_addPlan : nd_okN M_X5_addPlan 4 := ⟨wc_X5_addPlan, wn_X5, by decide +kernel, by decide +kernel, by decide +kernel⟩
theorem wi_X5_addPlan : Cond.instanceMethod yX5_addPlan ∈ nd_tbl := nd_ti (i := 741) (by decide +kernel) rfl
theorem wl_X5_addPlan : Cond.selects RX5 yX5_addPlan yX5_addPlan ∈ nd_tbl := nd_ti (i := 742) (by decide +kernel) rfl
theorem cl_X3_128 : nd_cv RX3 128 M_X5_addPlan 4 4 := ⟨ok_X5_addPlan, wi_X5_addPlan, wl_X5_addPlan, nd_ti (i := 740) (by decide +kernel) rfl, TX5, 7, rfl⟩
theorem wc_X5_addSide : Cond.code yX5_addSide cX5_addSide 3 none ∈ nd_tbl := nd_ti (i := 763) (by decide +kernel) rfl
theorem ok_X5_addSide : nd_okN M_X5_addSide 2 := ⟨wc_X5_addSide, wn_X5, by decide +kernel, by decide +kernel, by decide +kernel⟩
theorem wi_X5_addSide : Cond.instanceMethod yX5_addSide ∈ nd_tbl := nd_ti (i := 761) (by decide +kernel) rfl
theorem wl_X5_addSide : Cond.selects RX5 yX5_addSide yX5_addSide ∈ nd_tbl := nd_ti (i := 762) (by decide +kernel) rfl
theorem cl_X3_138 : nd_cv RX3 138 M_X5_addSide 2 4 := ⟨ok_X5_addSide, wi_X5_addSide, wl_X5_addSide, nd_ti (i := 760) (by decide +kernel) rfl, TX5, 7, rfl⟩
theorem wc_X5_below : Cond.code yX5_below cX5_below 4 (some .int) ∈ nd_tbl := nd_ti (i := 940) (by decide +kernel) rfl
theorem ok_X5_below : nd_okN M_X5_below 1 := ⟨wc_X5_below, wn_X5, by decide +kernel, by decide +kernel, by decide +kernel⟩
theorem wi_X5_below : Cond.instanceMethod yX5_below ∈ nd_tbl := nd_ti (i := 939) (by decide +kernel) rfl
theorem wl_X5_below : Cond.selects RX5 yX5_below yX5_below ∈ nd_tbl := nd_tp (i := 40) (by decide +kernel) rfl
theorem cl_X5_74 : nd_cv RX5 74 M_X5_below 1 4 := ⟨ok_X5_below, wi_X5_below, wl_X5_below, nd_ti (i := 937) (by decide +kernel) rfl, TX5, 7, rfl⟩
theorem wc_X4_copy : Cond.code yX4_copy cX4_copy 2 none ∈ nd_tbl := nd_ti (i := 775) (by decide +kernel) rfl
theorem ok_X4_copy : nd_okN M_X4_copy 1 := ⟨wc_X4_copy, wn_X4, by decide +kernel, by decide +kernel, by decide +kernel⟩
theorem wi_X4_copy : Cond.instanceMethod yX4_copy ∈ nd_tbl := nd_ti (i := 773) (by decide +kernel) rfl
theorem wl_X4_copy : Cond.selects RX4 yX4_copy yX4_copy ∈ nd_tbl := nd_ti (i := 774) (by decide +kernel) rfl
theorem cl_X5_50 : nd_cv RX5 50 M_X4_copy 1 3 := ⟨ok_X4_copy, wi_X4_copy, wl_X4_copy, nd_ti (i := 772) (by decide +kernel) rfl, TX4, 2, rfl⟩
theorem lk_X5_54 : Cond.methodLink RX5 54 arraycopyName ∈ nd_tbl := nd_ti (i := 778) (by decide +kernel) rfl
theorem gf_X7_82 : nd_gf RX7 82 7 3 := ⟨RX8, TX8, 6, rfl, by decide, Or.inr ⟨"NextDoorBrides", nd_tn (i := 154) (by decide +kernel) rfl⟩⟩
theorem kc_X7_88 : Cond.constant RX7 88 (524288 : Int32) ∈ nd_tbl := nd_ti (i := 969) (by decide +kernel) rfl
theorem wc_X7_between : Cond.code yX7_between cX7_between 4 (some .int) ∈ nd_tbl := nd_ti (i := 967) (by decide +kernel) rfl
theorem ok_X7_between : nd_okN M_X7_between 2 := ⟨wc_X7_between, wn_X7, by decide +kernel, by decide +kernel, by decide +kernel⟩
theorem wi_X7_between : Cond.instanceMethod yX7_between ∈ nd_tbl := nd_ti (i := 966) (by decide +kernel) rfl
theorem wl_X7_between : Cond.selects RX7 yX7_between yX7_between ∈ nd_tbl := nd_tp (i := 41) (by decide +kernel) rfl
theorem cl_X7_85 : nd_cv RX7 85 M_X7_between 2 6 := ⟨ok_X7_between, wi_X7_between, wl_X7_between, nd_ti (i := 964) (by decide +kernel) rfl, TX7, 3, rfl⟩
theorem wc_X7_nextCanWin : Cond.code yX7_nextCanWin cX7_nextCanWin 8 (some .boolean) ∈ nd_tbl := nd_ti (i := 1064) (by decide +kernel) rfl
theorem ok_X7_nextCanWin : nd_okN M_X7_nextCanWin 2 := ⟨wc_X7_nextCanWin, wn_X7, by decide +kernel, by decide +kernel, by decide +kernel⟩
theorem wi_X7_nextCanWin : Cond.instanceMethod yX7_nextCanWin ∈ nd_tbl := nd_ti (i := 1063) (by decide +kernel) rfl
theorem wl_X7_nextCanWin : Cond.selects RX7 yX7_nextCanWin yX7_nextCanWin ∈ nd_tbl := nd_tp (i := 45) (by decide +kernel) rfl
theorem cl_X7_111 : nd_cv RX7 111 M_X7_nextCanWin 2 6 := ⟨ok_X7_nextCanWin, wi_X7_nextCanWin, wl_X7_nextCanWin, nd_ti (i := 1061) (by decide +kernel) rfl, TX7, 3, rfl⟩
theorem wc_X7_see : Cond.code yX7_see cX7_see 5 (some .boolean) ∈ nd_tbl := nd_ti (i := 1040) (by decide +kernel) rfl
theorem ok_X7_see : nd_okN M_X7_see 2 := ⟨wc_X7_see, wn_X7, by decide +kernel, by decide +kernel, by decide +kernel⟩
theorem wi_X7_see : Cond.instanceMethod yX7_see ∈ nd_tbl := nd_ti (i := 1039) (by decide +kernel) rfl
theorem wl_X7_see : Cond.selects RX7 yX7_see yX7_see ∈ nd_tbl := nd_tp (i := 44) (by decide +kernel) rfl
theorem cl_X7_104 : nd_cv RX7 104 M_X7_see 2 6 := ⟨ok_X7_see, wi_X7_see, wl_X7_see, nd_ti (i := 1037) (by decide +kernel) rfl, TX7, 3, rfl⟩
theorem gf_X8_14 : nd_gf RX8 14 7 0 := ⟨RX8, TX8, 6, rfl, by decide, Or.inl (nd_ti (i := 144) (by decide +kernel) rfl)⟩
theorem gf_X8_20 : nd_gf RX8 20 7 1 := ⟨RX8, TX8, 6, rfl, by decide, Or.inl (nd_ti (i := 147) (by decide +kernel) rfl)⟩
theorem gf_X8_23 : nd_gf RX8 23 7 2 := ⟨RX8, TX8, 6, rfl, by decide, Or.inl (nd_ti (i := 150) (by decide +kernel) rfl)⟩
theorem gf_X8_26 : nd_gf RX8 26 7 3 := ⟨RX8, TX8, 6, rfl, by decide, Or.inl (nd_ti (i := 153) (by decide +kernel) rfl)⟩
theorem gf_X8_29 : nd_gf RX8 29 7 4 := ⟨RX8, TX8, 6, rfl, by decide, Or.inl (nd_ti (i := 156) (by decide +kernel) rfl)⟩
theorem gf_X8_32 : nd_gf RX8 32 7 5 := ⟨RX8, TX8, 6, rfl, by decide, Or.inl (nd_ti (i := 159) (by decide +kernel) rfl)⟩
theorem cl_X8_42 : nd_cv RX8 42 M_X4_copy 1 3 := ⟨ok_X4_copy, wi_X4_copy, wl_X4_copy, nd_ti (i := 1117) (by decide +kernel) rfl, TX4, 2, rfl⟩
theorem lk_X8_46 : Cond.methodLink RX8 46 arraycopyName ∈ nd_tbl := nd_ti (i := 1118) (by decide +kernel) rfl
theorem wc_X5_feud : Cond.code yX5_feud cX5_feud 3 (some .boolean) ∈ nd_tbl := nd_ti (i := 400) (by decide +kernel) rfl
theorem ok_X5_feud : nd_okN M_X5_feud 2 := ⟨wc_X5_feud, wn_X5, by decide +kernel, by decide +kernel, by decide +kernel⟩
theorem wi_X5_feud : Cond.instanceMethod yX5_feud ∈ nd_tbl := nd_ti (i := 398) (by decide +kernel) rfl
theorem wl_X5_feud : Cond.selects RX5 yX5_feud yX5_feud ∈ nd_tbl := nd_ti (i := 399) (by decide +kernel) rfl
theorem cl_X9_117 : nd_cv RX9 117 M_X5_feud 2 4 := ⟨ok_X5_feud, wi_X5_feud, wl_X5_feud, nd_ti (i := 397) (by decide +kernel) rfl, TX5, 7, rfl⟩
theorem wc_X6_add : Cond.code yX6_add cX6_add 4 none ∈ nd_tbl := nd_ti (i := 430) (by decide +kernel) rfl
theorem ok_X6_add : nd_okN M_X6_add 3 := ⟨wc_X6_add, wn_X6, by decide +kernel, by decide +kernel, by decide +kernel⟩
theorem wi_X6_add : Cond.instanceMethod yX6_add ∈ nd_tbl := nd_ti (i := 428) (by decide +kernel) rfl
theorem wl_X6_add : Cond.selects RX6 yX6_add yX6_add ∈ nd_tbl := nd_ti (i := 429) (by decide +kernel) rfl
theorem cl_X9_78 : nd_cv RX9 78 M_X6_add 3 5 := ⟨ok_X6_add, wi_X6_add, wl_X6_add, nd_ti (i := 427) (by decide +kernel) rfl, TX6, 9, rfl⟩
theorem pf_X9_71 : nd_pf RX9 71 5 2 .int false := ⟨RX6, TX6, 9, rfl, by decide, Or.inr ⟨rfl, "NextDoorBrides", nd_tn (i := 41) (by decide +kernel) rfl⟩, rfl, by decide +kernel, fun h => absurd h (by decide)⟩
theorem gf_X9_27 : nd_gf RX9 27 8 4 := ⟨RX9, TX9, 6, rfl, by decide, Or.inl (nd_ti (i := 264) (by decide +kernel) rfl)⟩
theorem gf_X9_153 : nd_gf RX9 153 4 1 := ⟨RX5, TX5, 7, rfl, by decide, Or.inr ⟨"NextDoorBrides", nd_tn (i := 111) (by decide +kernel) rfl⟩⟩
theorem wc_X9_joined : Cond.code yX9_joined cX9_joined 3 (some .int) ∈ nd_tbl := nd_ti (i := 456) (by decide +kernel) rfl
theorem ok_X9_joined : nd_okN M_X9_joined 3 := ⟨wc_X9_joined, wn_X9, by decide +kernel, by decide +kernel, by decide +kernel⟩
theorem ws_X9_joined : Cond.static yX9_joined ∈ nd_tbl := nd_ti (i := 455) (by decide +kernel) rfl
theorem cl_X9_159 : nd_cs RX9 159 M_X9_joined 3 := ⟨ok_X9_joined, ws_X9_joined, Or.inl (nd_ti (i := 454) (by decide +kernel) rfl)⟩
theorem wc_X9_named : Cond.code yX9_named cX9_named 3 (some .int) ∈ nd_tbl := nd_ti (i := 453) (by decide +kernel) rfl
theorem ok_X9_named : nd_okN M_X9_named 2 := ⟨wc_X9_named, wn_X9, by decide +kernel, by decide +kernel, by decide +kernel⟩
theorem wi_X9_named : Cond.instanceMethod yX9_named ∈ nd_tbl := nd_ti (i := 452) (by decide +kernel) rfl
theorem wl_X9_named : Cond.selects RX9 yX9_named yX9_named ∈ nd_tbl := nd_tp (i := 6) (by decide +kernel) rfl
theorem cl_X9_156 : nd_cv RX9 156 M_X9_named 2 8 := ⟨ok_X9_named, wi_X9_named, wl_X9_named, nd_ti (i := 450) (by decide +kernel) rfl, TX9, 6, rfl⟩
theorem cl_X9_99 : nd_cv RX9 99 M_X4_at 1 3 := ⟨ok_X4_at, wi_X4_at, wl_X4_at, nd_ti (i := 442) (by decide +kernel) rfl, TX4, 2, rfl⟩
theorem wc_J1_charAt_3b067 : Cond.code yJ1_charAt_3b067 cJ1_charAt_3b067 2 (some .char) ∈ nd_tbl := nd_ti (i := 657) (by decide +kernel) rfl
theorem ok_J1_charAt_3b067 : nd_okN M_J1_charAt_3b067 2 := ⟨wc_J1_charAt_3b067, wn_J1, by decide +kernel, by decide +kernel, by decide +kernel⟩
theorem ws_J1_charAt_3b067 : Cond.static yJ1_charAt_3b067 ∈ nd_tbl := nd_ti (i := 656) (by decide +kernel) rfl
theorem cl_J0_495 : nd_cs RJ0 495 M_J1_charAt_3b067 2 := ⟨ok_J1_charAt_3b067, ws_J1_charAt_3b067, Or.inl (nd_ti (i := 655) (by decide +kernel) rfl)⟩
theorem wc_J0_indexOf_7cf53 : Cond.code yJ0_indexOf_7cf53 cJ0_indexOf_7cf53 3 (some .int) ∈ nd_tbl := nd_ti (i := 564) (by decide +kernel) rfl
theorem ok_J0_indexOf_7cf53 : nd_okN M_J0_indexOf_7cf53 2 := ⟨wc_J0_indexOf_7cf53, wn_J0, by decide +kernel, by decide +kernel, by decide +kernel⟩
theorem wi_J0_indexOf_7cf53 : Cond.instanceMethod yJ0_indexOf_7cf53 ∈ nd_tbl := nd_ti (i := 562) (by decide +kernel) rfl
theorem wl_J0_indexOf_7cf53 : Cond.selects RJ0 yJ0_indexOf_7cf53 yJ0_indexOf_7cf53 ∈ nd_tbl := nd_ti (i := 563) (by decide +kernel) rfl
theorem cl_J0_633 : nd_ct RJ0 633 M_J0_indexOf_7cf53 2 := ⟨ok_J0_indexOf_7cf53, rfl, wi_J0_indexOf_7cf53, wl_J0_indexOf_7cf53, nd_ti (i := 561) (by decide +kernel) rfl⟩
theorem lk_X10_254 : Cond.methodLink RX10 254 Lib.Math.max.name ∈ nd_tbl := nd_ti (i := 958) (by decide +kernel) rfl
theorem lk_X10_257 : Cond.methodLink RX10 257 Lib.Math.min.name ∈ nd_tbl := nd_ti (i := 959) (by decide +kernel) rfl
theorem wc_X7_kinship : Cond.code yX7_kinship cX7_kinship 9 (some .int) ∈ nd_tbl := nd_ti (i := 963) (by decide +kernel) rfl
theorem ok_X7_kinship : nd_okN M_X7_kinship 2 := ⟨wc_X7_kinship, wn_X7, by decide +kernel, by decide +kernel, by decide +kernel⟩
theorem wi_X7_kinship : Cond.instanceMethod yX7_kinship ∈ nd_tbl := nd_ti (i := 961) (by decide +kernel) rfl
theorem wl_X7_kinship : Cond.selects RX7 yX7_kinship yX7_kinship ∈ nd_tbl := nd_ti (i := 962) (by decide +kernel) rfl
theorem cl_X10_260 : nd_cv RX10 260 M_X7_kinship 2 6 := ⟨ok_X7_kinship, wi_X7_kinship, wl_X7_kinship, nd_ti (i := 960) (by decide +kernel) rfl, TX7, 3, rfl⟩
theorem kc_X10_263 : Cond.constant RX10 263 (1048576 : Int32) ∈ nd_tbl := nd_ti (i := 970) (by decide +kernel) rfl
theorem wc_X7_leastWinningDoor : Cond.code yX7_leastWinningDoor cX7_leastWinningDoor 5 (some .int) ∈ nd_tbl := nd_ti (i := 1059) (by decide +kernel) rfl
theorem ok_X7_leastWinningDoor : nd_okN M_X7_leastWinningDoor 2 := ⟨wc_X7_leastWinningDoor, wn_X7, by decide +kernel, by decide +kernel, by decide +kernel⟩
theorem wi_X7_leastWinningDoor : Cond.instanceMethod yX7_leastWinningDoor ∈ nd_tbl := nd_ti (i := 1057) (by decide +kernel) rfl
theorem wl_X7_leastWinningDoor : Cond.selects RX7 yX7_leastWinningDoor yX7_leastWinningDoor ∈ nd_tbl := nd_ti (i := 1058) (by decide +kernel) rfl
theorem cl_X10_304 : nd_cv RX10 304 M_X7_leastWinningDoor 2 6 := ⟨ok_X7_leastWinningDoor, wi_X7_leastWinningDoor, wl_X7_leastWinningDoor, nd_ti (i := 1056) (by decide +kernel) rfl, TX7, 3, rfl⟩
theorem cl_X10_301 : nd_cs RX10 301 M_X7_threeTogether 1 := ⟨ok_X7_threeTogether, ws_X7_threeTogether, Or.inl (nd_ti (i := 1053) (by decide +kernel) rfl)⟩
theorem cl_X10_182 : nd_cs RX10 182 M_J9_floorMod_7cf53 2 := ⟨ok_J9_floorMod_7cf53, ws_J9_floorMod_7cf53, Or.inl (nd_ti (i := 813) (by decide +kernel) rfl)⟩
theorem wc_X0_passesFirst : Cond.code yX0_passesFirst cX0_passesFirst 5 (some .int) ∈ nd_tbl := nd_ti (i := 825) (by decide +kernel) rfl
theorem ok_X0_passesFirst : nd_okN M_X0_passesFirst 3 := ⟨wc_X0_passesFirst, wn_X0, by decide +kernel, by decide +kernel, by decide +kernel⟩
theorem ws_X0_passesFirst : Cond.static yX0_passesFirst ∈ nd_tbl := nd_ti (i := 824) (by decide +kernel) rfl
theorem cl_X10_192 : nd_cs RX10 192 M_X0_passesFirst 3 := ⟨ok_X0_passesFirst, ws_X0_passesFirst, Or.inl (nd_ti (i := 823) (by decide +kernel) rfl)⟩
theorem wc_X0_meetsBehind : Cond.code yX0_meetsBehind cX0_meetsBehind 4 (some .int) ∈ nd_tbl := nd_ti (i := 818) (by decide +kernel) rfl
theorem ok_X0_meetsBehind : nd_okN M_X0_meetsBehind 3 := ⟨wc_X0_meetsBehind, wn_X0, by decide +kernel, by decide +kernel, by decide +kernel⟩
theorem ws_X0_meetsBehind : Cond.static yX0_meetsBehind ∈ nd_tbl := nd_ti (i := 817) (by decide +kernel) rfl
theorem cl_X10_187 : nd_cs RX10 187 M_X0_meetsBehind 3 := ⟨ok_X0_meetsBehind, ws_X0_meetsBehind, Or.inl (nd_ti (i := 816) (by decide +kernel) rfl)⟩
theorem wc_X1_goBack : Cond.code yX1_goBack cX1_goBack 2 (some .boolean) ∈ nd_tbl := nd_ti (i := 1072) (by decide +kernel) rfl
theorem ok_X1_goBack : nd_okN M_X1_goBack 1 := ⟨wc_X1_goBack, wn_X1, by decide +kernel, by decide +kernel, by decide +kernel⟩
theorem wi_X1_goBack : Cond.instanceMethod yX1_goBack ∈ nd_tbl := nd_ti (i := 1070) (by decide +kernel) rfl
theorem wl_X1_goBack : Cond.selects RX1 yX1_goBack yX1_goBack ∈ nd_tbl := nd_ti (i := 1071) (by decide +kernel) rfl
theorem cl_X10_307 : nd_cv RX10 307 M_X1_goBack 1 0 := ⟨ok_X1_goBack, wi_X1_goBack, wl_X1_goBack, nd_ti (i := 1069) (by decide +kernel) rfl, TX1, 3, rfl⟩
theorem wc_X11_canGo : Cond.code yX11_canGo cX11_canGo 3 (some .boolean) ∈ nd_tbl := nd_ti (i := 1531) (by decide +kernel) rfl
theorem ok_X11_canGo : nd_okN M_X11_canGo 1 := ⟨wc_X11_canGo, wn_X11, by decide +kernel, by decide +kernel, by decide +kernel⟩
theorem wi_X11_canGo : Cond.instanceMethod yX11_canGo ∈ nd_tbl := nd_ti (i := 1530) (by decide +kernel) rfl
theorem wl_X11_canGo : Cond.selects RX11 yX11_canGo yX11_canGo ∈ nd_tbl := nd_tp (i := 82) (by decide +kernel) rfl
theorem cl_X11_345 : nd_cv RX11 345 M_X11_canGo 1 10 := ⟨ok_X11_canGo, wi_X11_canGo, wl_X11_canGo, nd_ti (i := 1528) (by decide +kernel) rfl, TX11, 69, rfl⟩
theorem wc_X11_isKing : Cond.code yX11_isKing cX11_isKing 5 (some .boolean) ∈ nd_tbl := nd_ti (i := 1727) (by decide +kernel) rfl
theorem ok_X11_isKing : nd_okN M_X11_isKing 1 := ⟨wc_X11_isKing, wn_X11, by decide +kernel, by decide +kernel, by decide +kernel⟩
theorem wi_X11_isKing : Cond.instanceMethod yX11_isKing ∈ nd_tbl := nd_ti (i := 1726) (by decide +kernel) rfl
theorem wl_X11_isKing : Cond.selects RX11 yX11_isKing yX11_isKing ∈ nd_tbl := nd_tp (i := 116) (by decide +kernel) rfl
theorem cl_X11_426 : nd_cv RX11 426 M_X11_isKing 1 10 := ⟨ok_X11_isKing, wi_X11_isKing, wl_X11_isKing, nd_ti (i := 1724) (by decide +kernel) rfl, TX11, 69, rfl⟩
theorem wc_X11_longest : Cond.code yX11_longest cX11_longest 8 (some .int) ∈ nd_tbl := nd_ti (i := 1719) (by decide +kernel) rfl
theorem ok_X11_longest : nd_okN M_X11_longest 0 := ⟨wc_X11_longest, wn_X11, by decide +kernel, by decide +kernel, by decide +kernel⟩
theorem wi_X11_longest : Cond.instanceMethod yX11_longest ∈ nd_tbl := nd_ti (i := 1718) (by decide +kernel) rfl
theorem wl_X11_longest : Cond.selects RX11 yX11_longest yX11_longest ∈ nd_tbl := nd_tp (i := 114) (by decide +kernel) rfl
theorem cl_X11_423 : nd_cv RX11 423 M_X11_longest 0 10 := ⟨ok_X11_longest, wi_X11_longest, wl_X11_longest, nd_ti (i := 1716) (by decide +kernel) rfl, TX11, 69, rfl⟩
theorem wc_X11_held : Cond.code yX11_held cX11_held 4 (some .int) ∈ nd_tbl := nd_ti (i := 1575) (by decide +kernel) rfl
theorem ok_X11_held : nd_okN M_X11_held 3 := ⟨wc_X11_held, wn_X11, by decide +kernel, by decide +kernel, by decide +kernel⟩
theorem wi_X11_held : Cond.instanceMethod yX11_held ∈ nd_tbl := nd_ti (i := 1574) (by decide +kernel) rfl
theorem wl_X11_held : Cond.selects RX11 yX11_held yX11_held ∈ nd_tbl := nd_tp (i := 93) (by decide +kernel) rfl
theorem cl_X11_316 : nd_cv RX11 316 M_X11_held 3 10 := ⟨ok_X11_held, wi_X11_held, wl_X11_held, nd_ti (i := 1572) (by decide +kernel) rfl, TX11, 69, rfl⟩
theorem wc_X11_lineOf : Cond.code yX11_lineOf cX11_lineOf 3 (some .int) ∈ nd_tbl := nd_ti (i := 1563) (by decide +kernel) rfl
theorem ok_X11_lineOf : nd_okN M_X11_lineOf 1 := ⟨wc_X11_lineOf, wn_X11, by decide +kernel, by decide +kernel, by decide +kernel⟩
theorem wi_X11_lineOf : Cond.instanceMethod yX11_lineOf ∈ nd_tbl := nd_ti (i := 1562) (by decide +kernel) rfl
theorem wl_X11_lineOf : Cond.selects RX11 yX11_lineOf yX11_lineOf ∈ nd_tbl := nd_tp (i := 90) (by decide +kernel) rfl
theorem cl_X11_313 : nd_cv RX11 313 M_X11_lineOf 1 10 := ⟨ok_X11_lineOf, wi_X11_lineOf, wl_X11_lineOf, nd_ti (i := 1560) (by decide +kernel) rfl, TX11, 69, rfl⟩
theorem wc_X11_isSign : Cond.code yX11_isSign cX11_isSign 2 (some .boolean) ∈ nd_tbl := nd_ti (i := 1451) (by decide +kernel) rfl
theorem ok_X11_isSign : nd_okN M_X11_isSign 1 := ⟨wc_X11_isSign, wn_X11, by decide +kernel, by decide +kernel, by decide +kernel⟩
theorem wi_X11_isSign : Cond.instanceMethod yX11_isSign ∈ nd_tbl := nd_ti (i := 1450) (by decide +kernel) rfl
theorem wl_X11_isSign : Cond.selects RX11 yX11_isSign yX11_isSign ∈ nd_tbl := nd_tp (i := 64) (by decide +kernel) rfl
theorem cl_X11_217 : nd_cv RX11 217 M_X11_isSign 1 10 := ⟨ok_X11_isSign, wi_X11_isSign, wl_X11_isSign, nd_ti (i := 1448) (by decide +kernel) rfl, TX11, 69, rfl⟩
theorem wc_X11_reads : Cond.code yX11_reads cX11_reads 2 none ∈ nd_tbl := nd_ti (i := 1395) (by decide +kernel) rfl
theorem ok_X11_reads : nd_okN M_X11_reads 0 := ⟨wc_X11_reads, wn_X11, by decide +kernel, by decide +kernel, by decide +kernel⟩
theorem wi_X11_reads : Cond.instanceMethod yX11_reads ∈ nd_tbl := nd_ti (i := 1394) (by decide +kernel) rfl
theorem wl_X11_reads : Cond.selects RX11 yX11_reads yX11_reads ∈ nd_tbl := nd_tp (i := 50) (by decide +kernel) rfl
theorem cl_X11_210 : nd_cv RX11 210 M_X11_reads 0 10 := ⟨ok_X11_reads, wi_X11_reads, wl_X11_reads, nd_ti (i := 1392) (by decide +kernel) rfl, TX11, 69, rfl⟩
theorem wc_X11_errs : Cond.code yX11_errs cX11_errs 2 (some .int) ∈ nd_tbl := nd_ti (i := 1427) (by decide +kernel) rfl
theorem ok_X11_errs : nd_okN M_X11_errs 1 := ⟨wc_X11_errs, wn_X11, by decide +kernel, by decide +kernel, by decide +kernel⟩
theorem wi_X11_errs : Cond.instanceMethod yX11_errs ∈ nd_tbl := nd_ti (i := 1426) (by decide +kernel) rfl
theorem wl_X11_errs : Cond.selects RX11 yX11_errs yX11_errs ∈ nd_tbl := nd_tp (i := 58) (by decide +kernel) rfl
theorem cl_X11_203 : nd_cv RX11 203 M_X11_errs 1 10 := ⟨ok_X11_errs, wi_X11_errs, wl_X11_errs, nd_ti (i := 1424) (by decide +kernel) rfl, TX11, 69, rfl⟩
theorem wc_X11_canAsk : Cond.code yX11_canAsk cX11_canAsk 2 (some .boolean) ∈ nd_tbl := nd_ti (i := 1475) (by decide +kernel) rfl
theorem ok_X11_canAsk : nd_okN M_X11_canAsk 1 := ⟨wc_X11_canAsk, wn_X11, by decide +kernel, by decide +kernel, by decide +kernel⟩
theorem wi_X11_canAsk : Cond.instanceMethod yX11_canAsk ∈ nd_tbl := nd_ti (i := 1474) (by decide +kernel) rfl
theorem wl_X11_canAsk : Cond.selects RX11 yX11_canAsk yX11_canAsk ∈ nd_tbl := nd_tp (i := 70) (by decide +kernel) rfl
theorem cl_X11_200 : nd_cv RX11 200 M_X11_canAsk 1 10 := ⟨ok_X11_canAsk, wi_X11_canAsk, wl_X11_canAsk, nd_ti (i := 1472) (by decide +kernel) rfl, TX11, 69, rfl⟩
theorem wc_X5_take : Cond.code yX5_take cX5_take 3 none ∈ nd_tbl := nd_ti (i := 771) (by decide +kernel) rfl
theorem ok_X5_take : nd_okN M_X5_take 2 := ⟨wc_X5_take, wn_X5, by decide +kernel, by decide +kernel, by decide +kernel⟩
theorem wi_X5_take : Cond.instanceMethod yX5_take ∈ nd_tbl := nd_ti (i := 769) (by decide +kernel) rfl
theorem wl_X5_take : Cond.selects RX5 yX5_take yX5_take ∈ nd_tbl := nd_ti (i := 770) (by decide +kernel) rfl
theorem cl_X5_60 : nd_cv RX5 60 M_X5_take 2 4 := ⟨ok_X5_take, wi_X5_take, wl_X5_take, nd_ti (i := 1111) (by decide +kernel) rfl, TX5, 7, rfl⟩
theorem wc_X7_seenFrom : Cond.code yX7_seenFrom cX7_seenFrom 4 (some .int) ∈ nd_tbl := nd_ti (i := 1036) (by decide +kernel) rfl
theorem ok_X7_seenFrom : nd_okN M_X7_seenFrom 1 := ⟨wc_X7_seenFrom, wn_X7, by decide +kernel, by decide +kernel, by decide +kernel⟩
theorem wi_X7_seenFrom : Cond.instanceMethod yX7_seenFrom ∈ nd_tbl := nd_ti (i := 1035) (by decide +kernel) rfl
theorem wl_X7_seenFrom : Cond.selects RX7 yX7_seenFrom yX7_seenFrom ∈ nd_tbl := nd_tp (i := 43) (by decide +kernel) rfl
theorem cl_X7_101 : nd_cv RX7 101 M_X7_seenFrom 1 6 := ⟨ok_X7_seenFrom, wi_X7_seenFrom, wl_X7_seenFrom, nd_ti (i := 1033) (by decide +kernel) rfl, TX7, 3, rfl⟩
theorem gf_X9_135 : nd_gf RX9 135 4 0 := ⟨RX5, TX5, 7, rfl, by decide, Or.inr ⟨"NextDoorBrides", nd_tn (i := 108) (by decide +kernel) rfl⟩⟩
theorem gf_X9_94 : nd_gf RX9 94 3 1 := ⟨RX4, TX4, 2, rfl, by decide, Or.inr ⟨"NextDoorBrides", nd_tn (i := 99) (by decide +kernel) rfl⟩⟩
theorem wc_X9_mostFor : Cond.code yX9_mostFor cX9_mostFor 3 (some .int) ∈ nd_tbl := nd_ti (i := 460) (by decide +kernel) rfl
theorem ok_X9_mostFor : nd_okN M_X9_mostFor 2 := ⟨wc_X9_mostFor, wn_X9, by decide +kernel, by decide +kernel, by decide +kernel⟩
theorem wi_X9_mostFor : Cond.instanceMethod yX9_mostFor ∈ nd_tbl := nd_ti (i := 459) (by decide +kernel) rfl
theorem wl_X9_mostFor : Cond.selects RX9 yX9_mostFor yX9_mostFor ∈ nd_tbl := nd_tp (i := 7) (by decide +kernel) rfl
theorem cl_X9_142 : nd_cv RX9 142 M_X9_mostFor 2 8 := ⟨ok_X9_mostFor, wi_X9_mostFor, wl_X9_mostFor, nd_ti (i := 457) (by decide +kernel) rfl, TX9, 6, rfl⟩
theorem lk_X9_145 : Cond.methodLink RX9 145 Lib.Math.min.name ∈ nd_tbl := nd_ti (i := 461) (by decide +kernel) rfl
theorem lk_X9_150 : Cond.methodLink RX9 150 Lib.Math.max.name ∈ nd_tbl := nd_ti (i := 462) (by decide +kernel) rfl
theorem wc_X9_reckon : Cond.code yX9_reckon cX9_reckon 8 (some .int) ∈ nd_tbl := nd_ti (i := 449) (by decide +kernel) rfl
theorem ok_X9_reckon : nd_okN M_X9_reckon 3 := ⟨wc_X9_reckon, wn_X9, by decide +kernel, by decide +kernel, by decide +kernel⟩
theorem wi_X9_reckon : Cond.instanceMethod yX9_reckon ∈ nd_tbl := nd_ti (i := 448) (by decide +kernel) rfl
theorem wl_X9_reckon : Cond.selects RX9 yX9_reckon yX9_reckon ∈ nd_tbl := nd_tp (i := 5) (by decide +kernel) rfl
theorem cl_X9_138 : nd_cv RX9 138 M_X9_reckon 3 8 := ⟨ok_X9_reckon, wi_X9_reckon, wl_X9_reckon, nd_ti (i := 446) (by decide +kernel) rfl, TX9, 6, rfl⟩
theorem wc_X9_usual : Cond.code yX9_usual cX9_usual 3 (some .int) ∈ nd_tbl := nd_ti (i := 441) (by decide +kernel) rfl
theorem ok_X9_usual : nd_okN M_X9_usual 2 := ⟨wc_X9_usual, wn_X9, by decide +kernel, by decide +kernel, by decide +kernel⟩
theorem wi_X9_usual : Cond.instanceMethod yX9_usual ∈ nd_tbl := nd_ti (i := 440) (by decide +kernel) rfl
theorem wl_X9_usual : Cond.selects RX9 yX9_usual yX9_usual ∈ nd_tbl := nd_tp (i := 4) (by decide +kernel) rfl
theorem cl_X9_132 : nd_cv RX9 132 M_X9_usual 2 8 := ⟨ok_X9_usual, wi_X9_usual, wl_X9_usual, nd_ti (i := 438) (by decide +kernel) rfl, TX9, 6, rfl⟩
theorem cl_X9_59 : nd_cv RX9 59 M_X6_has 1 5 := ⟨ok_X6_has, wi_X6_has, wl_X6_has, nd_ti (i := 380) (by decide +kernel) rfl, TX6, 9, rfl⟩
theorem wc_X9_nextOf : Cond.code yX9_nextOf cX9_nextOf 5 (some .int) ∈ nd_tbl := nd_ti (i := 388) (by decide +kernel) rfl
theorem ok_X9_nextOf : nd_okN M_X9_nextOf 1 := ⟨wc_X9_nextOf, wn_X9, by decide +kernel, by decide +kernel, by decide +kernel⟩
theorem wi_X9_nextOf : Cond.instanceMethod yX9_nextOf ∈ nd_tbl := nd_ti (i := 386) (by decide +kernel) rfl
theorem wl_X9_nextOf : Cond.selects RX9 yX9_nextOf yX9_nextOf ∈ nd_tbl := nd_ti (i := 387) (by decide +kernel) rfl
theorem cl_X9_63 : nd_cv RX9 63 M_X9_nextOf 1 8 := ⟨ok_X9_nextOf, wi_X9_nextOf, wl_X9_nextOf, nd_ti (i := 385) (by decide +kernel) rfl, TX9, 6, rfl⟩
theorem wc_X9_canGo : Cond.code yX9_canGo cX9_canGo 3 (some .boolean) ∈ nd_tbl := nd_ti (i := 396) (by decide +kernel) rfl
theorem ok_X9_canGo : nd_okN M_X9_canGo 2 := ⟨wc_X9_canGo, wn_X9, by decide +kernel, by decide +kernel, by decide +kernel⟩
theorem wi_X9_canGo : Cond.instanceMethod yX9_canGo ∈ nd_tbl := nd_ti (i := 395) (by decide +kernel) rfl
theorem wl_X9_canGo : Cond.selects RX9 yX9_canGo yX9_canGo ∈ nd_tbl := nd_tp (i := 2) (by decide +kernel) rfl
theorem cl_X9_67 : nd_cv RX9 67 M_X9_canGo 2 8 := ⟨ok_X9_canGo, wi_X9_canGo, wl_X9_canGo, nd_ti (i := 393) (by decide +kernel) rfl, TX9, 6, rfl⟩
theorem gf_X9_90 : nd_gf RX9 90 4 2 := ⟨RX5, TX5, 7, rfl, by decide, Or.inr ⟨"NextDoorBrides", nd_tn (i := 113) (by decide +kernel) rfl⟩⟩
theorem wc_X9_carryOut : Cond.code yX9_carryOut cX9_carryOut 4 none ∈ nd_tbl := nd_ti (i := 483) (by decide +kernel) rfl
theorem ok_X9_carryOut : nd_okN M_X9_carryOut 3 := ⟨wc_X9_carryOut, wn_X9, by decide +kernel, by decide +kernel, by decide +kernel⟩
theorem wi_X9_carryOut : Cond.instanceMethod yX9_carryOut ∈ nd_tbl := nd_ti (i := 482) (by decide +kernel) rfl
theorem wl_X9_carryOut : Cond.selects RX9 yX9_carryOut yX9_carryOut ∈ nd_tbl := nd_tp (i := 10) (by decide +kernel) rfl
theorem cl_X9_102 : nd_cv RX9 102 M_X9_carryOut 3 8 := ⟨ok_X9_carryOut, wi_X9_carryOut, wl_X9_carryOut, nd_ti (i := 480) (by decide +kernel) rfl, TX9, 6, rfl⟩
theorem gf_X10_53 : nd_gf RX10 53 9 6 := ⟨RX10, TX10, 11, rfl, by decide, Or.inl (nd_ti (i := 309) (by decide +kernel) rfl)⟩
theorem cl_X10_148 : nd_cv RX10 148 M_X6_get 2 5 := ⟨ok_X6_get, wi_X6_get, wl_X6_get, nd_ti (i := 787) (by decide +kernel) rfl, TX6, 9, rfl⟩
theorem cl_X10_151 : nd_cv RX10 151 M_X5_sideOf 1 4 := ⟨ok_X5_sideOf, wi_X5_sideOf, wl_X5_sideOf, nd_ti (i := 788) (by decide +kernel) rfl, TX5, 7, rfl⟩
theorem cl_X10_154 : nd_cv RX10 154 M_X9_nextOf 1 8 := ⟨ok_X9_nextOf, wi_X9_nextOf, wl_X9_nextOf, nd_ti (i := 789) (by decide +kernel) rfl, TX9, 6, rfl⟩
theorem wc_X9_ask : Cond.code yX9_ask cX9_ask 8 (some .int) ∈ nd_tbl := nd_ti (i := 437) (by decide +kernel) rfl
theorem ok_X9_ask : nd_okN M_X9_ask 2 := ⟨wc_X9_ask, wn_X9, by decide +kernel, by decide +kernel, by decide +kernel⟩
theorem wi_X9_ask : Cond.instanceMethod yX9_ask ∈ nd_tbl := nd_ti (i := 435) (by decide +kernel) rfl
theorem wl_X9_ask : Cond.selects RX9 yX9_ask yX9_ask ∈ nd_tbl := nd_ti (i := 436) (by decide +kernel) rfl
theorem cl_X10_157 : nd_cv RX10 157 M_X9_ask 2 8 := ⟨ok_X9_ask, wi_X9_ask, wl_X9_ask, nd_ti (i := 790) (by decide +kernel) rfl, TX9, 6, rfl⟩
theorem cl_X10_160 : nd_cv RX10 160 M_X5_feudsOf 1 4 := ⟨ok_X5_feudsOf, wi_X5_feudsOf, wl_X5_feudsOf, nd_ti (i := 791) (by decide +kernel) rfl, TX5, 7, rfl⟩
theorem wc_X7_couplesThatSee : Cond.code yX7_couplesThatSee cX7_couplesThatSee 3 (some .int) ∈ nd_tbl := nd_ti (i := 1032) (by decide +kernel) rfl
theorem ok_X7_couplesThatSee : nd_okN M_X7_couplesThatSee 0 := ⟨wc_X7_couplesThatSee, wn_X7, by decide +kernel, by decide +kernel, by decide +kernel⟩
theorem wi_X7_couplesThatSee : Cond.instanceMethod yX7_couplesThatSee ∈ nd_tbl := nd_ti (i := 1030) (by decide +kernel) rfl
theorem wl_X7_couplesThatSee : Cond.selects RX7 yX7_couplesThatSee yX7_couplesThatSee ∈ nd_tbl := nd_ti (i := 1031) (by decide +kernel) rfl
theorem cl_X10_292 : nd_cv RX10 292 M_X7_couplesThatSee 0 6 := ⟨ok_X7_couplesThatSee, wi_X7_couplesThatSee, wl_X7_couplesThatSee, nd_ti (i := 1029) (by decide +kernel) rfl, TX7, 3, rfl⟩
theorem wc_X7_mostSeen : Cond.code yX7_mostSeen cX7_mostSeen 3 (some .int) ∈ nd_tbl := nd_ti (i := 1044) (by decide +kernel) rfl
theorem ok_X7_mostSeen : nd_okN M_X7_mostSeen 0 := ⟨wc_X7_mostSeen, wn_X7, by decide +kernel, by decide +kernel, by decide +kernel⟩
theorem wi_X7_mostSeen : Cond.instanceMethod yX7_mostSeen ∈ nd_tbl := nd_ti (i := 1042) (by decide +kernel) rfl
theorem wl_X7_mostSeen : Cond.selects RX7 yX7_mostSeen yX7_mostSeen ∈ nd_tbl := nd_ti (i := 1043) (by decide +kernel) rfl
theorem cl_X10_295 : nd_cv RX10 295 M_X7_mostSeen 0 6 := ⟨ok_X7_mostSeen, wi_X7_mostSeen, wl_X7_mostSeen, nd_ti (i := 1041) (by decide +kernel) rfl, TX7, 3, rfl⟩
theorem wc_X7_rising : Cond.code yX7_rising cX7_rising 4 (some .int) ∈ nd_tbl := nd_ti (i := 1048) (by decide +kernel) rfl
theorem ok_X7_rising : nd_okN M_X7_rising 0 := ⟨wc_X7_rising, wn_X7, by decide +kernel, by decide +kernel, by decide +kernel⟩
theorem wi_X7_rising : Cond.instanceMethod yX7_rising ∈ nd_tbl := nd_ti (i := 1046) (by decide +kernel) rfl
theorem wl_X7_rising : Cond.selects RX7 yX7_rising yX7_rising ∈ nd_tbl := nd_ti (i := 1047) (by decide +kernel) rfl
theorem cl_X10_298 : nd_cv RX10 298 M_X7_rising 0 6 := ⟨ok_X7_rising, wi_X7_rising, wl_X7_rising, nd_ti (i := 1045) (by decide +kernel) rfl, TX7, 3, rfl⟩
theorem wc_X11_asks : Cond.code yX11_asks cX11_asks 2 none ∈ nd_tbl := nd_ti (i := 1555) (by decide +kernel) rfl
theorem ok_X11_asks : nd_okN M_X11_asks 1 := ⟨wc_X11_asks, wn_X11, by decide +kernel, by decide +kernel, by decide +kernel⟩
theorem wi_X11_asks : Cond.instanceMethod yX11_asks ∈ nd_tbl := nd_ti (i := 1554) (by decide +kernel) rfl
theorem wl_X11_asks : Cond.selects RX11 yX11_asks yX11_asks ∈ nd_tbl := nd_tp (i := 88) (by decide +kernel) rfl
theorem cl_X11_319 : nd_cv RX11 319 M_X11_asks 1 10 := ⟨ok_X11_asks, wi_X11_asks, wl_X11_asks, nd_ti (i := 1552) (by decide +kernel) rfl, TX11, 69, rfl⟩
theorem wc_X11_lawTells : Cond.code yX11_lawTells cX11_lawTells 5 (some .int) ∈ nd_tbl := nd_ti (i := 1559) (by decide +kernel) rfl
theorem ok_X11_lawTells : nd_okN M_X11_lawTells 3 := ⟨wc_X11_lawTells, wn_X11, by decide +kernel, by decide +kernel, by decide +kernel⟩
theorem wi_X11_lawTells : Cond.instanceMethod yX11_lawTells ∈ nd_tbl := nd_ti (i := 1558) (by decide +kernel) rfl
theorem wl_X11_lawTells : Cond.selects RX11 yX11_lawTells yX11_lawTells ∈ nd_tbl := nd_tp (i := 89) (by decide +kernel) rfl
theorem cl_X11_322 : nd_cv RX11 322 M_X11_lawTells 3 10 := ⟨ok_X11_lawTells, wi_X11_lawTells, wl_X11_lawTells, nd_ti (i := 1556) (by decide +kernel) rfl, TX11, 69, rfl⟩
theorem wc_X11_readUnit : Cond.code yX11_readUnit cX11_readUnit 2 (some .int) ∈ nd_tbl := nd_ti (i := 1471) (by decide +kernel) rfl
theorem ok_X11_readUnit : nd_okN M_X11_readUnit 0 := ⟨wc_X11_readUnit, wn_X11, by decide +kernel, by decide +kernel, by decide +kernel⟩
theorem wi_X11_readUnit : Cond.instanceMethod yX11_readUnit ∈ nd_tbl := nd_ti (i := 1470) (by decide +kernel) rfl
theorem wl_X11_readUnit : Cond.selects RX11 yX11_readUnit yX11_readUnit ∈ nd_tbl := nd_tp (i := 69) (by decide +kernel) rfl
theorem cl_X11_213 : nd_cv RX11 213 M_X11_readUnit 0 10 := ⟨ok_X11_readUnit, wi_X11_readUnit, wl_X11_readUnit, nd_ti (i := 1468) (by decide +kernel) rfl, TX11, 69, rfl⟩
theorem wc_X11_readNumber : Cond.code yX11_readNumber cX11_readNumber 4 (some .int) ∈ nd_tbl := nd_ti (i := 1439) (by decide +kernel) rfl
theorem ok_X11_readNumber : nd_okN M_X11_readNumber 2 := ⟨wc_X11_readNumber, wn_X11, by decide +kernel, by decide +kernel, by decide +kernel⟩
theorem wi_X11_readNumber : Cond.instanceMethod yX11_readNumber ∈ nd_tbl := nd_ti (i := 1438) (by decide +kernel) rfl
theorem wl_X11_readNumber : Cond.selects RX11 yX11_readNumber yX11_readNumber ∈ nd_tbl := nd_tp (i := 61) (by decide +kernel) rfl
theorem cl_X11_254 : nd_cv RX11 254 M_X11_readNumber 2 10 := ⟨ok_X11_readNumber, wi_X11_readNumber, wl_X11_readNumber, nd_ti (i := 1436) (by decide +kernel) rfl, TX11, 69, rfl⟩
theorem wc_J0_indexOf_0f7a4 : Cond.code yJ0_indexOf_0f7a4 cJ0_indexOf_0f7a4 2 (some .int) ∈ nd_tbl := nd_ti (i := 560) (by decide +kernel) rfl
theorem ok_J0_indexOf_0f7a4 : nd_okN M_J0_indexOf_0f7a4 1 := ⟨wc_J0_indexOf_0f7a4, wn_J0, by decide +kernel, by decide +kernel, by decide +kernel⟩
theorem wi_J0_indexOf_0f7a4 : Cond.instanceMethod yJ0_indexOf_0f7a4 ∈ nd_tbl := nd_ti (i := 558) (by decide +kernel) rfl
theorem wl_J0_indexOf_0f7a4 : Cond.selects RJ0 yJ0_indexOf_0f7a4 yJ0_indexOf_0f7a4 ∈ nd_tbl := nd_ti (i := 559) (by decide +kernel) rfl
theorem cl_X3_194 : nd_ct RX3 194 M_J0_indexOf_0f7a4 1 := ⟨ok_J0_indexOf_0f7a4, rfl, wi_J0_indexOf_0f7a4, wl_J0_indexOf_0f7a4, nd_ti (i := 557) (by decide +kernel) rfl⟩
theorem gf_X3_37 : nd_gf RX3 37 2 5 := ⟨RX3, TX3, 15, rfl, by decide, Or.inl (nd_ti (i := 212) (by decide +kernel) rfl)⟩
theorem cl_X3_182 : nd_ct RX3 182 M_J0_length_8abf5 0 := ⟨ok_J0_length_8abf5, rfl, wi_J0_length_8abf5, wl_J0_length_8abf5, nd_ti (i := 650) (by decide +kernel) rfl⟩
theorem wc_J0_charAt_5068e : Cond.code yJ0_charAt_5068e cJ0_charAt_5068e 2 (some .char) ∈ nd_tbl := nd_ti (i := 654) (by decide +kernel) rfl
theorem ok_J0_charAt_5068e : nd_okN M_J0_charAt_5068e 1 := ⟨wc_J0_charAt_5068e, wn_J0, by decide +kernel, by decide +kernel, by decide +kernel⟩
theorem wi_J0_charAt_5068e : Cond.instanceMethod yJ0_charAt_5068e ∈ nd_tbl := nd_ti (i := 652) (by decide +kernel) rfl
theorem wl_J0_charAt_5068e : Cond.selects RJ0 yJ0_charAt_5068e yJ0_charAt_5068e ∈ nd_tbl := nd_ti (i := 653) (by decide +kernel) rfl
theorem cl_X3_188 : nd_ct RX3 188 M_J0_charAt_5068e 1 := ⟨ok_J0_charAt_5068e, rfl, wi_J0_charAt_5068e, wl_J0_charAt_5068e, nd_ti (i := 651) (by decide +kernel) rfl⟩
theorem cl_X9_111 : nd_cv RX9 111 M_X9_ask 2 8 := ⟨ok_X9_ask, wi_X9_ask, wl_X9_ask, nd_ti (i := 434) (by decide +kernel) rfl, TX9, 6, rfl⟩
theorem gf_X9_126 : nd_gf RX9 126 5 5 := ⟨RX6, TX6, 9, rfl, by decide, Or.inr ⟨"NextDoorBrides", nd_tn (i := 51) (by decide +kernel) rfl⟩⟩
theorem gf_X9_123 : nd_gf RX9 123 5 3 := ⟨RX6, TX6, 9, rfl, by decide, Or.inr ⟨"NextDoorBrides", nd_tn (i := 44) (by decide +kernel) rfl⟩⟩
theorem pf_X9_126 : nd_pf RX9 126 5 5 .int false := ⟨RX6, TX6, 9, rfl, by decide, Or.inr ⟨rfl, "NextDoorBrides", nd_tn (i := 51) (by decide +kernel) rfl⟩, rfl, by decide +kernel, fun h => absurd h (by decide)⟩
theorem pf_X9_123 : nd_pf RX9 123 5 3 .int false := ⟨RX6, TX6, 9, rfl, by decide, Or.inr ⟨rfl, "NextDoorBrides", nd_tn (i := 44) (by decide +kernel) rfl⟩, rfl, by decide +kernel, fun h => absurd h (by decide)⟩
theorem wc_X11_notes : Cond.code yX11_notes cX11_notes 5 none ∈ nd_tbl := nd_ti (i := 1579) (by decide +kernel) rfl
theorem ok_X11_notes : nd_okN M_X11_notes 3 := ⟨wc_X11_notes, wn_X11, by decide +kernel, by decide +kernel, by decide +kernel⟩
theorem wi_X11_notes : Cond.instanceMethod yX11_notes ∈ nd_tbl := nd_ti (i := 1578) (by decide +kernel) rfl
theorem wl_X11_notes : Cond.selects RX11 yX11_notes yX11_notes ∈ nd_tbl := nd_tp (i := 94) (by decide +kernel) rfl
theorem cl_X11_338 : nd_cv RX11 338 M_X11_notes 3 10 := ⟨ok_X11_notes, wi_X11_notes, wl_X11_notes, nd_ti (i := 1576) (by decide +kernel) rfl, TX11, 69, rfl⟩
theorem wc_X11_bearsOf : Cond.code yX11_bearsOf cX11_bearsOf 2 (some .int) ∈ nd_tbl := nd_ti (i := 1625) (by decide +kernel) rfl
theorem ok_X11_bearsOf : nd_okN M_X11_bearsOf 1 := ⟨wc_X11_bearsOf, wn_X11, by decide +kernel, by decide +kernel, by decide +kernel⟩
theorem wi_X11_bearsOf : Cond.instanceMethod yX11_bearsOf ∈ nd_tbl := nd_ti (i := 1624) (by decide +kernel) rfl
theorem wl_X11_bearsOf : Cond.selects RX11 yX11_bearsOf yX11_bearsOf ∈ nd_tbl := nd_tp (i := 104) (by decide +kernel) rfl
theorem cl_X11_366 : nd_cv RX11 366 M_X11_bearsOf 1 10 := ⟨ok_X11_bearsOf, wi_X11_bearsOf, wl_X11_bearsOf, nd_ti (i := 1622) (by decide +kernel) rfl, TX11, 69, rfl⟩
theorem wc_X11_bringsOf : Cond.code yX11_bringsOf cX11_bringsOf 2 (some .int) ∈ nd_tbl := nd_ti (i := 1551) (by decide +kernel) rfl
theorem ok_X11_bringsOf : nd_okN M_X11_bringsOf 1 := ⟨wc_X11_bringsOf, wn_X11, by decide +kernel, by decide +kernel, by decide +kernel⟩
theorem wi_X11_bringsOf : Cond.instanceMethod yX11_bringsOf ∈ nd_tbl := nd_ti (i := 1550) (by decide +kernel) rfl
theorem wl_X11_bringsOf : Cond.selects RX11 yX11_bringsOf yX11_bringsOf ∈ nd_tbl := nd_tp (i := 87) (by decide +kernel) rfl
theorem cl_X11_335 : nd_cv RX11 335 M_X11_bringsOf 1 10 := ⟨ok_X11_bringsOf, wi_X11_bringsOf, wl_X11_bringsOf, nd_ti (i := 1548) (by decide +kernel) rfl, TX11, 69, rfl⟩
theorem wc_X11_goesOf : Cond.code yX11_goesOf cX11_goesOf 2 (some .int) ∈ nd_tbl := nd_ti (i := 1607) (by decide +kernel) rfl
theorem ok_X11_goesOf : nd_okN M_X11_goesOf 1 := ⟨wc_X11_goesOf, wn_X11, by decide +kernel, by decide +kernel, by decide +kernel⟩
theorem wi_X11_goesOf : Cond.instanceMethod yX11_goesOf ∈ nd_tbl := nd_ti (i := 1606) (by decide +kernel) rfl
theorem wl_X11_goesOf : Cond.selects RX11 yX11_goesOf yX11_goesOf ∈ nd_tbl := nd_tp (i := 100) (by decide +kernel) rfl
theorem cl_X11_360 : nd_cv RX11 360 M_X11_goesOf 1 10 := ⟨ok_X11_goesOf, wi_X11_goesOf, wl_X11_goesOf, nd_ti (i := 1604) (by decide +kernel) rfl, TX11, 69, rfl⟩
theorem wc_X11_readMark : Cond.code yX11_readMark cX11_readMark 2 (some .int) ∈ nd_tbl := nd_ti (i := 1447) (by decide +kernel) rfl
theorem ok_X11_readMark : nd_okN M_X11_readMark 1 := ⟨wc_X11_readMark, wn_X11, by decide +kernel, by decide +kernel, by decide +kernel⟩
theorem wi_X11_readMark : Cond.instanceMethod yX11_readMark ∈ nd_tbl := nd_ti (i := 1446) (by decide +kernel) rfl
theorem wl_X11_readMark : Cond.selects RX11 yX11_readMark yX11_readMark ∈ nd_tbl := nd_tp (i := 63) (by decide +kernel) rfl
theorem cl_X11_264 : nd_cv RX11 264 M_X11_readMark 1 10 := ⟨ok_X11_readMark, wi_X11_readMark, wl_X11_readMark, nd_ti (i := 1444) (by decide +kernel) rfl, TX11, 69, rfl⟩
theorem wc_X11_readTold : Cond.code yX11_readTold cX11_readTold 4 (some .int) ∈ nd_tbl := nd_ti (i := 1435) (by decide +kernel) rfl
theorem ok_X11_readTold : nd_okN M_X11_readTold 3 := ⟨wc_X11_readTold, wn_X11, by decide +kernel, by decide +kernel, by decide +kernel⟩
theorem wi_X11_readTold : Cond.instanceMethod yX11_readTold ∈ nd_tbl := nd_ti (i := 1434) (by decide +kernel) rfl
theorem wl_X11_readTold : Cond.selects RX11 yX11_readTold yX11_readTold ∈ nd_tbl := nd_tp (i := 60) (by decide +kernel) rfl
theorem cl_X11_257 : nd_cv RX11 257 M_X11_readTold 3 10 := ⟨ok_X11_readTold, wi_X11_readTold, wl_X11_readTold, nd_ti (i := 1432) (by decide +kernel) rfl, TX11, 69, rfl⟩
theorem wc_X11_kindOfDeed : Cond.code yX11_kindOfDeed cX11_kindOfDeed 1 (some .int) ∈ nd_tbl := nd_ti (i := 1443) (by decide +kernel) rfl
theorem ok_X11_kindOfDeed : nd_okN M_X11_kindOfDeed 0 := ⟨wc_X11_kindOfDeed, wn_X11, by decide +kernel, by decide +kernel, by decide +kernel⟩
theorem wi_X11_kindOfDeed : Cond.instanceMethod yX11_kindOfDeed ∈ nd_tbl := nd_ti (i := 1442) (by decide +kernel) rfl
theorem wl_X11_kindOfDeed : Cond.selects RX11 yX11_kindOfDeed yX11_kindOfDeed ∈ nd_tbl := nd_tp (i := 62) (by decide +kernel) rfl
theorem cl_X11_261 : nd_cv RX11 261 M_X11_kindOfDeed 0 10 := ⟨ok_X11_kindOfDeed, wi_X11_kindOfDeed, wl_X11_kindOfDeed, nd_ti (i := 1440) (by decide +kernel) rfl, TX11, 69, rfl⟩
theorem wc_X11_readProduct : Cond.code yX11_readProduct cX11_readProduct 2 (some .int) ∈ nd_tbl := nd_ti (i := 1467) (by decide +kernel) rfl
theorem ok_X11_readProduct : nd_okN M_X11_readProduct 0 := ⟨wc_X11_readProduct, wn_X11, by decide +kernel, by decide +kernel, by decide +kernel⟩
theorem wi_X11_readProduct : Cond.instanceMethod yX11_readProduct ∈ nd_tbl := nd_ti (i := 1466) (by decide +kernel) rfl
theorem wl_X11_readProduct : Cond.selects RX11 yX11_readProduct yX11_readProduct ∈ nd_tbl := nd_tp (i := 68) (by decide +kernel) rfl
theorem cl_X11_220 : nd_cv RX11 220 M_X11_readProduct 0 10 := ⟨ok_X11_readProduct, wi_X11_readProduct, wl_X11_readProduct, nd_ti (i := 1464) (by decide +kernel) rfl, TX11, 69, rfl⟩
theorem wc_X3_addToken : Cond.code yX3_addToken cX3_addToken 4 none ∈ nd_tbl := nd_ti (i := 678) (by decide +kernel) rfl
theorem ok_X3_addToken : nd_okN M_X3_addToken 3 := ⟨wc_X3_addToken, wn_X3, by decide +kernel, by decide +kernel, by decide +kernel⟩
