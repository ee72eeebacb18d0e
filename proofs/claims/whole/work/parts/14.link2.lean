theorem wl_X3_advance : Cond.selects RX3 yX3_advance yX3_advance ∈ nd_tbl := nd_tp (i := 20) (by decide +kernel) rfl
theorem cl_X3_61 : nd_cv RX3 61 M_X3_advance 0 2 := ⟨ok_X3_advance, wi_X3_advance, wl_X3_advance, nd_ti (i := 679) (by decide +kernel) rfl, TX3, 15, rfl⟩
theorem wc_X3_refuse : Cond.code yX3_refuse cX3_refuse 2 (some .boolean) ∈ nd_tbl := nd_ti (i := 690) (by decide +kernel) rfl
theorem ok_X3_refuse : nd_okN M_X3_refuse 1 := ⟨wc_X3_refuse, wn_X3, by decide +kernel, by decide +kernel, by decide +kernel⟩
theorem wi_X3_refuse : Cond.instanceMethod yX3_refuse ∈ nd_tbl := nd_ti (i := 689) (by decide +kernel) rfl
theorem wl_X3_refuse : Cond.selects RX3 yX3_refuse yX3_refuse ∈ nd_tbl := nd_tp (i := 22) (by decide +kernel) rfl
theorem cl_X3_84 : nd_cv RX3 84 M_X3_refuse 1 2 := ⟨ok_X3_refuse, wi_X3_refuse, wl_X3_refuse, nd_ti (i := 687) (by decide +kernel) rfl, TX3, 15, rfl⟩
theorem wc_X3_isWord : Cond.code yX3_isWord cX3_isWord 2 (some .boolean) ∈ nd_tbl := nd_ti (i := 710) (by decide +kernel) rfl
theorem ok_X3_isWord : nd_okN M_X3_isWord 1 := ⟨wc_X3_isWord, wn_X3, by decide +kernel, by decide +kernel, by decide +kernel⟩
theorem wi_X3_isWord : Cond.instanceMethod yX3_isWord ∈ nd_tbl := nd_ti (i := 709) (by decide +kernel) rfl
theorem wl_X3_isWord : Cond.selects RX3 yX3_isWord yX3_isWord ∈ nd_tbl := nd_tp (i := 26) (by decide +kernel) rfl
theorem cl_X3_114 : nd_cv RX3 114 M_X3_isWord 1 2 := ⟨ok_X3_isWord, wi_X3_isWord, wl_X3_isWord, nd_ti (i := 707) (by decide +kernel) rfl, TX3, 15, rfl⟩
theorem wc_X3_isSign : Cond.code yX3_isSign cX3_isSign 2 (some .boolean) ∈ nd_tbl := nd_ti (i := 706) (by decide +kernel) rfl
theorem ok_X3_isSign : nd_okN M_X3_isSign 1 := ⟨wc_X3_isSign, wn_X3, by decide +kernel, by decide +kernel, by decide +kernel⟩
theorem wi_X3_isSign : Cond.instanceMethod yX3_isSign ∈ nd_tbl := nd_ti (i := 705) (by decide +kernel) rfl
theorem wl_X3_isSign : Cond.selects RX3 yX3_isSign yX3_isSign ∈ nd_tbl := nd_tp (i := 25) (by decide +kernel) rfl
theorem cl_X3_141 : nd_cv RX3 141 M_X3_isSign 1 2 := ⟨ok_X3_isSign, wi_X3_isSign, wl_X3_isSign, nd_ti (i := 703) (by decide +kernel) rfl, TX3, 15, rfl⟩
theorem gf_X3_12 : nd_gf RX3 12 2 0 := ⟨RX3, TX3, 15, rfl, by decide, Or.inl (nd_ti (i := 204) (by decide +kernel) rfl)⟩
theorem gf_X3_104 : nd_gf RX3 104 4 1 := ⟨RX5, TX5, 7, rfl, by decide, Or.inr ⟨"NextDoorBrides", nd_tn (i := 110) (by decide +kernel) rfl⟩⟩
theorem cl_X3_147 : nd_cv RX3 147 M_X4_add 1 3 := ⟨ok_X4_add, wi_X4_add, wl_X4_add, nd_ti (i := 699) (by decide +kernel) rfl, TX4, 2, rfl⟩
theorem lk_X4_33 : Cond.methodLink RX4 33 Lib.Math.min.name ∈ nd_tbl := nd_ti (i := 776) (by decide +kernel) rfl
theorem lk_X4_36 : Cond.methodLink RX4 36 arraycopyName ∈ nd_tbl := nd_ti (i := 777) (by decide +kernel) rfl
theorem cl_X4_29 : nd_cv RX4 29 M_X4_add 1 3 := ⟨ok_X4_add, wi_X4_add, wl_X4_add, nd_ti (i := 835) (by decide +kernel) rfl, TX4, 2, rfl⟩
theorem cl_X4_25 : nd_cv RX4 25 M_X4_clear 0 3 := ⟨ok_X4_clear, wi_X4_clear, wl_X4_clear, nd_ti (i := 834) (by decide +kernel) rfl, TX4, 2, rfl⟩
theorem cl_X5_67 : nd_cv RX5 67 M_X4_add 1 3 := ⟨ok_X4_add, wi_X4_add, wl_X4_add, nd_ti (i := 731) (by decide +kernel) rfl, TX4, 2, rfl⟩
theorem wc_X5_feudsOf : Cond.code yX5_feudsOf cX5_feudsOf 2 (some .int) ∈ nd_tbl := nd_ti (i := 404) (by decide +kernel) rfl
theorem wn_X5 : Cond.initialized RX5 ∈ nd_tbl := nd_ti (i := 3) (by decide +kernel) rfl
theorem ok_X5_feudsOf : nd_okN M_X5_feudsOf 1 := ⟨wc_X5_feudsOf, wn_X5, by decide +kernel, by decide +kernel, by decide +kernel⟩
theorem wi_X5_feudsOf : Cond.instanceMethod yX5_feudsOf ∈ nd_tbl := nd_ti (i := 402) (by decide +kernel) rfl
theorem wl_X5_feudsOf : Cond.selects RX5 yX5_feudsOf yX5_feudsOf ∈ nd_tbl := nd_ti (i := 403) (by decide +kernel) rfl
theorem cl_X5_71 : nd_cv RX5 71 M_X5_feudsOf 1 4 := ⟨ok_X5_feudsOf, wi_X5_feudsOf, wl_X5_feudsOf, nd_ti (i := 401) (by decide +kernel) rfl, TX5, 7, rfl⟩
theorem gf_X5_20 : nd_gf RX5 20 4 1 := ⟨RX5, TX5, 7, rfl, by decide, Or.inl (nd_ti (i := 109) (by decide +kernel) rfl)⟩
theorem cl_X5_30 : nd_cv RX5 30 M_X4_clear 0 3 := ⟨ok_X4_clear, wi_X4_clear, wl_X4_clear, nd_ti (i := 544) (by decide +kernel) rfl, TX4, 2, rfl⟩
theorem wc_J7_fill_53178 : Cond.code yJ7_fill_53178 cJ7_fill_53178 4 none ∈ nd_tbl := nd_ti (i := 143) (by decide +kernel) rfl
theorem wn_J7 : Cond.initialized RJ7 ∈ nd_tbl := nd_ti (i := 7) (by decide +kernel) rfl
theorem ok_J7_fill_53178 : nd_okN M_J7_fill_53178 2 := ⟨wc_J7_fill_53178, wn_J7, by decide +kernel, by decide +kernel, by decide +kernel⟩
theorem ws_J7_fill_53178 : Cond.static yJ7_fill_53178 ∈ nd_tbl := nd_ti (i := 142) (by decide +kernel) rfl
theorem cl_X5_34 : nd_cs RX5 34 M_J7_fill_53178 2 := ⟨ok_J7_fill_53178, ws_J7_fill_53178, Or.inl (nd_ti (i := 548) (by decide +kernel) rfl)⟩
theorem gs_X6_30 : Cond.fieldLink RX6 30 "NextDoorBrides" "MOST_OF" "[I" ∈ nd_tbl ∨ ∃ host, Cond.fieldLinkNest RX6 30 "NextDoorBrides" "MOST_OF" "[I" host ∈ nd_nest := Or.inr ⟨"NextDoorBrides", nd_tn (i := 431) (by decide +kernel) rfl⟩
theorem wc_X6_get : Cond.code yX6_get cX6_get 4 (some .int) ∈ nd_tbl := nd_ti (i := 384) (by decide +kernel) rfl
theorem ok_X6_get : nd_okN M_X6_get 2 := ⟨wc_X6_get, wn_X6, by decide +kernel, by decide +kernel, by decide +kernel⟩
theorem wi_X6_get : Cond.instanceMethod yX6_get ∈ nd_tbl := nd_ti (i := 382) (by decide +kernel) rfl
theorem wl_X6_get : Cond.selects RX6 yX6_get yX6_get ∈ nd_tbl := nd_ti (i := 383) (by decide +kernel) rfl
theorem cl_X6_33 : nd_cv RX6 33 M_X6_get 2 5 := ⟨ok_X6_get, wi_X6_get, wl_X6_get, nd_ti (i := 432) (by decide +kernel) rfl, TX6, 9, rfl⟩
theorem lk_X6_37 : Cond.methodLink RX6 37 Lib.Math.min.name ∈ nd_tbl := nd_ti (i := 433) (by decide +kernel) rfl
theorem cl_X6_26 : nd_cv RX6 26 M_X6_put 3 5 := ⟨ok_X6_put, wi_X6_put, wl_X6_put, nd_ti (i := 358) (by decide +kernel) rfl, TX6, 9, rfl⟩
theorem cl_X6_22 : nd_cs RX6 22 M_X10_canBe 2 := ⟨ok_X10_canBe, ws_X10_canBe, Or.inr ⟨"NextDoorBrides", nd_tn (i := 353) (by decide +kernel) rfl⟩⟩
theorem pf_X6_19 : nd_pf RX6 19 5 1 .int false := ⟨RX6, TX6, 9, rfl, by decide, Or.inl (nd_ti (i := 37) (by decide +kernel) rfl), rfl, by decide +kernel, fun h => absurd h (by decide)⟩
theorem gf_X6_15 : nd_gf RX6 15 5 2 := ⟨RX6, TX6, 9, rfl, by decide, Or.inl (nd_ti (i := 40) (by decide +kernel) rfl)⟩
theorem pf_X6_15 : nd_pf RX6 15 5 2 .int false := ⟨RX6, TX6, 9, rfl, by decide, Or.inl (nd_ti (i := 40) (by decide +kernel) rfl), rfl, by decide +kernel, fun h => absurd h (by decide)⟩
theorem gf_X6_53 : nd_gf RX6 53 5 3 := ⟨RX6, TX6, 9, rfl, by decide, Or.inl (nd_ti (i := 43) (by decide +kernel) rfl)⟩
theorem gf_X6_56 : nd_gf RX6 56 5 4 := ⟨RX6, TX6, 9, rfl, by decide, Or.inl (nd_ti (i := 47) (by decide +kernel) rfl)⟩
theorem gf_X6_59 : nd_gf RX6 59 5 5 := ⟨RX6, TX6, 9, rfl, by decide, Or.inl (nd_ti (i := 50) (by decide +kernel) rfl)⟩
theorem gf_X6_62 : nd_gf RX6 62 5 6 := ⟨RX6, TX6, 9, rfl, by decide, Or.inl (nd_ti (i := 54) (by decide +kernel) rfl)⟩
theorem gf_X6_65 : nd_gf RX6 65 5 8 := ⟨RX6, TX6, 9, rfl, by decide, Or.inl (nd_ti (i := 57) (by decide +kernel) rfl)⟩
theorem lk_X6_47 : Cond.methodLink RX6 47 arraycopyName ∈ nd_tbl := nd_ti (i := 413) (by decide +kernel) rfl
theorem pf_X6_53 : nd_pf RX6 53 5 3 .int false := ⟨RX6, TX6, 9, rfl, by decide, Or.inl (nd_ti (i := 43) (by decide +kernel) rfl), rfl, by decide +kernel, fun h => absurd h (by decide)⟩
theorem pf_X6_56 : nd_pf RX6 56 5 4 .int false := ⟨RX6, TX6, 9, rfl, by decide, Or.inl (nd_ti (i := 47) (by decide +kernel) rfl), rfl, by decide +kernel, fun h => absurd h (by decide)⟩
theorem pf_X6_59 : nd_pf RX6 59 5 5 .int false := ⟨RX6, TX6, 9, rfl, by decide, Or.inl (nd_ti (i := 50) (by decide +kernel) rfl), rfl, by decide +kernel, fun h => absurd h (by decide)⟩
theorem pf_X6_62 : nd_pf RX6 62 5 6 .int false := ⟨RX6, TX6, 9, rfl, by decide, Or.inl (nd_ti (i := 54) (by decide +kernel) rfl), rfl, by decide +kernel, fun h => absurd h (by decide)⟩
theorem pf_X6_65 : nd_pf RX6 65 5 8 .int false := ⟨RX6, TX6, 9, rfl, by decide, Or.inl (nd_ti (i := 57) (by decide +kernel) rfl), rfl, by decide +kernel, fun h => absurd h (by decide)⟩
theorem lk_X7_89 : Cond.methodLink RX7 89 Lib.Math.max.name ∈ nd_tbl := nd_ti (i := 968) (by decide +kernel) rfl
theorem lk_X7_41 : Cond.methodLink RX7 41 Lib.Math.min.name ∈ nd_tbl := nd_ti (i := 849) (by decide +kernel) rfl
theorem gf_X7_26 : nd_gf RX7 26 7 0 := ⟨RX8, TX8, 6, rfl, by decide, Or.inr ⟨"NextDoorBrides", nd_tn (i := 145) (by decide +kernel) rfl⟩⟩
theorem wc_X4_at : Cond.code yX4_at cX4_at 2 (some .int) ∈ nd_tbl := nd_ti (i := 445) (by decide +kernel) rfl
theorem ok_X4_at : nd_okN M_X4_at 1 := ⟨wc_X4_at, wn_X4, by decide +kernel, by decide +kernel, by decide +kernel⟩
theorem wi_X4_at : Cond.instanceMethod yX4_at ∈ nd_tbl := nd_ti (i := 443) (by decide +kernel) rfl
theorem wl_X4_at : Cond.selects RX4 yX4_at yX4_at ∈ nd_tbl := nd_ti (i := 444) (by decide +kernel) rfl
theorem cl_X7_38 : nd_cv RX7 38 M_X4_at 1 3 := ⟨ok_X4_at, wi_X4_at, wl_X4_at, nd_ti (i := 844) (by decide +kernel) rfl, TX4, 2, rfl⟩
theorem wc_X7_stepsTo : Cond.code yX7_stepsTo cX7_stepsTo 5 (some .int) ∈ nd_tbl := nd_ti (i := 1009) (by decide +kernel) rfl
theorem wn_X7 : Cond.initialized RX7 ∈ nd_tbl := nd_ti (i := 11) (by decide +kernel) rfl
theorem ok_X7_stepsTo : nd_okN M_X7_stepsTo 2 := ⟨wc_X7_stepsTo, wn_X7, by decide +kernel, by decide +kernel, by decide +kernel⟩
theorem wi_X7_stepsTo : Cond.instanceMethod yX7_stepsTo ∈ nd_tbl := nd_ti (i := 1008) (by decide +kernel) rfl
theorem wl_X7_stepsTo : Cond.selects RX7 yX7_stepsTo yX7_stepsTo ∈ nd_tbl := nd_tp (i := 42) (by decide +kernel) rfl
theorem cl_X7_95 : nd_cv RX7 95 M_X7_stepsTo 2 6 := ⟨ok_X7_stepsTo, wi_X7_stepsTo, wl_X7_stepsTo, nd_ti (i := 1006) (by decide +kernel) rfl, TX7, 3, rfl⟩
theorem wc_X7_worthOfRun : Cond.code yX7_worthOfRun cX7_worthOfRun 2 (some .int) ∈ nd_tbl := nd_ti (i := 292) (by decide +kernel) rfl
theorem ok_X7_worthOfRun : nd_okN M_X7_worthOfRun 1 := ⟨wc_X7_worthOfRun, wn_X7, by decide +kernel, by decide +kernel, by decide +kernel⟩
theorem wi_X7_worthOfRun : Cond.instanceMethod yX7_worthOfRun ∈ nd_tbl := nd_ti (i := 291) (by decide +kernel) rfl
theorem wl_X7_worthOfRun : Cond.selects RX7 yX7_worthOfRun yX7_worthOfRun ∈ nd_tbl := nd_tp (i := 1) (by decide +kernel) rfl
theorem cl_X7_114 : nd_cv RX7 114 M_X7_worthOfRun 1 6 := ⟨ok_X7_worthOfRun, wi_X7_worthOfRun, wl_X7_worthOfRun, nd_ti (i := 289) (by decide +kernel) rfl, TX7, 3, rfl⟩
theorem wc_X7_threeTogether : Cond.code yX7_threeTogether cX7_threeTogether 1 (some .boolean) ∈ nd_tbl := nd_ti (i := 1055) (by decide +kernel) rfl
theorem ok_X7_threeTogether : nd_okN M_X7_threeTogether 1 := ⟨wc_X7_threeTogether, wn_X7, by decide +kernel, by decide +kernel, by decide +kernel⟩
theorem ws_X7_threeTogether : Cond.static yX7_threeTogether ∈ nd_tbl := nd_ti (i := 1054) (by decide +kernel) rfl
theorem cl_X7_107 : nd_cs RX7 107 M_X7_threeTogether 1 := ⟨ok_X7_threeTogether, ws_X7_threeTogether, Or.inl (nd_ti (i := 1060) (by decide +kernel) rfl)⟩
theorem kc_X7_78 : Cond.constant RX7 78 (1000000 : Int32) ∈ nd_tbl := nd_ti (i := 920) (by decide +kernel) rfl
theorem wc_X7_give : Cond.code yX7_give cX7_give 4 none ∈ nd_tbl := nd_ti (i := 924) (by decide +kernel) rfl
theorem ok_X7_give : nd_okN M_X7_give 3 := ⟨wc_X7_give, wn_X7, by decide +kernel, by decide +kernel, by decide +kernel⟩
theorem wi_X7_give : Cond.instanceMethod yX7_give ∈ nd_tbl := nd_ti (i := 923) (by decide +kernel) rfl
theorem wl_X7_give : Cond.selects RX7 yX7_give yX7_give ∈ nd_tbl := nd_tp (i := 39) (by decide +kernel) rfl
theorem cl_X7_79 : nd_cv RX7 79 M_X7_give 3 6 := ⟨ok_X7_give, wi_X7_give, wl_X7_give, nd_ti (i := 921) (by decide +kernel) rfl, TX7, 3, rfl⟩
theorem gf_X7_98 : nd_gf RX7 98 7 4 := ⟨RX8, TX8, 6, rfl, by decide, Or.inr ⟨"NextDoorBrides", nd_tn (i := 157) (by decide +kernel) rfl⟩⟩
theorem gf_X7_53 : nd_gf RX7 53 7 1 := ⟨RX8, TX8, 6, rfl, by decide, Or.inr ⟨"NextDoorBrides", nd_tn (i := 148) (by decide +kernel) rfl⟩⟩
theorem wc_X7_factorial : Cond.code yX7_factorial cX7_factorial 3 (some .int) ∈ nd_tbl := nd_ti (i := 899) (by decide +kernel) rfl
theorem ok_X7_factorial : nd_okN M_X7_factorial 1 := ⟨wc_X7_factorial, wn_X7, by decide +kernel, by decide +kernel, by decide +kernel⟩
theorem ws_X7_factorial : Cond.static yX7_factorial ∈ nd_tbl := nd_ti (i := 898) (by decide +kernel) rfl
theorem cl_X7_68 : nd_cs RX7 68 M_X7_factorial 1 := ⟨ok_X7_factorial, ws_X7_factorial, Or.inl (nd_ti (i := 897) (by decide +kernel) rfl)⟩
theorem wc_J6_bitCount_0f7a4 : Cond.code yJ6_bitCount_0f7a4 cJ6_bitCount_0f7a4 1 (some .int) ∈ nd_tbl := nd_ti (i := 889) (by decide +kernel) rfl
theorem wn_J6 : Cond.initialized RJ6 ∈ nd_tbl := nd_ti (i := 20) (by decide +kernel) rfl
theorem ok_J6_bitCount_0f7a4 : nd_okN M_J6_bitCount_0f7a4 1 := ⟨wc_J6_bitCount_0f7a4, wn_J6, by decide +kernel, by decide +kernel, by decide +kernel⟩
theorem ws_J6_bitCount_0f7a4 : Cond.static yJ6_bitCount_0f7a4 ∈ nd_tbl := nd_ti (i := 888) (by decide +kernel) rfl
theorem cl_X7_60 : nd_cs RX7 60 M_J6_bitCount_0f7a4 1 := ⟨ok_J6_bitCount_0f7a4, ws_J6_bitCount_0f7a4, Or.inl (nd_ti (i := 887) (by decide +kernel) rfl)⟩
theorem wc_X7_comesBack : Cond.code yX7_comesBack cX7_comesBack 6 (some .boolean) ∈ nd_tbl := nd_ti (i := 907) (by decide +kernel) rfl
theorem ok_X7_comesBack : nd_okN M_X7_comesBack 2 := ⟨wc_X7_comesBack, wn_X7, by decide +kernel, by decide +kernel, by decide +kernel⟩
theorem wi_X7_comesBack : Cond.instanceMethod yX7_comesBack ∈ nd_tbl := nd_ti (i := 906) (by decide +kernel) rfl
theorem wl_X7_comesBack : Cond.selects RX7 yX7_comesBack yX7_comesBack ∈ nd_tbl := nd_tp (i := 38) (by decide +kernel) rfl
theorem cl_X7_71 : nd_cv RX7 71 M_X7_comesBack 2 6 := ⟨ok_X7_comesBack, wi_X7_comesBack, wl_X7_comesBack, nd_ti (i := 904) (by decide +kernel) rfl, TX7, 3, rfl⟩
theorem wc_X7_join : Cond.code yX7_join cX7_join 4 none ∈ nd_tbl := nd_ti (i := 886) (by decide +kernel) rfl
theorem ok_X7_join : nd_okN M_X7_join 3 := ⟨wc_X7_join, wn_X7, by decide +kernel, by decide +kernel, by decide +kernel⟩
theorem wi_X7_join : Cond.instanceMethod yX7_join ∈ nd_tbl := nd_ti (i := 885) (by decide +kernel) rfl
theorem wl_X7_join : Cond.selects RX7 yX7_join yX7_join ∈ nd_tbl := nd_tp (i := 36) (by decide +kernel) rfl
theorem cl_X7_56 : nd_cv RX7 56 M_X7_join 3 6 := ⟨ok_X7_join, wi_X7_join, wl_X7_join, nd_ti (i := 883) (by decide +kernel) rfl, TX7, 3, rfl⟩
theorem cl_X7_47 : nd_cs RX7 47 M_J7_fill_53178 2 := ⟨ok_J7_fill_53178, ws_J7_fill_53178, Or.inl (nd_ti (i := 882) (by decide +kernel) rfl)⟩
theorem wc_X7_groupOf : Cond.code yX7_groupOf cX7_groupOf 6 (some .int) ∈ nd_tbl := nd_ti (i := 896) (by decide +kernel) rfl
theorem ok_X7_groupOf : nd_okN M_X7_groupOf 2 := ⟨wc_X7_groupOf, wn_X7, by decide +kernel, by decide +kernel, by decide +kernel⟩
theorem wi_X7_groupOf : Cond.instanceMethod yX7_groupOf ∈ nd_tbl := nd_ti (i := 895) (by decide +kernel) rfl
theorem wl_X7_groupOf : Cond.selects RX7 yX7_groupOf yX7_groupOf ∈ nd_tbl := nd_tp (i := 37) (by decide +kernel) rfl
theorem cl_X7_65 : nd_cv RX7 65 M_X7_groupOf 2 6 := ⟨ok_X7_groupOf, wi_X7_groupOf, wl_X7_groupOf, nd_ti (i := 893) (by decide +kernel) rfl, TX7, 3, rfl⟩
theorem gf_X9_33 : nd_gf RX9 33 8 5 := ⟨RX9, TX9, 6, rfl, by decide, Or.inl (nd_ti (i := 265) (by decide +kernel) rfl)⟩
theorem cl_X9_42 : nd_cv RX9 42 M_X6_get 2 5 := ⟨ok_X6_get, wi_X6_get, wl_X6_get, nd_ti (i := 381) (by decide +kernel) rfl, TX6, 9, rfl⟩
theorem cl_X9_82 : nd_cv RX9 82 M_X6_put 3 5 := ⟨ok_X6_put, wi_X6_put, wl_X6_put, nd_ti (i := 463) (by decide +kernel) rfl, TX6, 9, rfl⟩
theorem wc_X9_note : Cond.code yX9_note cX9_note 5 none ∈ nd_tbl := nd_ti (i := 467) (by decide +kernel) rfl
theorem wn_X9 : Cond.initialized RX9 ∈ nd_tbl := nd_ti (i := 10) (by decide +kernel) rfl
theorem ok_X9_note : nd_okN M_X9_note 3 := ⟨wc_X9_note, wn_X9, by decide +kernel, by decide +kernel, by decide +kernel⟩
theorem wi_X9_note : Cond.instanceMethod yX9_note ∈ nd_tbl := nd_ti (i := 466) (by decide +kernel) rfl
theorem wl_X9_note : Cond.selects RX9 yX9_note yX9_note ∈ nd_tbl := nd_tp (i := 8) (by decide +kernel) rfl
theorem cl_X9_108 : nd_cv RX9 108 M_X9_note 3 8 := ⟨ok_X9_note, wi_X9_note, wl_X9_note, nd_ti (i := 464) (by decide +kernel) rfl, TX9, 6, rfl⟩
theorem wc_X6_draw : Cond.code yX6_draw cX6_draw 2 (some .int) ∈ nd_tbl := nd_ti (i := 495) (by decide +kernel) rfl
theorem ok_X6_draw : nd_okN M_X6_draw 1 := ⟨wc_X6_draw, wn_X6, by decide +kernel, by decide +kernel, by decide +kernel⟩
theorem wi_X6_draw : Cond.instanceMethod yX6_draw ∈ nd_tbl := nd_ti (i := 493) (by decide +kernel) rfl
theorem wl_X6_draw : Cond.selects RX6 yX6_draw yX6_draw ∈ nd_tbl := nd_ti (i := 494) (by decide +kernel) rfl
theorem cl_X9_120 : nd_cv RX9 120 M_X6_draw 1 5 := ⟨ok_X6_draw, wi_X6_draw, wl_X6_draw, nd_ti (i := 492) (by decide +kernel) rfl, TX6, 9, rfl⟩
theorem gf_X9_105 : nd_gf RX9 105 5 4 := ⟨RX6, TX6, 9, rfl, by decide, Or.inr ⟨"NextDoorBrides", nd_tn (i := 46) (by decide +kernel) rfl⟩⟩
theorem gf_X9_71 : nd_gf RX9 71 5 2 := ⟨RX6, TX6, 9, rfl, by decide, Or.inr ⟨"NextDoorBrides", nd_tn (i := 41) (by decide +kernel) rfl⟩⟩
theorem gf_X9_15 : nd_gf RX9 15 8 1 := ⟨RX9, TX9, 6, rfl, by decide, Or.inl (nd_ti (i := 261) (by decide +kernel) rfl)⟩
theorem wc_X5_sideOf : Cond.code yX5_sideOf cX5_sideOf 2 (some .int) ∈ nd_tbl := nd_ti (i := 392) (by decide +kernel) rfl
theorem ok_X5_sideOf : nd_okN M_X5_sideOf 1 := ⟨wc_X5_sideOf, wn_X5, by decide +kernel, by decide +kernel, by decide +kernel⟩
theorem wi_X5_sideOf : Cond.instanceMethod yX5_sideOf ∈ nd_tbl := nd_ti (i := 390) (by decide +kernel) rfl
theorem wl_X5_sideOf : Cond.selects RX5 yX5_sideOf yX5_sideOf ∈ nd_tbl := nd_ti (i := 391) (by decide +kernel) rfl
theorem cl_X9_85 : nd_cv RX9 85 M_X5_sideOf 1 4 := ⟨ok_X5_sideOf, wi_X5_sideOf, wl_X5_sideOf, nd_ti (i := 389) (by decide +kernel) rfl, TX5, 7, rfl⟩
theorem gf_X9_37 : nd_gf RX9 37 5 1 := ⟨RX6, TX6, 9, rfl, by decide, Or.inr ⟨"NextDoorBrides", nd_tn (i := 38) (by decide +kernel) rfl⟩⟩
theorem wc_J0_isLatin1_aae02 : Cond.code yJ0_isLatin1_aae02 cJ0_isLatin1_aae02 1 (some .boolean) ∈ nd_tbl := nd_ti (i := 568) (by decide +kernel) rfl
theorem ok_J0_isLatin1_aae02 : nd_okN M_J0_isLatin1_aae02 0 := ⟨wc_J0_isLatin1_aae02, wn_J0, by decide +kernel, by decide +kernel, by decide +kernel⟩
theorem wi_J0_isLatin1_aae02 : Cond.instanceMethod yJ0_isLatin1_aae02 ∈ nd_tbl := nd_ti (i := 566) (by decide +kernel) rfl
theorem wl_J0_isLatin1_aae02 : Cond.selects RJ0 yJ0_isLatin1_aae02 yJ0_isLatin1_aae02 ∈ nd_tbl := nd_ti (i := 567) (by decide +kernel) rfl
theorem cl_J0_492 : nd_ct RJ0 492 M_J0_isLatin1_aae02 0 := ⟨ok_J0_isLatin1_aae02, rfl, wi_J0_isLatin1_aae02, wl_J0_isLatin1_aae02, nd_ti (i := 565) (by decide +kernel) rfl⟩
theorem wc_J0_length_8abf5 : Cond.code yJ0_length_8abf5 cJ0_length_8abf5 1 (some .int) ∈ nd_tbl := nd_ti (i := 574) (by decide +kernel) rfl
theorem ok_J0_length_8abf5 : nd_okN M_J0_length_8abf5 0 := ⟨wc_J0_length_8abf5, wn_J0, by decide +kernel, by decide +kernel, by decide +kernel⟩
theorem wi_J0_length_8abf5 : Cond.instanceMethod yJ0_length_8abf5 ∈ nd_tbl := nd_ti (i := 572) (by decide +kernel) rfl
theorem wl_J0_length_8abf5 : Cond.selects RJ0 yJ0_length_8abf5 yJ0_length_8abf5 ∈ nd_tbl := nd_ti (i := 573) (by decide +kernel) rfl
theorem cl_J0_505 : nd_ct RJ0 505 M_J0_length_8abf5 0 := ⟨ok_J0_length_8abf5, rfl, wi_J0_length_8abf5, wl_J0_length_8abf5, nd_ti (i := 571) (by decide +kernel) rfl⟩
theorem wc_J1_indexOf_4cfef : Cond.code yJ1_indexOf_4cfef cJ1_indexOf_4cfef 4 (some .int) ∈ nd_tbl := nd_ti (i := 581) (by decide +kernel) rfl
theorem ok_J1_indexOf_4cfef : nd_okN M_J1_indexOf_4cfef 4 := ⟨wc_J1_indexOf_4cfef, wn_J1, by decide +kernel, by decide +kernel, by decide +kernel⟩
theorem ws_J1_indexOf_4cfef : Cond.static yJ1_indexOf_4cfef ∈ nd_tbl := nd_ti (i := 580) (by decide +kernel) rfl
theorem cl_J0_637 : nd_cs RJ0 637 M_J1_indexOf_4cfef 4 := ⟨ok_J1_indexOf_4cfef, ws_J1_indexOf_4cfef, Or.inl (nd_ti (i := 579) (by decide +kernel) rfl)⟩
theorem wc_J0_checkIndex_df160 : Cond.code yJ0_checkIndex_df160 cJ0_checkIndex_df160 2 none ∈ nd_tbl := nd_ti (i := 660) (by decide +kernel) rfl
theorem ok_J0_checkIndex_df160 : nd_okN M_J0_checkIndex_df160 2 := ⟨wc_J0_checkIndex_df160, wn_J0, by decide +kernel, by decide +kernel, by decide +kernel⟩
theorem ws_J0_checkIndex_df160 : Cond.static yJ0_checkIndex_df160 ∈ nd_tbl := nd_ti (i := 659) (by decide +kernel) rfl
theorem cl_J1_9 : nd_cs RJ1 9 M_J0_checkIndex_df160 2 := ⟨ok_J0_checkIndex_df160, ws_J0_checkIndex_df160, Or.inl (nd_ti (i := 658) (by decide +kernel) rfl)⟩
theorem wc_X0_apartBehind : Cond.code yX0_apartBehind cX0_apartBehind 4 (some .int) ∈ nd_tbl := nd_ti (i := 821) (by decide +kernel) rfl
theorem ok_X0_apartBehind : nd_okN M_X0_apartBehind 4 := ⟨wc_X0_apartBehind, wn_X0, by decide +kernel, by decide +kernel, by decide +kernel⟩
theorem ws_X0_apartBehind : Cond.static yX0_apartBehind ∈ nd_tbl := nd_ti (i := 820) (by decide +kernel) rfl
theorem cl_X0_9 : nd_cs RX0 9 M_X0_apartBehind 4 := ⟨ok_X0_apartBehind, ws_X0_apartBehind, Or.inl (nd_ti (i := 819) (by decide +kernel) rfl)⟩
theorem gf_X10_68 : nd_gf RX10 68 9 9 := ⟨RX10, TX10, 11, rfl, by decide, Or.inl (nd_ti (i := 312) (by decide +kernel) rfl)⟩
theorem wc_X7_mostThatMove : Cond.code yX7_mostThatMove cX7_mostThatMove 5 (some .int) ∈ nd_tbl := nd_ti (i := 1005) (by decide +kernel) rfl
theorem ok_X7_mostThatMove : nd_okN M_X7_mostThatMove 0 := ⟨wc_X7_mostThatMove, wn_X7, by decide +kernel, by decide +kernel, by decide +kernel⟩
theorem wi_X7_mostThatMove : Cond.instanceMethod yX7_mostThatMove ∈ nd_tbl := nd_ti (i := 1003) (by decide +kernel) rfl
theorem wl_X7_mostThatMove : Cond.selects RX7 yX7_mostThatMove yX7_mostThatMove ∈ nd_tbl := nd_ti (i := 1004) (by decide +kernel) rfl
theorem cl_X10_280 : nd_cv RX10 280 M_X7_mostThatMove 0 6 := ⟨ok_X7_mostThatMove, wi_X7_mostThatMove, wl_X7_mostThatMove, nd_ti (i := 1002) (by decide +kernel) rfl, TX7, 3, rfl⟩
theorem gf_X10_195 : nd_gf RX10 195 7 0 := ⟨RX8, TX8, 6, rfl, by decide, Or.inr ⟨"NextDoorBrides", nd_tn (i := 146) (by decide +kernel) rfl⟩⟩
theorem wc_X4_tell : Cond.code yX4_tell cX4_tell 4 (some .int) ∈ nd_tbl := nd_ti (i := 833) (by decide +kernel) rfl
theorem ok_X4_tell : nd_okN M_X4_tell 3 := ⟨wc_X4_tell, wn_X4, by decide +kernel, by decide +kernel, by decide +kernel⟩
theorem wi_X4_tell : Cond.instanceMethod yX4_tell ∈ nd_tbl := nd_ti (i := 831) (by decide +kernel) rfl
theorem wl_X4_tell : Cond.selects RX4 yX4_tell yX4_tell ∈ nd_tbl := nd_ti (i := 832) (by decide +kernel) rfl
theorem cl_X10_199 : nd_cv RX10 199 M_X4_tell 3 3 := ⟨ok_X4_tell, wi_X4_tell, wl_X4_tell, nd_ti (i := 830) (by decide +kernel) rfl, TX4, 2, rfl⟩
theorem gf_X10_234 : nd_gf RX10 234 7 2 := ⟨RX8, TX8, 6, rfl, by decide, Or.inr ⟨"NextDoorBrides", nd_tn (i := 152) (by decide +kernel) rfl⟩⟩
theorem gf_X10_289 : nd_gf RX10 289 7 4 := ⟨RX8, TX8, 6, rfl, by decide, Or.inr ⟨"NextDoorBrides", nd_tn (i := 158) (by decide +kernel) rfl⟩⟩
theorem wc_X0_weight : Cond.code yX0_weight cX0_weight 6 (some .int) ∈ nd_tbl := nd_ti (i := 983) (by decide +kernel) rfl
theorem ok_X0_weight : nd_okN M_X0_weight 4 := ⟨wc_X0_weight, wn_X0, by decide +kernel, by decide +kernel, by decide +kernel⟩
theorem ws_X0_weight : Cond.static yX0_weight ∈ nd_tbl := nd_ti (i := 982) (by decide +kernel) rfl
theorem cl_X10_267 : nd_cs RX10 267 M_X0_weight 4 := ⟨ok_X0_weight, ws_X0_weight, Or.inl (nd_ti (i := 981) (by decide +kernel) rfl)⟩
theorem wc_X0_lowest : Cond.code yX0_lowest cX0_lowest 4 (some .int) ∈ nd_tbl := nd_ti (i := 973) (by decide +kernel) rfl
theorem ok_X0_lowest : nd_okN M_X0_lowest 3 := ⟨wc_X0_lowest, wn_X0, by decide +kernel, by decide +kernel, by decide +kernel⟩
theorem ws_X0_lowest : Cond.static yX0_lowest ∈ nd_tbl := nd_ti (i := 972) (by decide +kernel) rfl
theorem cl_X10_264 : nd_cs RX10 264 M_X0_lowest 3 := ⟨ok_X0_lowest, ws_X0_lowest, Or.inl (nd_ti (i := 971) (by decide +kernel) rfl)⟩
theorem wc_X6_build : Cond.code yX6_build cX6_build 5 (some .int) ∈ nd_tbl := nd_ti (i := 352) (by decide +kernel) rfl
theorem ok_X6_build : nd_okN M_X6_build 3 := ⟨wc_X6_build, wn_X6, by decide +kernel, by decide +kernel, by decide +kernel⟩
theorem wi_X6_build : Cond.instanceMethod yX6_build ∈ nd_tbl := nd_ti (i := 350) (by decide +kernel) rfl
theorem wl_X6_build : Cond.selects RX6 yX6_build yX6_build ∈ nd_tbl := nd_ti (i := 351) (by decide +kernel) rfl
theorem cl_X10_83 : nd_cv RX10 83 M_X6_build 3 5 := ⟨ok_X6_build, wi_X6_build, wl_X6_build, nd_ti (i := 349) (by decide +kernel) rfl, TX6, 9, rfl⟩
theorem gf_X10_326 : nd_gf RX10 326 0 1 := ⟨RX1, TX1, 3, rfl, by decide, Or.inr ⟨"NextDoorBrides", nd_tn (i := 186) (by decide +kernel) rfl⟩⟩
theorem gf_X10_19 : nd_gf RX10 19 9 1 := ⟨RX10, TX10, 11, rfl, by decide, Or.inl (nd_ti (i := 304) (by decide +kernel) rfl)⟩
theorem gf_X10_110 : nd_gf RX10 110 5 6 := ⟨RX6, TX6, 9, rfl, by decide, Or.inr ⟨"NextDoorBrides", nd_tn (i := 53) (by decide +kernel) rfl⟩⟩
theorem gf_X10_179 : nd_gf RX10 179 5 2 := ⟨RX6, TX6, 9, rfl, by decide, Or.inr ⟨"NextDoorBrides", nd_tn (i := 42) (by decide +kernel) rfl⟩⟩
theorem gf_X10_172 : nd_gf RX10 172 5 4 := ⟨RX6, TX6, 9, rfl, by decide, Or.inr ⟨"NextDoorBrides", nd_tn (i := 48) (by decide +kernel) rfl⟩⟩
theorem gf_X10_169 : nd_gf RX10 169 5 3 := ⟨RX6, TX6, 9, rfl, by decide, Or.inr ⟨"NextDoorBrides", nd_tn (i := 45) (by decide +kernel) rfl⟩⟩
theorem gf_X10_113 : nd_gf RX10 113 5 5 := ⟨RX6, TX6, 9, rfl, by decide, Or.inr ⟨"NextDoorBrides", nd_tn (i := 49) (by decide +kernel) rfl⟩⟩
theorem gf_X10_129 : nd_gf RX10 129 5 1 := ⟨RX6, TX6, 9, rfl, by decide, Or.inr ⟨"NextDoorBrides", nd_tn (i := 39) (by decide +kernel) rfl⟩⟩
theorem wc_X6_widows : Cond.code yX6_widows cX6_widows 3 (some .int) ∈ nd_tbl := nd_ti (i := 1130) (by decide +kernel) rfl
theorem ok_X6_widows : nd_okN M_X6_widows 0 := ⟨wc_X6_widows, wn_X6, by decide +kernel, by decide +kernel, by decide +kernel⟩
theorem wi_X6_widows : Cond.instanceMethod yX6_widows ∈ nd_tbl := nd_ti (i := 1128) (by decide +kernel) rfl
theorem wl_X6_widows : Cond.selects RX6 yX6_widows yX6_widows ∈ nd_tbl := nd_ti (i := 1129) (by decide +kernel) rfl
theorem cl_X10_320 : nd_cv RX10 320 M_X6_widows 0 5 := ⟨ok_X6_widows, wi_X6_widows, wl_X6_widows, nd_ti (i := 1127) (by decide +kernel) rfl, TX6, 9, rfl⟩
theorem wc_X5_linesOf : Cond.code yX5_linesOf cX5_linesOf 2 (some .int) ∈ nd_tbl := nd_ti (i := 767) (by decide +kernel) rfl
theorem ok_X5_linesOf : nd_okN M_X5_linesOf 1 := ⟨wc_X5_linesOf, wn_X5, by decide +kernel, by decide +kernel, by decide +kernel⟩
theorem wi_X5_linesOf : Cond.instanceMethod yX5_linesOf ∈ nd_tbl := nd_ti (i := 765) (by decide +kernel) rfl
theorem wl_X5_linesOf : Cond.selects RX5 yX5_linesOf yX5_linesOf ∈ nd_tbl := nd_ti (i := 766) (by decide +kernel) rfl
theorem cl_X10_323 : nd_cv RX10 323 M_X5_linesOf 1 4 := ⟨ok_X5_linesOf, wi_X5_linesOf, wl_X5_linesOf, nd_ti (i := 1131) (by decide +kernel) rfl, TX5, 7, rfl⟩
theorem kc_X10_327 : Cond.constant RX10 327 (-100000 : Int32) ∈ nd_tbl := nd_ti (i := 1132) (by decide +kernel) rfl
theorem cl_X10_286 : nd_cs RX10 286 M_X0_placeBehind 3 := ⟨ok_X0_placeBehind, ws_X0_placeBehind, Or.inl (nd_ti (i := 1020) (by decide +kernel) rfl)⟩
theorem wc_X0_inOrderBehind : Cond.code yX0_inOrderBehind cX0_inOrderBehind 4 (some .int) ∈ nd_tbl := nd_ti (i := 1016) (by decide +kernel) rfl
theorem ok_X0_inOrderBehind : nd_okN M_X0_inOrderBehind 1 := ⟨wc_X0_inOrderBehind, wn_X0, by decide +kernel, by decide +kernel, by decide +kernel⟩
theorem ws_X0_inOrderBehind : Cond.static yX0_inOrderBehind ∈ nd_tbl := nd_ti (i := 1015) (by decide +kernel) rfl
theorem cl_X10_283 : nd_cs RX10 283 M_X0_inOrderBehind 1 := ⟨ok_X0_inOrderBehind, ws_X0_inOrderBehind, Or.inl (nd_ti (i := 1014) (by decide +kernel) rfl)⟩
theorem wc_X7_changesForNoGirlsTogether : Cond.code yX7_changesForNoGirlsTogether cX7_changesForNoGirlsTogether 4 (some .int) ∈ nd_tbl := nd_ti (i := 843) (by decide +kernel) rfl
theorem ok_X7_changesForNoGirlsTogether : nd_okN M_X7_changesForNoGirlsTogether 0 := ⟨wc_X7_changesForNoGirlsTogether, wn_X7, by decide +kernel, by decide +kernel, by decide +kernel⟩
theorem wi_X7_changesForNoGirlsTogether : Cond.instanceMethod yX7_changesForNoGirlsTogether ∈ nd_tbl := nd_ti (i := 841) (by decide +kernel) rfl
theorem wl_X7_changesForNoGirlsTogether : Cond.selects RX7 yX7_changesForNoGirlsTogether yX7_changesForNoGirlsTogether ∈ nd_tbl := nd_ti (i := 842) (by decide +kernel) rfl
theorem cl_X10_204 : nd_cv RX10 204 M_X7_changesForNoGirlsTogether 0 6 := ⟨ok_X7_changesForNoGirlsTogether, wi_X7_changesForNoGirlsTogether, wl_X7_changesForNoGirlsTogether, nd_ti (i := 840) (by decide +kernel) rfl, TX7, 3, rfl⟩
theorem wc_X7_changesForTurns : Cond.code yX7_changesForTurns cX7_changesForTurns 3 (some .int) ∈ nd_tbl := nd_ti (i := 848) (by decide +kernel) rfl
theorem ok_X7_changesForTurns : nd_okN M_X7_changesForTurns 0 := ⟨wc_X7_changesForTurns, wn_X7, by decide +kernel, by decide +kernel, by decide +kernel⟩
theorem wi_X7_changesForTurns : Cond.instanceMethod yX7_changesForTurns ∈ nd_tbl := nd_ti (i := 846) (by decide +kernel) rfl
theorem wl_X7_changesForTurns : Cond.selects RX7 yX7_changesForTurns yX7_changesForTurns ∈ nd_tbl := nd_ti (i := 847) (by decide +kernel) rfl
theorem cl_X10_207 : nd_cv RX10 207 M_X7_changesForTurns 0 6 := ⟨ok_X7_changesForTurns, wi_X7_changesForTurns, wl_X7_changesForTurns, nd_ti (i := 845) (by decide +kernel) rfl, TX7, 3, rfl⟩
theorem wc_X7_pushAll : Cond.code yX7_pushAll cX7_pushAll 7 (some .int) ∈ nd_tbl := nd_ti (i := 919) (by decide +kernel) rfl
theorem ok_X7_pushAll : nd_okN M_X7_pushAll 0 := ⟨wc_X7_pushAll, wn_X7, by decide +kernel, by decide +kernel, by decide +kernel⟩
theorem wi_X7_pushAll : Cond.instanceMethod yX7_pushAll ∈ nd_tbl := nd_ti (i := 917) (by decide +kernel) rfl
theorem wl_X7_pushAll : Cond.selects RX7 yX7_pushAll yX7_pushAll ∈ nd_tbl := nd_ti (i := 918) (by decide +kernel) rfl
theorem cl_X10_239 : nd_cv RX10 239 M_X7_pushAll 0 6 := ⟨ok_X7_pushAll, wi_X7_pushAll, wl_X7_pushAll, nd_ti (i := 916) (by decide +kernel) rfl, TX7, 3, rfl⟩
theorem wc_X7_leftWith : Cond.code yX7_leftWith cX7_leftWith 2 (some .int) ∈ nd_tbl := nd_ti (i := 928) (by decide +kernel) rfl
theorem ok_X7_leftWith : nd_okN M_X7_leftWith 1 := ⟨wc_X7_leftWith, wn_X7, by decide +kernel, by decide +kernel, by decide +kernel⟩
theorem wi_X7_leftWith : Cond.instanceMethod yX7_leftWith ∈ nd_tbl := nd_ti (i := 926) (by decide +kernel) rfl
theorem wl_X7_leftWith : Cond.selects RX7 yX7_leftWith yX7_leftWith ∈ nd_tbl := nd_ti (i := 927) (by decide +kernel) rfl
theorem cl_X10_242 : nd_cv RX10 242 M_X7_leftWith 1 6 := ⟨ok_X7_leftWith, wi_X7_leftWith, wl_X7_leftWith, nd_ti (i := 925) (by decide +kernel) rfl, TX7, 3, rfl⟩
theorem wc_X7_rowsSideBySide : Cond.code yX7_rowsSideBySide cX7_rowsSideBySide 8 (some .int) ∈ nd_tbl := nd_ti (i := 881) (by decide +kernel) rfl
theorem ok_X7_rowsSideBySide : nd_okN M_X7_rowsSideBySide 1 := ⟨wc_X7_rowsSideBySide, wn_X7, by decide +kernel, by decide +kernel, by decide +kernel⟩
theorem wi_X7_rowsSideBySide : Cond.instanceMethod yX7_rowsSideBySide ∈ nd_tbl := nd_ti (i := 879) (by decide +kernel) rfl
theorem wl_X7_rowsSideBySide : Cond.selects RX7 yX7_rowsSideBySide yX7_rowsSideBySide ∈ nd_tbl := nd_ti (i := 880) (by decide +kernel) rfl
theorem cl_X10_228 : nd_cv RX10 228 M_X7_rowsSideBySide 1 6 := ⟨ok_X7_rowsSideBySide, wi_X7_rowsSideBySide, wl_X7_rowsSideBySide, nd_ti (i := 878) (by decide +kernel) rfl, TX7, 3, rfl⟩
theorem wc_X7_rowsBehind : Cond.code yX7_rowsBehind cX7_rowsBehind 6 (some .int) ∈ nd_tbl := nd_ti (i := 903) (by decide +kernel) rfl
theorem ok_X7_rowsBehind : nd_okN M_X7_rowsBehind 1 := ⟨wc_X7_rowsBehind, wn_X7, by decide +kernel, by decide +kernel, by decide +kernel⟩
theorem wi_X7_rowsBehind : Cond.instanceMethod yX7_rowsBehind ∈ nd_tbl := nd_ti (i := 901) (by decide +kernel) rfl
theorem wl_X7_rowsBehind : Cond.selects RX7 yX7_rowsBehind yX7_rowsBehind ∈ nd_tbl := nd_ti (i := 902) (by decide +kernel) rfl
theorem cl_X10_231 : nd_cv RX10 231 M_X7_rowsBehind 1 6 := ⟨ok_X7_rowsBehind, wi_X7_rowsBehind, wl_X7_rowsBehind, nd_ti (i := 900) (by decide +kernel) rfl, TX7, 3, rfl⟩
theorem wc_X0_wagons : Cond.code yX0_wagons cX0_wagons 5 (some .int) ∈ nd_tbl := nd_ti (i := 856) (by decide +kernel) rfl
theorem ok_X0_wagons : nd_okN M_X0_wagons 1 := ⟨wc_X0_wagons, wn_X0, by decide +kernel, by decide +kernel, by decide +kernel⟩
theorem ws_X0_wagons : Cond.static yX0_wagons ∈ nd_tbl := nd_ti (i := 855) (by decide +kernel) rfl
theorem cl_X10_210 : nd_cs RX10 210 M_X0_wagons 1 := ⟨ok_X0_wagons, ws_X0_wagons, Or.inl (nd_ti (i := 854) (by decide +kernel) rfl)⟩
theorem wc_X0_mostInSiding : Cond.code yX0_mostInSiding cX0_mostInSiding 10 (some .int) ∈ nd_tbl := nd_ti (i := 859) (by decide +kernel) rfl
theorem ok_X0_mostInSiding : nd_okN M_X0_mostInSiding 2 := ⟨wc_X0_mostInSiding, wn_X0, by decide +kernel, by decide +kernel, by decide +kernel⟩
theorem ws_X0_mostInSiding : Cond.static yX0_mostInSiding ∈ nd_tbl := nd_ti (i := 858) (by decide +kernel) rfl
theorem cl_X10_213 : nd_cs RX10 213 M_X0_mostInSiding 2 := ⟨ok_X0_mostInSiding, ws_X0_mostInSiding, Or.inl (nd_ti (i := 857) (by decide +kernel) rfl)⟩
theorem wc_X0_rowsThatGo : Cond.code yX0_rowsThatGo cX0_rowsThatGo 3 (some .int) ∈ nd_tbl := nd_ti (i := 867) (by decide +kernel) rfl
theorem ok_X0_rowsThatGo : nd_okN M_X0_rowsThatGo 1 := ⟨wc_X0_rowsThatGo, wn_X0, by decide +kernel, by decide +kernel, by decide +kernel⟩
theorem ws_X0_rowsThatGo : Cond.static yX0_rowsThatGo ∈ nd_tbl := nd_ti (i := 866) (by decide +kernel) rfl
theorem cl_X10_216 : nd_cs RX10 216 M_X0_rowsThatGo 1 := ⟨ok_X0_rowsThatGo, ws_X0_rowsThatGo, Or.inl (nd_ti (i := 865) (by decide +kernel) rfl)⟩
theorem wc_X0_sameTurned : Cond.code yX0_sameTurned cX0_sameTurned 4 (some .int) ∈ nd_tbl := nd_ti (i := 990) (by decide +kernel) rfl
theorem ok_X0_sameTurned : nd_okN M_X0_sameTurned 2 := ⟨wc_X0_sameTurned, wn_X0, by decide +kernel, by decide +kernel, by decide +kernel⟩
theorem ws_X0_sameTurned : Cond.static yX0_sameTurned ∈ nd_tbl := nd_ti (i := 989) (by decide +kernel) rfl
theorem cl_X10_271 : nd_cs RX10 271 M_X0_sameTurned 2 := ⟨ok_X0_sameTurned, ws_X0_sameTurned, Or.inl (nd_ti (i := 988) (by decide +kernel) rfl)⟩
theorem wc_X0_sameFromBehind : Cond.code yX0_sameFromBehind cX0_sameFromBehind 5 (some .int) ∈ nd_tbl := nd_ti (i := 993) (by decide +kernel) rfl
theorem ok_X0_sameFromBehind : nd_okN M_X0_sameFromBehind 2 := ⟨wc_X0_sameFromBehind, wn_X0, by decide +kernel, by decide +kernel, by decide +kernel⟩
theorem ws_X0_sameFromBehind : Cond.static yX0_sameFromBehind ∈ nd_tbl := nd_ti (i := 992) (by decide +kernel) rfl
theorem cl_X10_274 : nd_cs RX10 274 M_X0_sameFromBehind 2 := ⟨ok_X0_sameFromBehind, ws_X0_sameFromBehind, Or.inl (nd_ti (i := 991) (by decide +kernel) rfl)⟩
theorem wc_X11_findsAkin : Cond.code yX11_findsAkin cX11_findsAkin 6 none ∈ nd_tbl := nd_ti (i := 1739) (by decide +kernel) rfl
theorem ok_X11_findsAkin : nd_okN M_X11_findsAkin 0 := ⟨wc_X11_findsAkin, wn_X11, by decide +kernel, by decide +kernel, by decide +kernel⟩
theorem wi_X11_findsAkin : Cond.instanceMethod yX11_findsAkin ∈ nd_tbl := nd_ti (i := 1738) (by decide +kernel) rfl
theorem wl_X11_findsAkin : Cond.selects RX11 yX11_findsAkin yX11_findsAkin ∈ nd_tbl := nd_tp (i := 117) (by decide +kernel) rfl
theorem cl_X11_442 : nd_cv RX11 442 M_X11_findsAkin 0 10 := ⟨ok_X11_findsAkin, wi_X11_findsAkin, wl_X11_findsAkin, nd_ti (i := 1736) (by decide +kernel) rfl, TX11, 69, rfl⟩
theorem kc_X11_445 : Cond.constant RX11 445 (268435456 : Int32) ∈ nd_tbl := nd_ti (i := 1741) (by decide +kernel) rfl
theorem wc_X11_isFraction : Cond.code yX11_isFraction cX11_isFraction 4 none ∈ nd_tbl := nd_ti (i := 1745) (by decide +kernel) rfl
theorem ok_X11_isFraction : nd_okN M_X11_isFraction 2 := ⟨wc_X11_isFraction, wn_X11, by decide +kernel, by decide +kernel, by decide +kernel⟩
theorem wi_X11_isFraction : Cond.instanceMethod yX11_isFraction ∈ nd_tbl := nd_ti (i := 1744) (by decide +kernel) rfl
theorem wl_X11_isFraction : Cond.selects RX11 yX11_isFraction yX11_isFraction ∈ nd_tbl := nd_tp (i := 118) (by decide +kernel) rfl
theorem cl_X11_446 : nd_cv RX11 446 M_X11_isFraction 2 10 := ⟨ok_X11_isFraction, wi_X11_isFraction, wl_X11_isFraction, nd_ti (i := 1742) (by decide +kernel) rfl, TX11, 69, rfl⟩
theorem wc_X11_nextOf : Cond.code yX11_nextOf cX11_nextOf 4 (some .int) ∈ nd_tbl := nd_ti (i := 1535) (by decide +kernel) rfl
theorem ok_X11_nextOf : nd_okN M_X11_nextOf 1 := ⟨wc_X11_nextOf, wn_X11, by decide +kernel, by decide +kernel, by decide +kernel⟩
theorem wi_X11_nextOf : Cond.instanceMethod yX11_nextOf ∈ nd_tbl := nd_ti (i := 1534) (by decide +kernel) rfl
theorem wl_X11_nextOf : Cond.selects RX11 yX11_nextOf yX11_nextOf ∈ nd_tbl := nd_tp (i := 83) (by decide +kernel) rfl
theorem cl_X11_325 : nd_cv RX11 325 M_X11_nextOf 1 10 := ⟨ok_X11_nextOf, wi_X11_nextOf, wl_X11_nextOf, nd_ti (i := 1532) (by decide +kernel) rfl, TX11, 69, rfl⟩
theorem wc_X11_canMove : Cond.code yX11_canMove cX11_canMove 5 (some .boolean) ∈ nd_tbl := nd_ti (i := 1773) (by decide +kernel) rfl
theorem ok_X11_canMove : nd_okN M_X11_canMove 1 := ⟨wc_X11_canMove, wn_X11, by decide +kernel, by decide +kernel, by decide +kernel⟩
theorem wi_X11_canMove : Cond.instanceMethod yX11_canMove ∈ nd_tbl := nd_ti (i := 1772) (by decide +kernel) rfl
theorem wl_X11_canMove : Cond.selects RX11 yX11_canMove yX11_canMove ∈ nd_tbl := nd_tp (i := 121) (by decide +kernel) rfl
theorem cl_X11_452 : nd_cv RX11 452 M_X11_canMove 1 10 := ⟨ok_X11_canMove, wi_X11_canMove, wl_X11_canMove, nd_ti (i := 1770) (by decide +kernel) rfl, TX11, 69, rfl⟩
theorem wc_X11_getsRicher : Cond.code yX11_getsRicher cX11_getsRicher 3 none ∈ nd_tbl := nd_ti (i := 1583) (by decide +kernel) rfl
theorem ok_X11_getsRicher : nd_okN M_X11_getsRicher 2 := ⟨wc_X11_getsRicher, wn_X11, by decide +kernel, by decide +kernel, by decide +kernel⟩
theorem wi_X11_getsRicher : Cond.instanceMethod yX11_getsRicher ∈ nd_tbl := nd_ti (i := 1582) (by decide +kernel) rfl
theorem wl_X11_getsRicher : Cond.selects RX11 yX11_getsRicher yX11_getsRicher ∈ nd_tbl := nd_tp (i := 95) (by decide +kernel) rfl
theorem cl_X11_342 : nd_cv RX11 342 M_X11_getsRicher 2 10 := ⟨ok_X11_getsRicher, wi_X11_getsRicher, wl_X11_getsRicher, nd_ti (i := 1580) (by decide +kernel) rfl, TX11, 69, rfl⟩
theorem wc_X11_winningDoor : Cond.code yX11_winningDoor cX11_winningDoor 5 (some .int) ∈ nd_tbl := nd_ti (i := 1813) (by decide +kernel) rfl
theorem ok_X11_winningDoor : nd_okN M_X11_winningDoor 2 := ⟨wc_X11_winningDoor, wn_X11, by decide +kernel, by decide +kernel, by decide +kernel⟩
theorem wi_X11_winningDoor : Cond.instanceMethod yX11_winningDoor ∈ nd_tbl := nd_ti (i := 1812) (by decide +kernel) rfl
theorem wl_X11_winningDoor : Cond.selects RX11 yX11_winningDoor yX11_winningDoor ∈ nd_tbl := nd_tp (i := 127) (by decide +kernel) rfl
theorem cl_X11_473 : nd_cv RX11 473 M_X11_winningDoor 2 10 := ⟨ok_X11_winningDoor, wi_X11_winningDoor, wl_X11_winningDoor, nd_ti (i := 1810) (by decide +kernel) rfl, TX11, 69, rfl⟩
theorem gf_X11_485 : nd_gf RX11 485 10 66 := ⟨RX11, TX11, 69, rfl, by decide, Or.inl (nd_ti (i := 1206) (by decide +kernel) rfl)⟩
theorem wc_X11_keepsLaw : Cond.code yX11_keepsLaw cX11_keepsLaw 2 none ∈ nd_tbl := nd_ti (i := 1829) (by decide +kernel) rfl
theorem ok_X11_keepsLaw : nd_okN M_X11_keepsLaw 0 := ⟨wc_X11_keepsLaw, wn_X11, by decide +kernel, by decide +kernel, by decide +kernel⟩
theorem wi_X11_keepsLaw : Cond.instanceMethod yX11_keepsLaw ∈ nd_tbl := nd_ti (i := 1828) (by decide +kernel) rfl
theorem wl_X11_keepsLaw : Cond.selects RX11 yX11_keepsLaw yX11_keepsLaw ∈ nd_tbl := nd_tp (i := 130) (by decide +kernel) rfl
theorem cl_X11_491 : nd_cv RX11 491 M_X11_keepsLaw 0 10 := ⟨ok_X11_keepsLaw, wi_X11_keepsLaw, wl_X11_keepsLaw, nd_ti (i := 1826) (by decide +kernel) rfl, TX11, 69, rfl⟩
theorem wc_X11_keepsTold : Cond.code yX11_keepsTold cX11_keepsTold 2 none ∈ nd_tbl := nd_ti (i := 1825) (by decide +kernel) rfl
theorem ok_X11_keepsTold : nd_okN M_X11_keepsTold 0 := ⟨wc_X11_keepsTold, wn_X11, by decide +kernel, by decide +kernel, by decide +kernel⟩
theorem wi_X11_keepsTold : Cond.instanceMethod yX11_keepsTold ∈ nd_tbl := nd_ti (i := 1824) (by decide +kernel) rfl
theorem wl_X11_keepsTold : Cond.selects RX11 yX11_keepsTold yX11_keepsTold ∈ nd_tbl := nd_tp (i := 129) (by decide +kernel) rfl
theorem cl_X11_488 : nd_cv RX11 488 M_X11_keepsTold 0 10 := ⟨ok_X11_keepsTold, wi_X11_keepsTold, wl_X11_keepsTold, nd_ti (i := 1822) (by decide +kernel) rfl, TX11, 69, rfl⟩
theorem pf_X11_479 : nd_pf RX11 479 10 65 .boolean false := ⟨RX11, TX11, 69, rfl, by decide, Or.inl (nd_ti (i := 1205) (by decide +kernel) rfl), rfl, by decide +kernel, fun h => absurd h (by decide)⟩
theorem pf_X11_485 : nd_pf RX11 485 10 66 .boolean false := ⟨RX11, TX11, 69, rfl, by decide, Or.inl (nd_ti (i := 1206) (by decide +kernel) rfl), rfl, by decide +kernel, fun h => absurd h (by decide)⟩
theorem wc_X11_isAbove : Cond.code yX11_isAbove cX11_isAbove 3 (some .boolean) ∈ nd_tbl := nd_ti (i := 1723) (by decide +kernel) rfl
theorem ok_X11_isAbove : nd_okN M_X11_isAbove 2 := ⟨wc_X11_isAbove, wn_X11, by decide +kernel, by decide +kernel, by decide +kernel⟩
theorem wi_X11_isAbove : Cond.instanceMethod yX11_isAbove ∈ nd_tbl := nd_ti (i := 1722) (by decide +kernel) rfl
theorem wl_X11_isAbove : Cond.selects RX11 yX11_isAbove yX11_isAbove ∈ nd_tbl := nd_tp (i := 115) (by decide +kernel) rfl
theorem cl_X11_420 : nd_cv RX11 420 M_X11_isAbove 2 10 := ⟨ok_X11_isAbove, wi_X11_isAbove, wl_X11_isAbove, nd_ti (i := 1720) (by decide +kernel) rfl, TX11, 69, rfl⟩
theorem wc_X11_runs : Cond.code yX11_runs cX11_runs 6 (some .int) ∈ nd_tbl := nd_ti (i := 1567) (by decide +kernel) rfl
theorem ok_X11_runs : nd_okN M_X11_runs 3 := ⟨wc_X11_runs, wn_X11, by decide +kernel, by decide +kernel, by decide +kernel⟩
theorem wi_X11_runs : Cond.instanceMethod yX11_runs ∈ nd_tbl := nd_ti (i := 1566) (by decide +kernel) rfl
theorem wl_X11_runs : Cond.selects RX11 yX11_runs yX11_runs ∈ nd_tbl := nd_tp (i := 91) (by decide +kernel) rfl
theorem cl_X11_310 : nd_cv RX11 310 M_X11_runs 3 10 := ⟨ok_X11_runs, wi_X11_runs, wl_X11_runs, nd_ti (i := 1564) (by decide +kernel) rfl, TX11, 69, rfl⟩
theorem gf_X11_104 : nd_gf RX11 104 10 53 := ⟨RX11, TX11, 69, rfl, by decide, Or.inl (nd_ti (i := 1193) (by decide +kernel) rfl)⟩
theorem wc_X11_roundOf : Cond.code yX11_roundOf cX11_roundOf 5 (some .int) ∈ nd_tbl := nd_ti (i := 1781) (by decide +kernel) rfl
theorem ok_X11_roundOf : nd_okN M_X11_roundOf 2 := ⟨wc_X11_roundOf, wn_X11, by decide +kernel, by decide +kernel, by decide +kernel⟩
theorem wi_X11_roundOf : Cond.instanceMethod yX11_roundOf ∈ nd_tbl := nd_ti (i := 1780) (by decide +kernel) rfl
theorem wl_X11_roundOf : Cond.selects RX11 yX11_roundOf yX11_roundOf ∈ nd_tbl := nd_tp (i := 122) (by decide +kernel) rfl
theorem cl_X11_458 : nd_cv RX11 458 M_X11_roundOf 2 10 := ⟨ok_X11_roundOf, wi_X11_roundOf, wl_X11_roundOf, nd_ti (i := 1778) (by decide +kernel) rfl, TX11, 69, rfl⟩
theorem gf_X11_162 : nd_gf RX11 162 10 10 := ⟨RX11, TX11, 69, rfl, by decide, Or.inl (nd_ti (i := 1150) (by decide +kernel) rfl)⟩
theorem pf_X11_162 : nd_pf RX11 162 10 10 .int false := ⟨RX11, TX11, 69, rfl, by decide, Or.inl (nd_ti (i := 1150) (by decide +kernel) rfl), rfl, by decide +kernel, fun h => absurd h (by decide)⟩
theorem wc_X11_raw : Cond.code yX11_raw cX11_raw 2 (some .int) ∈ nd_tbl := nd_ti (i := 1399) (by decide +kernel) rfl
theorem ok_X11_raw : nd_okN M_X11_raw 1 := ⟨wc_X11_raw, wn_X11, by decide +kernel, by decide +kernel, by decide +kernel⟩
theorem wi_X11_raw : Cond.instanceMethod yX11_raw ∈ nd_tbl := nd_ti (i := 1398) (by decide +kernel) rfl
theorem wl_X11_raw : Cond.selects RX11 yX11_raw yX11_raw ∈ nd_tbl := nd_tp (i := 51) (by decide +kernel) rfl
theorem cl_X11_165 : nd_cv RX11 165 M_X11_raw 1 10 := ⟨ok_X11_raw, wi_X11_raw, wl_X11_raw, nd_ti (i := 1396) (by decide +kernel) rfl, TX11, 69, rfl⟩
theorem wc_X11_isLetter : Cond.code yX11_isLetter cX11_isLetter 2 (some .boolean) ∈ nd_tbl := nd_ti (i := 1403) (by decide +kernel) rfl
theorem ok_X11_isLetter : nd_okN M_X11_isLetter 1 := ⟨wc_X11_isLetter, wn_X11, by decide +kernel, by decide +kernel, by decide +kernel⟩
theorem wi_X11_isLetter : Cond.instanceMethod yX11_isLetter ∈ nd_tbl := nd_ti (i := 1402) (by decide +kernel) rfl
theorem wl_X11_isLetter : Cond.selects RX11 yX11_isLetter yX11_isLetter ∈ nd_tbl := nd_tp (i := 52) (by decide +kernel) rfl
theorem cl_X11_178 : nd_cv RX11 178 M_X11_isLetter 1 10 := ⟨ok_X11_isLetter, wi_X11_isLetter, wl_X11_isLetter, nd_ti (i := 1400) (by decide +kernel) rfl, TX11, 69, rfl⟩
theorem wc_X11_wordAt : Cond.code yX11_wordAt cX11_wordAt 6 (some .int) ∈ nd_tbl := nd_ti (i := 1407) (by decide +kernel) rfl
theorem ok_X11_wordAt : nd_okN M_X11_wordAt 2 := ⟨wc_X11_wordAt, wn_X11, by decide +kernel, by decide +kernel, by decide +kernel⟩
theorem wi_X11_wordAt : Cond.instanceMethod yX11_wordAt ∈ nd_tbl := nd_ti (i := 1406) (by decide +kernel) rfl
theorem wl_X11_wordAt : Cond.selects RX11 yX11_wordAt yX11_wordAt ∈ nd_tbl := nd_tp (i := 53) (by decide +kernel) rfl
theorem cl_X11_181 : nd_cv RX11 181 M_X11_wordAt 2 10 := ⟨ok_X11_wordAt, wi_X11_wordAt, wl_X11_wordAt, nd_ti (i := 1404) (by decide +kernel) rfl, TX11, 69, rfl⟩
theorem pf_X11_175 : nd_pf RX11 175 10 13 .int false := ⟨RX11, TX11, 69, rfl, by decide, Or.inl (nd_ti (i := 1153) (by decide +kernel) rfl), rfl, by decide +kernel, fun h => absurd h (by decide)⟩
theorem pf_X11_172 : nd_pf RX11 172 10 12 .int false := ⟨RX11, TX11, 69, rfl, by decide, Or.inl (nd_ti (i := 1152) (by decide +kernel) rfl), rfl, by decide +kernel, fun h => absurd h (by decide)⟩
theorem wc_X11_isDigit : Cond.code yX11_isDigit cX11_isDigit 2 (some .boolean) ∈ nd_tbl := nd_ti (i := 1411) (by decide +kernel) rfl
theorem ok_X11_isDigit : nd_okN M_X11_isDigit 1 := ⟨wc_X11_isDigit, wn_X11, by decide +kernel, by decide +kernel, by decide +kernel⟩
theorem wi_X11_isDigit : Cond.instanceMethod yX11_isDigit ∈ nd_tbl := nd_ti (i := 1410) (by decide +kernel) rfl
theorem wl_X11_isDigit : Cond.selects RX11 yX11_isDigit yX11_isDigit ∈ nd_tbl := nd_tp (i := 54) (by decide +kernel) rfl
theorem cl_X11_185 : nd_cv RX11 185 M_X11_isDigit 1 10 := ⟨ok_X11_isDigit, wi_X11_isDigit, wl_X11_isDigit, nd_ti (i := 1408) (by decide +kernel) rfl, TX11, 69, rfl⟩
theorem pf_X11_169 : nd_pf RX11 169 10 11 .int false := ⟨RX11, TX11, 69, rfl, by decide, Or.inl (nd_ti (i := 1151) (by decide +kernel) rfl), rfl, by decide +kernel, fun h => absurd h (by decide)⟩
theorem wc_X11_isMarkSign : Cond.code yX11_isMarkSign cX11_isMarkSign 2 (some .boolean) ∈ nd_tbl := nd_ti (i := 1415) (by decide +kernel) rfl
theorem ok_X11_isMarkSign : nd_okN M_X11_isMarkSign 1 := ⟨wc_X11_isMarkSign, wn_X11, by decide +kernel, by decide +kernel, by decide +kernel⟩
