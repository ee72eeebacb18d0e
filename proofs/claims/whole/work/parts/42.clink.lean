theorem wob_i : Cond.instanceMethod objectInit ∈ nd_tbl := nd_ti (i := 28) (by decide +kernel) rfl
theorem wob_c : Cond.code objectInit ⟨#[0xb1]⟩ 1 none ∈ nd_tbl := nd_ti (i := 29) (by decide +kernel) rfl
theorem warr : Cond.arrayClass .int ∈ nd_tbl := nd_ti (i := 79) (by decide +kernel) rfl
theorem ib_96 : (Int8.ofInt 96).toInt32 = (96 : Int32) := by decide
theorem is_401 : (Int16.ofInt 401).toInt32 = (401 : Int32) := by decide
theorem is_196 : (Int16.ofInt 196).toInt32 = (196 : Int32) := by decide
theorem is_618 : (Int16.ofInt 618).toInt32 = (618 : Int32) := by decide
theorem is_134 : (Int16.ofInt 134).toInt32 = (134 : Int32) := by decide
theorem ib_111 : (Int8.ofInt 111).toInt32 = (111 : Int32) := by decide
theorem ib_101 : (Int8.ofInt 101).toInt32 = (101 : Int32) := by decide
theorem ib_115 : (Int8.ofInt 115).toInt32 = (115 : Int32) := by decide
theorem ib_98 : (Int8.ofInt 98).toInt32 = (98 : Int32) := by decide
theorem ib_114 : (Int8.ofInt 114).toInt32 = (114 : Int32) := by decide
theorem ib_105 : (Int8.ofInt 105).toInt32 = (105 : Int32) := by decide
theorem ib_110 : (Int8.ofInt 110).toInt32 = (110 : Int32) := by decide
theorem ib_119 : (Int8.ofInt 119).toInt32 = (119 : Int32) := by decide
theorem ib_104 : (Int8.ofInt 104).toInt32 = (104 : Int32) := by decide
theorem ib_25 : (Int8.ofInt 25).toInt32 = (25 : Int32) := by decide
theorem ib_26 : (Int8.ofInt 26).toInt32 = (26 : Int32) := by decide
theorem ib_27 : (Int8.ofInt 27).toInt32 = (27 : Int32) := by decide
theorem ib_28 : (Int8.ofInt 28).toInt32 = (28 : Int32) := by decide
theorem ib_29 : (Int8.ofInt 29).toInt32 = (29 : Int32) := by decide
theorem ib_30 : (Int8.ofInt 30).toInt32 = (30 : Int32) := by decide
theorem ib_33 : (Int8.ofInt 33).toInt32 = (33 : Int32) := by decide
theorem ib_116 : (Int8.ofInt 116).toInt32 = (116 : Int32) := by decide
theorem ib_34 : (Int8.ofInt 34).toInt32 = (34 : Int32) := by decide
theorem ib_35 : (Int8.ofInt 35).toInt32 = (35 : Int32) := by decide
theorem ib_36 : (Int8.ofInt 36).toInt32 = (36 : Int32) := by decide
theorem ib_37 : (Int8.ofInt 37).toInt32 = (37 : Int32) := by decide
theorem ib_38 : (Int8.ofInt 38).toInt32 = (38 : Int32) := by decide
theorem ib_108 : (Int8.ofInt 108).toInt32 = (108 : Int32) := by decide
theorem ib_121 : (Int8.ofInt 121).toInt32 = (121 : Int32) := by decide
theorem ib_44 : (Int8.ofInt 44).toInt32 = (44 : Int32) := by decide
theorem ib_46 : (Int8.ofInt 46).toInt32 = (46 : Int32) := by decide
theorem ib_99 : (Int8.ofInt 99).toInt32 = (99 : Int32) := by decide
theorem ib_117 : (Int8.ofInt 117).toInt32 = (117 : Int32) := by decide
theorem ib_49 : (Int8.ofInt 49).toInt32 = (49 : Int32) := by decide
theorem ib_112 : (Int8.ofInt 112).toInt32 = (112 : Int32) := by decide
theorem ib_50 : (Int8.ofInt 50).toInt32 = (50 : Int32) := by decide
theorem ib_51 : (Int8.ofInt 51).toInt32 = (51 : Int32) := by decide
theorem ib_53 : (Int8.ofInt 53).toInt32 = (53 : Int32) := by decide
theorem ib_54 : (Int8.ofInt 54).toInt32 = (54 : Int32) := by decide
theorem ib_58 : (Int8.ofInt 58).toInt32 = (58 : Int32) := by decide
theorem ib_66 : (Int8.ofInt 66).toInt32 = (66 : Int32) := by decide
theorem ib_67 : (Int8.ofInt 67).toInt32 = (67 : Int32) := by decide
theorem ib_68 : (Int8.ofInt 68).toInt32 = (68 : Int32) := by decide
theorem ib_109 : (Int8.ofInt 109).toInt32 = (109 : Int32) := by decide
theorem ib_69 : (Int8.ofInt 69).toInt32 = (69 : Int32) := by decide
theorem ib_70 : (Int8.ofInt 70).toInt32 = (70 : Int32) := by decide
theorem ib_72 : (Int8.ofInt 72).toInt32 = (72 : Int32) := by decide
theorem ib_73 : (Int8.ofInt 73).toInt32 = (73 : Int32) := by decide
theorem ib_74 : (Int8.ofInt 74).toInt32 = (74 : Int32) := by decide
theorem ib_75 : (Int8.ofInt 75).toInt32 = (75 : Int32) := by decide
theorem ib_76 : (Int8.ofInt 76).toInt32 = (76 : Int32) := by decide
theorem ib_77 : (Int8.ofInt 77).toInt32 = (77 : Int32) := by decide
theorem ib_78 : (Int8.ofInt 78).toInt32 = (78 : Int32) := by decide
theorem ib_106 : (Int8.ofInt 106).toInt32 = (106 : Int32) := by decide
theorem ib_79 : (Int8.ofInt 79).toInt32 = (79 : Int32) := by decide
theorem ib_80 : (Int8.ofInt 80).toInt32 = (80 : Int32) := by decide
theorem ib_81 : (Int8.ofInt 81).toInt32 = (81 : Int32) := by decide
theorem ib_82 : (Int8.ofInt 82).toInt32 = (82 : Int32) := by decide
theorem ib_83 : (Int8.ofInt 83).toInt32 = (83 : Int32) := by decide
theorem ib_84 : (Int8.ofInt 84).toInt32 = (84 : Int32) := by decide
theorem ib_85 : (Int8.ofInt 85).toInt32 = (85 : Int32) := by decide
theorem ib_86 : (Int8.ofInt 86).toInt32 = (86 : Int32) := by decide
theorem ib_88 : (Int8.ofInt 88).toInt32 = (88 : Int32) := by decide
theorem ib_89 : (Int8.ofInt 89).toInt32 = (89 : Int32) := by decide
theorem ib_91 : (Int8.ofInt 91).toInt32 = (91 : Int32) := by decide
theorem ib_92 : (Int8.ofInt 92).toInt32 = (92 : Int32) := by decide
theorem ib_93 : (Int8.ofInt 93).toInt32 = (93 : Int32) := by decide
theorem ib_94 : (Int8.ofInt 94).toInt32 = (94 : Int32) := by decide
theorem ib_95 : (Int8.ofInt 95).toInt32 = (95 : Int32) := by decide
theorem ib_102 : (Int8.ofInt 102).toInt32 = (102 : Int32) := by decide
theorem ib_107 : (Int8.ofInt 107).toInt32 = (107 : Int32) := by decide
theorem ib_113 : (Int8.ofInt 113).toInt32 = (113 : Int32) := by decide
theorem ib_118 : (Int8.ofInt 118).toInt32 = (118 : Int32) := by decide
theorem ib_120 : (Int8.ofInt 120).toInt32 = (120 : Int32) := by decide
theorem ib_123 : (Int8.ofInt 123).toInt32 = (123 : Int32) := by decide
theorem ib_124 : (Int8.ofInt 124).toInt32 = (124 : Int32) := by decide
theorem ib_125 : (Int8.ofInt 125).toInt32 = (125 : Int32) := by decide
theorem ib_126 : (Int8.ofInt 126).toInt32 = (126 : Int32) := by decide
theorem ib_127 : (Int8.ofInt 127).toInt32 = (127 : Int32) := by decide
theorem is_128 : (Int16.ofInt 128).toInt32 = (128 : Int32) := by decide
theorem is_129 : (Int16.ofInt 129).toInt32 = (129 : Int32) := by decide
theorem is_130 : (Int16.ofInt 130).toInt32 = (130 : Int32) := by decide
theorem is_131 : (Int16.ofInt 131).toInt32 = (131 : Int32) := by decide
theorem is_132 : (Int16.ofInt 132).toInt32 = (132 : Int32) := by decide
theorem is_1200 : (Int16.ofInt 1200).toInt32 = (1200 : Int32) := by decide
theorem is_420 : (Int16.ofInt 420).toInt32 = (420 : Int32) := by decide
theorem is_4608 : (Int16.ofInt 4608).toInt32 = (4608 : Int32) := by decide
theorem is_4096 : (Int16.ofInt 4096).toInt32 = (4096 : Int32) := by decide
theorem is_2400 : (Int16.ofInt 2400).toInt32 = (2400 : Int32) := by decide
theorem lk_X4_3 : Cond.methodLink RX4 3 objectInit ∈ nd_tbl := nd_ti (i := 91) (by decide +kernel) rfl
theorem lk_X4_9 : Cond.methodLink RX4 9 Lib.Math.max.name ∈ nd_tbl := nd_ti (i := 92) (by decide +kernel) rfl
theorem pf_X4_15 : nd_pf RX4 15 3 0 (.array .int) true := ⟨RX4, TX4, 2, rfl, by decide, Or.inl (nd_ti (i := 95) (by decide +kernel) rfl), rfl, by decide +kernel, fun _ => rfl⟩
theorem lk_X6_3 : Cond.methodLink RX6 3 objectInit ∈ nd_tbl := nd_ti (i := 35) (by decide +kernel) rfl
theorem pf_X6_9 : nd_pf RX6 9 5 0 (.array .int) true := ⟨RX6, TX6, 9, rfl, by decide, Or.inl (nd_ti (i := 36) (by decide +kernel) rfl), rfl, by decide +kernel, fun _ => rfl⟩
theorem lk_X5_3 : Cond.methodLink RX5 3 objectInit ∈ nd_tbl := nd_ti (i := 85) (by decide +kernel) rfl
theorem nf_X5_9 : nd_nf RX5 9 3 [(fun _ => .null), Value.int] := ⟨RX4, TX4, 2, rfl, nd_ti (i := 86) (by decide +kernel) rfl, nd_ti (i := 87) (by decide +kernel) rfl, wn_X4, rfl, by decide +kernel⟩
theorem wc_X4_init : Cond.code yX4_init cX4_init 2 none ∈ nd_tbl := nd_ti (i := 90) (by decide +kernel) rfl
theorem ok_X4_init : nd_okN M_X4_init 1 := ⟨wc_X4_init, wn_X4, by decide +kernel, by decide +kernel, by decide +kernel⟩
theorem wi_X4_init : Cond.instanceMethod yX4_init ∈ nd_tbl := nd_ti (i := 89) (by decide +kernel) rfl
theorem lk_X5_11 : Cond.methodLink RX5 11 yX4_init ∈ nd_tbl := nd_ti (i := 88) (by decide +kernel) rfl
theorem pf_X5_14 : nd_pf RX5 14 4 0 (.object "NextDoorBrides$Row") true := ⟨RX5, TX5, 7, rfl, by decide, Or.inl (nd_ti (i := 107) (by decide +kernel) rfl), rfl, by decide +kernel, fun _ => rfl⟩
theorem pf_X5_20 : nd_pf RX5 20 4 1 (.object "NextDoorBrides$Row") true := ⟨RX5, TX5, 7, rfl, by decide, Or.inl (nd_ti (i := 109) (by decide +kernel) rfl), rfl, by decide +kernel, fun _ => rfl⟩
theorem pf_X5_23 : nd_pf RX5 23 4 2 (.object "NextDoorBrides$Row") true := ⟨RX5, TX5, 7, rfl, by decide, Or.inl (nd_ti (i := 112) (by decide +kernel) rfl), rfl, by decide +kernel, fun _ => rfl⟩
theorem pf_X5_26 : nd_pf RX5 26 4 3 (.array .int) true := ⟨RX5, TX5, 7, rfl, by decide, Or.inl (nd_ti (i := 114) (by decide +kernel) rfl), rfl, by decide +kernel, fun _ => rfl⟩
theorem lk_X8_3 : Cond.methodLink RX8 3 objectInit ∈ nd_tbl := nd_ti (i := 138) (by decide +kernel) rfl
theorem nf_X8_9 : nd_nf RX8 9 3 [(fun _ => .null), Value.int] := ⟨RX4, TX4, 2, rfl, nd_ti (i := 139) (by decide +kernel) rfl, nd_ti (i := 87) (by decide +kernel) rfl, wn_X4, rfl, by decide +kernel⟩
theorem lk_X8_11 : Cond.methodLink RX8 11 yX4_init ∈ nd_tbl := nd_ti (i := 140) (by decide +kernel) rfl
theorem pf_X8_14 : nd_pf RX8 14 7 0 (.object "NextDoorBrides$Row") true := ⟨RX8, TX8, 6, rfl, by decide, Or.inl (nd_ti (i := 144) (by decide +kernel) rfl), rfl, by decide +kernel, fun _ => rfl⟩
theorem pf_X8_20 : nd_pf RX8 20 7 1 (.object "NextDoorBrides$Row") true := ⟨RX8, TX8, 6, rfl, by decide, Or.inl (nd_ti (i := 147) (by decide +kernel) rfl), rfl, by decide +kernel, fun _ => rfl⟩
theorem pf_X8_23 : nd_pf RX8 23 7 2 (.object "NextDoorBrides$Row") true := ⟨RX8, TX8, 6, rfl, by decide, Or.inl (nd_ti (i := 150) (by decide +kernel) rfl), rfl, by decide +kernel, fun _ => rfl⟩
theorem pf_X8_26 : nd_pf RX8 26 7 3 (.object "NextDoorBrides$Row") true := ⟨RX8, TX8, 6, rfl, by decide, Or.inl (nd_ti (i := 153) (by decide +kernel) rfl), rfl, by decide +kernel, fun _ => rfl⟩
theorem pf_X8_29 : nd_pf RX8 29 7 4 (.object "NextDoorBrides$Row") true := ⟨RX8, TX8, 6, rfl, by decide, Or.inl (nd_ti (i := 156) (by decide +kernel) rfl), rfl, by decide +kernel, fun _ => rfl⟩
theorem pf_X8_32 : nd_pf RX8 32 7 5 (.array .int) true := ⟨RX8, TX8, 6, rfl, by decide, Or.inl (nd_ti (i := 159) (by decide +kernel) rfl), rfl, by decide +kernel, fun _ => rfl⟩
theorem cl_X8_36 : nd_cs RX8 36 M_J7_fill_53178 2 := ⟨ok_J7_fill_53178, ws_J7_fill_53178, Or.inl (nd_ti (i := 141) (by decide +kernel) rfl)⟩
theorem lk_X1_3 : Cond.methodLink RX1 3 objectInit ∈ nd_tbl := nd_ti (i := 180) (by decide +kernel) rfl
theorem an_X1_9 : Cond.classLink RX1 9 "NextDoorBrides$Street" ∈ nd_tbl := nd_ti (i := 181) (by decide +kernel) rfl
theorem pf_X1_11 : nd_pf RX1 11 0 0 (.array (.object "NextDoorBrides$Street")) true := ⟨RX1, TX1, 3, rfl, by decide, Or.inl (nd_ti (i := 184) (by decide +kernel) rfl), rfl, by decide +kernel, fun _ => rfl⟩
theorem nf_X1_9 : nd_nf RX1 9 5 [(fun _ => .null), Value.int, Value.int, Value.int, Value.int, Value.int, Value.int, Value.int, Value.int] := ⟨RX6, TX6, 9, rfl, nd_ti (i := 181) (by decide +kernel) rfl, nd_ti (i := 31) (by decide +kernel) rfl, wn_X6, rfl, by decide +kernel⟩
theorem wc_X6_init : Cond.code yX6_init cX6_init 1 none ∈ nd_tbl := nd_ti (i := 34) (by decide +kernel) rfl
theorem ok_X6_init : nd_okN M_X6_init 0 := ⟨wc_X6_init, wn_X6, by decide +kernel, by decide +kernel, by decide +kernel⟩
theorem wi_X6_init : Cond.instanceMethod yX6_init ∈ nd_tbl := nd_ti (i := 33) (by decide +kernel) rfl
theorem lk_X1_17 : Cond.methodLink RX1 17 yX6_init ∈ nd_tbl := nd_ti (i := 183) (by decide +kernel) rfl
theorem lk_X3_3 : Cond.methodLink RX3 3 objectInit ∈ nd_tbl := nd_ti (i := 200) (by decide +kernel) rfl
theorem nf_X3_9 : nd_nf RX3 9 4 [(fun _ => .null), (fun _ => .null), (fun _ => .null), (fun _ => .null), Value.int, Value.int, Value.int] := ⟨RX5, TX5, 7, rfl, nd_ti (i := 201) (by decide +kernel) rfl, nd_ti (i := 81) (by decide +kernel) rfl, wn_X5, rfl, by decide +kernel⟩
theorem wc_X5_init : Cond.code yX5_init cX5_init 1 none ∈ nd_tbl := nd_ti (i := 84) (by decide +kernel) rfl
theorem ok_X5_init : nd_okN M_X5_init 0 := ⟨wc_X5_init, wn_X5, by decide +kernel, by decide +kernel, by decide +kernel⟩
theorem wi_X5_init : Cond.instanceMethod yX5_init ∈ nd_tbl := nd_ti (i := 83) (by decide +kernel) rfl
theorem lk_X3_11 : Cond.methodLink RX3 11 yX5_init ∈ nd_tbl := nd_ti (i := 202) (by decide +kernel) rfl
theorem pf_X3_12 : nd_pf RX3 12 2 0 (.object "NextDoorBrides$Rules") true := ⟨RX3, TX3, 15, rfl, by decide, Or.inl (nd_ti (i := 204) (by decide +kernel) rfl), rfl, by decide +kernel, fun _ => rfl⟩
theorem pf_X3_18 : nd_pf RX3 18 2 1 (.array .int) true := ⟨RX3, TX3, 15, rfl, by decide, Or.inl (nd_ti (i := 206) (by decide +kernel) rfl), rfl, by decide +kernel, fun _ => rfl⟩
theorem pf_X3_22 : nd_pf RX3 22 2 7 (.array .int) true := ⟨RX3, TX3, 15, rfl, by decide, Or.inl (nd_ti (i := 214) (by decide +kernel) rfl), rfl, by decide +kernel, fun _ => rfl⟩
theorem pf_X3_25 : nd_pf RX3 25 2 8 (.array .int) true := ⟨RX3, TX3, 15, rfl, by decide, Or.inl (nd_ti (i := 215) (by decide +kernel) rfl), rfl, by decide +kernel, fun _ => rfl⟩
theorem pf_X3_28 : nd_pf RX3 28 2 9 (.array .int) true := ⟨RX3, TX3, 15, rfl, by decide, Or.inl (nd_ti (i := 216) (by decide +kernel) rfl), rfl, by decide +kernel, fun _ => rfl⟩
theorem lk_X9_3 : Cond.methodLink RX9 3 objectInit ∈ nd_tbl := nd_ti (i := 259) (by decide +kernel) rfl
theorem pf_X9_9 : nd_pf RX9 9 8 0 (.object "NextDoorBrides$Street") true := ⟨RX9, TX9, 6, rfl, by decide, Or.inl (nd_ti (i := 260) (by decide +kernel) rfl), rfl, by decide +kernel, fun _ => rfl⟩
theorem pf_X9_15 : nd_pf RX9 15 8 1 (.object "NextDoorBrides$Rules") true := ⟨RX9, TX9, 6, rfl, by decide, Or.inl (nd_ti (i := 261) (by decide +kernel) rfl), rfl, by decide +kernel, fun _ => rfl⟩
theorem pf_X9_19 : nd_pf RX9 19 8 2 (.array .int) true := ⟨RX9, TX9, 6, rfl, by decide, Or.inl (nd_ti (i := 262) (by decide +kernel) rfl), rfl, by decide +kernel, fun _ => rfl⟩
theorem pf_X9_23 : nd_pf RX9 23 8 3 .boolean true := ⟨RX9, TX9, 6, rfl, by decide, Or.inl (nd_ti (i := 263) (by decide +kernel) rfl), rfl, by decide +kernel, fun _ => rfl⟩
theorem pf_X9_27 : nd_pf RX9 27 8 4 (.array .int) true := ⟨RX9, TX9, 6, rfl, by decide, Or.inl (nd_ti (i := 264) (by decide +kernel) rfl), rfl, by decide +kernel, fun _ => rfl⟩
theorem lk_X7_3 : Cond.methodLink RX7 3 objectInit ∈ nd_tbl := nd_ti (i := 284) (by decide +kernel) rfl
theorem pf_X7_9 : nd_pf RX7 9 6 0 (.object "NextDoorBrides$Told") true := ⟨RX7, TX7, 3, rfl, by decide, Or.inl (nd_ti (i := 293) (by decide +kernel) rfl), rfl, by decide +kernel, fun _ => rfl⟩
theorem pf_X7_15 : nd_pf RX7 15 6 1 (.array .int) true := ⟨RX7, TX7, 3, rfl, by decide, Or.inl (nd_ti (i := 294) (by decide +kernel) rfl), rfl, by decide +kernel, fun _ => rfl⟩
theorem pf_X7_19 : nd_pf RX7 19 6 2 (.array .int) true := ⟨RX7, TX7, 3, rfl, by decide, Or.inl (nd_ti (i := 295) (by decide +kernel) rfl), rfl, by decide +kernel, fun _ => rfl⟩
theorem wc_X7_worthOf : Cond.code yX7_worthOf cX7_worthOf 4 (some .int) ∈ nd_tbl := nd_ti (i := 288) (by decide +kernel) rfl
theorem ok_X7_worthOf : nd_okN M_X7_worthOf 1 := ⟨wc_X7_worthOf, wn_X7, by decide +kernel, by decide +kernel, by decide +kernel⟩
theorem wi_X7_worthOf : Cond.instanceMethod yX7_worthOf ∈ nd_tbl := nd_ti (i := 287) (by decide +kernel) rfl
theorem wl_X7_worthOf : Cond.selects RX7 yX7_worthOf yX7_worthOf ∈ nd_tbl := nd_tp (i := 0) (by decide +kernel) rfl
theorem cl_X7_22 : nd_cv RX7 22 M_X7_worthOf 1 6 := ⟨ok_X7_worthOf, wi_X7_worthOf, wl_X7_worthOf, nd_ti (i := 285) (by decide +kernel) rfl, TX7, 3, rfl⟩
theorem lk_X10_1 : Cond.methodLink RX10 1 objectInit ∈ nd_tbl := nd_ti (i := 27) (by decide +kernel) rfl
theorem nf_X10_7 : nd_nf RX10 7 5 [(fun _ => .null), Value.int, Value.int, Value.int, Value.int, Value.int, Value.int, Value.int, Value.int] := ⟨RX6, TX6, 9, rfl, nd_ti (i := 30) (by decide +kernel) rfl, nd_ti (i := 31) (by decide +kernel) rfl, wn_X6, rfl, by decide +kernel⟩
theorem lk_X10_9 : Cond.methodLink RX10 9 yX6_init ∈ nd_tbl := nd_ti (i := 32) (by decide +kernel) rfl
theorem pf_X10_10 : nd_pf RX10 10 9 0 (.object "NextDoorBrides$Street") true := ⟨RX10, TX10, 11, rfl, by decide, Or.inl (nd_ti (i := 303) (by decide +kernel) rfl), rfl, by decide +kernel, fun _ => rfl⟩
theorem nf_X10_16 : nd_nf RX10 16 4 [(fun _ => .null), (fun _ => .null), (fun _ => .null), (fun _ => .null), Value.int, Value.int, Value.int] := ⟨RX5, TX5, 7, rfl, nd_ti (i := 80) (by decide +kernel) rfl, nd_ti (i := 81) (by decide +kernel) rfl, wn_X5, rfl, by decide +kernel⟩
theorem lk_X10_18 : Cond.methodLink RX10 18 yX5_init ∈ nd_tbl := nd_ti (i := 82) (by decide +kernel) rfl
theorem pf_X10_19 : nd_pf RX10 19 9 1 (.object "NextDoorBrides$Rules") true := ⟨RX10, TX10, 11, rfl, by decide, Or.inl (nd_ti (i := 304) (by decide +kernel) rfl), rfl, by decide +kernel, fun _ => rfl⟩
theorem pf_X10_23 : nd_pf RX10 23 9 2 (.array .int) true := ⟨RX10, TX10, 11, rfl, by decide, Or.inl (nd_ti (i := 305) (by decide +kernel) rfl), rfl, by decide +kernel, fun _ => rfl⟩
theorem wn_X8 : Cond.initialized RX8 ∈ nd_tbl := nd_ti (i := 6) (by decide +kernel) rfl
theorem nf_X10_27 : nd_nf RX10 27 7 [(fun _ => .null), (fun _ => .null), (fun _ => .null), (fun _ => .null), (fun _ => .null), (fun _ => .null)] := ⟨RX8, TX8, 6, rfl, nd_ti (i := 133) (by decide +kernel) rfl, nd_ti (i := 134) (by decide +kernel) rfl, wn_X8, rfl, by decide +kernel⟩
theorem wc_X8_init : Cond.code yX8_init cX8_init 1 none ∈ nd_tbl := nd_ti (i := 137) (by decide +kernel) rfl
theorem ok_X8_init : nd_okN M_X8_init 0 := ⟨wc_X8_init, wn_X8, by decide +kernel, by decide +kernel, by decide +kernel⟩
theorem wi_X8_init : Cond.instanceMethod yX8_init ∈ nd_tbl := nd_ti (i := 136) (by decide +kernel) rfl
theorem lk_X10_29 : Cond.methodLink RX10 29 yX8_init ∈ nd_tbl := nd_ti (i := 135) (by decide +kernel) rfl
theorem pf_X10_30 : nd_pf RX10 30 9 3 (.object "NextDoorBrides$Told") true := ⟨RX10, TX10, 11, rfl, by decide, Or.inl (nd_ti (i := 306) (by decide +kernel) rfl), rfl, by decide +kernel, fun _ => rfl⟩
theorem nf_X10_34 : nd_nf RX10 34 0 [(fun _ => .null), Value.int, Value.int] := ⟨RX1, TX1, 3, rfl, nd_ti (i := 175) (by decide +kernel) rfl, nd_ti (i := 176) (by decide +kernel) rfl, wn_X1, rfl, by decide +kernel⟩
theorem wc_X1_init : Cond.code yX1_init cX1_init 2 none ∈ nd_tbl := nd_ti (i := 179) (by decide +kernel) rfl
theorem ok_X1_init : nd_okN M_X1_init 0 := ⟨wc_X1_init, wn_X1, by decide +kernel, by decide +kernel, by decide +kernel⟩
theorem wi_X1_init : Cond.instanceMethod yX1_init ∈ nd_tbl := nd_ti (i := 178) (by decide +kernel) rfl
theorem lk_X10_36 : Cond.methodLink RX10 36 yX1_init ∈ nd_tbl := nd_ti (i := 177) (by decide +kernel) rfl
theorem pf_X10_37 : nd_pf RX10 37 9 4 (.object "NextDoorBrides$Past") true := ⟨RX10, TX10, 11, rfl, by decide, Or.inl (nd_ti (i := 307) (by decide +kernel) rfl), rfl, by decide +kernel, fun _ => rfl⟩
theorem nf_X10_41 : nd_nf RX10 41 2 [(fun _ => .null), (fun _ => .null), Value.int, Value.int, Value.int, (fun _ => .null), Value.int, (fun _ => .null), (fun _ => .null), (fun _ => .null), Value.int, Value.int, Value.int, Value.int, Value.int] := ⟨RX3, TX3, 15, rfl, nd_ti (i := 195) (by decide +kernel) rfl, nd_ti (i := 196) (by decide +kernel) rfl, wn_X3, rfl, by decide +kernel⟩
theorem wc_X3_init : Cond.code yX3_init cX3_init 1 none ∈ nd_tbl := nd_ti (i := 199) (by decide +kernel) rfl
theorem ok_X3_init : nd_okN M_X3_init 0 := ⟨wc_X3_init, wn_X3, by decide +kernel, by decide +kernel, by decide +kernel⟩
theorem wi_X3_init : Cond.instanceMethod yX3_init ∈ nd_tbl := nd_ti (i := 198) (by decide +kernel) rfl
theorem lk_X10_43 : Cond.methodLink RX10 43 yX3_init ∈ nd_tbl := nd_ti (i := 197) (by decide +kernel) rfl
theorem pf_X10_44 : nd_pf RX10 44 9 5 (.object "NextDoorBrides$Reader") true := ⟨RX10, TX10, 11, rfl, by decide, Or.inl (nd_ti (i := 308) (by decide +kernel) rfl), rfl, by decide +kernel, fun _ => rfl⟩
theorem nf_X10_48 : nd_nf RX10 48 8 [(fun _ => .null), (fun _ => .null), (fun _ => .null), Value.int, (fun _ => .null), Value.int] := ⟨RX9, TX9, 6, rfl, nd_ti (i := 254) (by decide +kernel) rfl, nd_ti (i := 255) (by decide +kernel) rfl, wn_X9, rfl, by decide +kernel⟩
theorem wc_X9_init : Cond.code yX9_init cX9_init 5 none ∈ nd_tbl := nd_ti (i := 258) (by decide +kernel) rfl
theorem ok_X9_init : nd_okN M_X9_init 4 := ⟨wc_X9_init, wn_X9, by decide +kernel, by decide +kernel, by decide +kernel⟩
theorem wi_X9_init : Cond.instanceMethod yX9_init ∈ nd_tbl := nd_ti (i := 257) (by decide +kernel) rfl
theorem lk_X10_50 : Cond.methodLink RX10 50 yX9_init ∈ nd_tbl := nd_ti (i := 256) (by decide +kernel) rfl
theorem pf_X10_53 : nd_pf RX10 53 9 6 (.object "NextDoorBrides$Walk") true := ⟨RX10, TX10, 11, rfl, by decide, Or.inl (nd_ti (i := 309) (by decide +kernel) rfl), rfl, by decide +kernel, fun _ => rfl⟩
theorem pf_X10_57 : nd_pf RX10 57 9 7 (.object "NextDoorBrides$Street") true := ⟨RX10, TX10, 11, rfl, by decide, Or.inl (nd_ti (i := 310) (by decide +kernel) rfl), rfl, by decide +kernel, fun _ => rfl⟩
theorem pf_X10_60 : nd_pf RX10 60 9 8 (.object "NextDoorBrides$Walk") true := ⟨RX10, TX10, 11, rfl, by decide, Or.inl (nd_ti (i := 311) (by decide +kernel) rfl), rfl, by decide +kernel, fun _ => rfl⟩
theorem nf_X10_63 : nd_nf RX10 63 6 [(fun _ => .null), (fun _ => .null), (fun _ => .null)] := ⟨RX7, TX7, 3, rfl, nd_ti (i := 279) (by decide +kernel) rfl, nd_ti (i := 280) (by decide +kernel) rfl, wn_X7, rfl, by decide +kernel⟩
theorem wc_X7_init : Cond.code yX7_init cX7_init 3 none ∈ nd_tbl := nd_ti (i := 283) (by decide +kernel) rfl
theorem ok_X7_init : nd_okN M_X7_init 1 := ⟨wc_X7_init, wn_X7, by decide +kernel, by decide +kernel, by decide +kernel⟩
theorem wi_X7_init : Cond.instanceMethod yX7_init ∈ nd_tbl := nd_ti (i := 282) (by decide +kernel) rfl
theorem lk_X10_65 : Cond.methodLink RX10 65 yX7_init ∈ nd_tbl := nd_ti (i := 281) (by decide +kernel) rfl
theorem pf_X10_68 : nd_pf RX10 68 9 9 (.object "NextDoorBrides$Thoughts") true := ⟨RX10, TX10, 11, rfl, by decide, Or.inl (nd_ti (i := 312) (by decide +kernel) rfl), rfl, by decide +kernel, fun _ => rfl⟩
theorem gf_X10_72 : nd_gf RX10 72 9 10 := ⟨RX10, TX10, 11, rfl, by decide, Or.inl (nd_ti (i := 313) (by decide +kernel) rfl)⟩
theorem pf_X10_72 : nd_pf RX10 72 9 10 (.object "NextDoorBrides$Picture") false := ⟨RX10, TX10, 11, rfl, by decide, Or.inl (nd_ti (i := 313) (by decide +kernel) rfl), rfl, by decide +kernel, fun h => absurd h (by decide)⟩
theorem lk_X11_1 : Cond.methodLink RX11 1 objectInit ∈ nd_tbl := nd_ti (i := 1138) (by decide +kernel) rfl
theorem pf_X11_7 : nd_pf RX11 7 10 1 (.array .int) true := ⟨RX11, TX11, 69, rfl, by decide, Or.inl (nd_ti (i := 1141) (by decide +kernel) rfl), rfl, by decide +kernel, fun _ => rfl⟩
theorem pf_X11_13 : nd_pf RX11 13 10 2 (.array .int) true := ⟨RX11, TX11, 69, rfl, by decide, Or.inl (nd_ti (i := 1142) (by decide +kernel) rfl), rfl, by decide +kernel, fun _ => rfl⟩
theorem pf_X11_16 : nd_pf RX11 16 10 4 (.array .int) true := ⟨RX11, TX11, 69, rfl, by decide, Or.inl (nd_ti (i := 1144) (by decide +kernel) rfl), rfl, by decide +kernel, fun _ => rfl⟩
theorem pf_X11_19 : nd_pf RX11 19 10 7 (.array .int) true := ⟨RX11, TX11, 69, rfl, by decide, Or.inl (nd_ti (i := 1147) (by decide +kernel) rfl), rfl, by decide +kernel, fun _ => rfl⟩
theorem pf_X11_22 : nd_pf RX11 22 10 8 (.array .int) true := ⟨RX11, TX11, 69, rfl, by decide, Or.inl (nd_ti (i := 1148) (by decide +kernel) rfl), rfl, by decide +kernel, fun _ => rfl⟩
theorem pf_X11_25 : nd_pf RX11 25 10 14 (.array .int) true := ⟨RX11, TX11, 69, rfl, by decide, Or.inl (nd_ti (i := 1154) (by decide +kernel) rfl), rfl, by decide +kernel, fun _ => rfl⟩
theorem pf_X11_28 : nd_pf RX11 28 10 15 (.array .int) true := ⟨RX11, TX11, 69, rfl, by decide, Or.inl (nd_ti (i := 1155) (by decide +kernel) rfl), rfl, by decide +kernel, fun _ => rfl⟩
theorem pf_X11_31 : nd_pf RX11 31 10 16 (.array .int) true := ⟨RX11, TX11, 69, rfl, by decide, Or.inl (nd_ti (i := 1156) (by decide +kernel) rfl), rfl, by decide +kernel, fun _ => rfl⟩
theorem pf_X11_34 : nd_pf RX11 34 10 17 (.array .int) true := ⟨RX11, TX11, 69, rfl, by decide, Or.inl (nd_ti (i := 1157) (by decide +kernel) rfl), rfl, by decide +kernel, fun _ => rfl⟩
theorem pf_X11_37 : nd_pf RX11 37 10 18 (.array .int) true := ⟨RX11, TX11, 69, rfl, by decide, Or.inl (nd_ti (i := 1158) (by decide +kernel) rfl), rfl, by decide +kernel, fun _ => rfl⟩
theorem pf_X11_40 : nd_pf RX11 40 10 19 (.array .int) true := ⟨RX11, TX11, 69, rfl, by decide, Or.inl (nd_ti (i := 1159) (by decide +kernel) rfl), rfl, by decide +kernel, fun _ => rfl⟩
theorem pf_X11_43 : nd_pf RX11 43 10 20 (.array .int) true := ⟨RX11, TX11, 69, rfl, by decide, Or.inl (nd_ti (i := 1160) (by decide +kernel) rfl), rfl, by decide +kernel, fun _ => rfl⟩
theorem pf_X11_46 : nd_pf RX11 46 10 21 (.array .int) true := ⟨RX11, TX11, 69, rfl, by decide, Or.inl (nd_ti (i := 1161) (by decide +kernel) rfl), rfl, by decide +kernel, fun _ => rfl⟩
theorem pf_X11_49 : nd_pf RX11 49 10 25 (.array .int) true := ⟨RX11, TX11, 69, rfl, by decide, Or.inl (nd_ti (i := 1165) (by decide +kernel) rfl), rfl, by decide +kernel, fun _ => rfl⟩
theorem pf_X11_56 : nd_pf RX11 56 10 32 (.array .int) true := ⟨RX11, TX11, 69, rfl, by decide, Or.inl (nd_ti (i := 1172) (by decide +kernel) rfl), rfl, by decide +kernel, fun _ => rfl⟩
theorem pf_X11_59 : nd_pf RX11 59 10 34 (.array .int) true := ⟨RX11, TX11, 69, rfl, by decide, Or.inl (nd_ti (i := 1174) (by decide +kernel) rfl), rfl, by decide +kernel, fun _ => rfl⟩
theorem pf_X11_62 : nd_pf RX11 62 10 36 (.array .int) true := ⟨RX11, TX11, 69, rfl, by decide, Or.inl (nd_ti (i := 1176) (by decide +kernel) rfl), rfl, by decide +kernel, fun _ => rfl⟩
theorem pf_X11_65 : nd_pf RX11 65 10 37 (.array .int) true := ⟨RX11, TX11, 69, rfl, by decide, Or.inl (nd_ti (i := 1177) (by decide +kernel) rfl), rfl, by decide +kernel, fun _ => rfl⟩
theorem pf_X11_68 : nd_pf RX11 68 10 38 (.array .int) true := ⟨RX11, TX11, 69, rfl, by decide, Or.inl (nd_ti (i := 1178) (by decide +kernel) rfl), rfl, by decide +kernel, fun _ => rfl⟩
theorem pf_X11_71 : nd_pf RX11 71 10 39 (.array .int) true := ⟨RX11, TX11, 69, rfl, by decide, Or.inl (nd_ti (i := 1179) (by decide +kernel) rfl), rfl, by decide +kernel, fun _ => rfl⟩
theorem pf_X11_74 : nd_pf RX11 74 10 41 (.array .int) true := ⟨RX11, TX11, 69, rfl, by decide, Or.inl (nd_ti (i := 1181) (by decide +kernel) rfl), rfl, by decide +kernel, fun _ => rfl⟩
theorem pf_X11_77 : nd_pf RX11 77 10 42 (.array .int) true := ⟨RX11, TX11, 69, rfl, by decide, Or.inl (nd_ti (i := 1182) (by decide +kernel) rfl), rfl, by decide +kernel, fun _ => rfl⟩
theorem pf_X11_80 : nd_pf RX11 80 10 43 (.array .int) true := ⟨RX11, TX11, 69, rfl, by decide, Or.inl (nd_ti (i := 1183) (by decide +kernel) rfl), rfl, by decide +kernel, fun _ => rfl⟩
theorem pf_X11_83 : nd_pf RX11 83 10 44 (.array .int) true := ⟨RX11, TX11, 69, rfl, by decide, Or.inl (nd_ti (i := 1184) (by decide +kernel) rfl), rfl, by decide +kernel, fun _ => rfl⟩
theorem pf_X11_86 : nd_pf RX11 86 10 46 (.array .int) true := ⟨RX11, TX11, 69, rfl, by decide, Or.inl (nd_ti (i := 1186) (by decide +kernel) rfl), rfl, by decide +kernel, fun _ => rfl⟩
theorem pf_X11_89 : nd_pf RX11 89 10 47 (.array .int) true := ⟨RX11, TX11, 69, rfl, by decide, Or.inl (nd_ti (i := 1187) (by decide +kernel) rfl), rfl, by decide +kernel, fun _ => rfl⟩
theorem pf_X11_92 : nd_pf RX11 92 10 48 (.array .int) true := ⟨RX11, TX11, 69, rfl, by decide, Or.inl (nd_ti (i := 1188) (by decide +kernel) rfl), rfl, by decide +kernel, fun _ => rfl⟩
theorem pf_X11_95 : nd_pf RX11 95 10 49 (.array .int) true := ⟨RX11, TX11, 69, rfl, by decide, Or.inl (nd_ti (i := 1189) (by decide +kernel) rfl), rfl, by decide +kernel, fun _ => rfl⟩
theorem pf_X11_98 : nd_pf RX11 98 10 51 (.array .int) true := ⟨RX11, TX11, 69, rfl, by decide, Or.inl (nd_ti (i := 1191) (by decide +kernel) rfl), rfl, by decide +kernel, fun _ => rfl⟩
theorem pf_X11_101 : nd_pf RX11 101 10 52 (.array .int) true := ⟨RX11, TX11, 69, rfl, by decide, Or.inl (nd_ti (i := 1192) (by decide +kernel) rfl), rfl, by decide +kernel, fun _ => rfl⟩
theorem pf_X11_104 : nd_pf RX11 104 10 53 (.array .int) true := ⟨RX11, TX11, 69, rfl, by decide, Or.inl (nd_ti (i := 1193) (by decide +kernel) rfl), rfl, by decide +kernel, fun _ => rfl⟩
theorem pf_X11_107 : nd_pf RX11 107 10 55 (.array .int) true := ⟨RX11, TX11, 69, rfl, by decide, Or.inl (nd_ti (i := 1195) (by decide +kernel) rfl), rfl, by decide +kernel, fun _ => rfl⟩
theorem pf_X11_110 : nd_pf RX11 110 10 56 (.array .int) true := ⟨RX11, TX11, 69, rfl, by decide, Or.inl (nd_ti (i := 1196) (by decide +kernel) rfl), rfl, by decide +kernel, fun _ => rfl⟩
theorem pf_X11_113 : nd_pf RX11 113 10 57 (.array .int) true := ⟨RX11, TX11, 69, rfl, by decide, Or.inl (nd_ti (i := 1197) (by decide +kernel) rfl), rfl, by decide +kernel, fun _ => rfl⟩
theorem pf_X11_116 : nd_pf RX11 116 10 60 (.array .int) true := ⟨RX11, TX11, 69, rfl, by decide, Or.inl (nd_ti (i := 1200) (by decide +kernel) rfl), rfl, by decide +kernel, fun _ => rfl⟩
theorem pf_X11_119 : nd_pf RX11 119 10 62 (.array .int) true := ⟨RX11, TX11, 69, rfl, by decide, Or.inl (nd_ti (i := 1202) (by decide +kernel) rfl), rfl, by decide +kernel, fun _ => rfl⟩
theorem pf_X11_122 : nd_pf RX11 122 10 63 (.array .int) true := ⟨RX11, TX11, 69, rfl, by decide, Or.inl (nd_ti (i := 1203) (by decide +kernel) rfl), rfl, by decide +kernel, fun _ => rfl⟩
theorem kc_X11_125 : Cond.constant RX11 125 (262144 : Int32) ∈ nd_tbl := nd_ti (i := 1139) (by decide +kernel) rfl
theorem pf_X11_126 : nd_pf RX11 126 10 64 (.array .int) true := ⟨RX11, TX11, 69, rfl, by decide, Or.inl (nd_ti (i := 1204) (by decide +kernel) rfl), rfl, by decide +kernel, fun _ => rfl⟩
theorem pf_X11_129 : nd_pf RX11 129 10 68 (.array .int) true := ⟨RX11, TX11, 69, rfl, by decide, Or.inl (nd_ti (i := 1208) (by decide +kernel) rfl), rfl, by decide +kernel, fun _ => rfl⟩
theorem lk_X2_3 : Cond.methodLink RX2 3 objectInit ∈ nd_tbl := nd_ti (i := 1082) (by decide +kernel) rfl
theorem nf_X2_9 : nd_nf RX2 9 5 [(fun _ => .null), Value.int, Value.int, Value.int, Value.int, Value.int, Value.int, Value.int, Value.int] := ⟨RX6, TX6, 9, rfl, nd_ti (i := 1083) (by decide +kernel) rfl, nd_ti (i := 31) (by decide +kernel) rfl, wn_X6, rfl, by decide +kernel⟩
theorem lk_X2_11 : Cond.methodLink RX2 11 yX6_init ∈ nd_tbl := nd_ti (i := 1084) (by decide +kernel) rfl
theorem gf_X2_12 : nd_gf RX2 12 1 0 := ⟨RX2, TX2, 4, rfl, by decide, Or.inl (nd_ti (i := 1089) (by decide +kernel) rfl)⟩
theorem pf_X2_12 : nd_pf RX2 12 1 0 (.object "NextDoorBrides$Street") true := ⟨RX2, TX2, 4, rfl, by decide, Or.inl (nd_ti (i := 1089) (by decide +kernel) rfl), rfl, by decide +kernel, fun _ => rfl⟩
theorem nf_X2_18 : nd_nf RX2 18 4 [(fun _ => .null), (fun _ => .null), (fun _ => .null), (fun _ => .null), Value.int, Value.int, Value.int] := ⟨RX5, TX5, 7, rfl, nd_ti (i := 1085) (by decide +kernel) rfl, nd_ti (i := 81) (by decide +kernel) rfl, wn_X5, rfl, by decide +kernel⟩
theorem lk_X2_20 : Cond.methodLink RX2 20 yX5_init ∈ nd_tbl := nd_ti (i := 1086) (by decide +kernel) rfl
theorem gf_X2_21 : nd_gf RX2 21 1 1 := ⟨RX2, TX2, 4, rfl, by decide, Or.inl (nd_ti (i := 1090) (by decide +kernel) rfl)⟩
theorem pf_X2_21 : nd_pf RX2 21 1 1 (.object "NextDoorBrides$Rules") true := ⟨RX2, TX2, 4, rfl, by decide, Or.inl (nd_ti (i := 1090) (by decide +kernel) rfl), rfl, by decide +kernel, fun _ => rfl⟩
theorem gf_X2_25 : nd_gf RX2 25 1 2 := ⟨RX2, TX2, 4, rfl, by decide, Or.inl (nd_ti (i := 1091) (by decide +kernel) rfl)⟩
theorem pf_X2_25 : nd_pf RX2 25 1 2 (.array .int) true := ⟨RX2, TX2, 4, rfl, by decide, Or.inl (nd_ti (i := 1091) (by decide +kernel) rfl), rfl, by decide +kernel, fun _ => rfl⟩
theorem nf_X2_29 : nd_nf RX2 29 7 [(fun _ => .null), (fun _ => .null), (fun _ => .null), (fun _ => .null), (fun _ => .null), (fun _ => .null)] := ⟨RX8, TX8, 6, rfl, nd_ti (i := 1087) (by decide +kernel) rfl, nd_ti (i := 134) (by decide +kernel) rfl, wn_X8, rfl, by decide +kernel⟩
theorem lk_X2_31 : Cond.methodLink RX2 31 yX8_init ∈ nd_tbl := nd_ti (i := 1088) (by decide +kernel) rfl
theorem gf_X2_32 : nd_gf RX2 32 1 3 := ⟨RX2, TX2, 4, rfl, by decide, Or.inl (nd_ti (i := 1092) (by decide +kernel) rfl)⟩
theorem pf_X2_32 : nd_pf RX2 32 1 3 (.object "NextDoorBrides$Told") true := ⟨RX2, TX2, 4, rfl, by decide, Or.inl (nd_ti (i := 1092) (by decide +kernel) rfl), rfl, by decide +kernel, fun _ => rfl⟩
