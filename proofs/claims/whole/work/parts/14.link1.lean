theorem gs_J0_38 : Cond.fieldLink RJ0 38 "java/lang/String" "COMPACT_STRINGS" "Z" ∈ nd_tbl := nd_ti (i := 569) (by decide +kernel) rfl
theorem sl_J0_15 : Cond.fieldLink RJ0 15 "java/lang/String" "coder" "B" ∈ nd_tbl := nd_ti (i := 1835) (by decide +kernel) rfl
theorem kc_J6_265 : Cond.constant RJ6 265 (1431655765 : Int32) ∈ nd_tbl := nd_ti (i := 890) (by decide +kernel) rfl
theorem kc_J6_266 : Cond.constant RJ6 266 (858993459 : Int32) ∈ nd_tbl := nd_ti (i := 891) (by decide +kernel) rfl
theorem kc_J6_267 : Cond.constant RJ6 267 (252645135 : Int32) ∈ nd_tbl := nd_ti (i := 892) (by decide +kernel) rfl
theorem gf_X10_10 : nd_gf RX10 10 9 0 := ⟨RX10, TX10, 11, rfl, by decide, Or.inl (nd_ti (i := 303) (by decide +kernel) rfl)⟩
theorem gf_X10_163 : nd_gf RX10 163 5 8 := ⟨RX6, TX6, 9, rfl, by decide, Or.inr ⟨"NextDoorBrides", nd_tn (i := 58) (by decide +kernel) rfl⟩⟩
theorem gf_X10_23 : nd_gf RX10 23 9 2 := ⟨RX10, TX10, 11, rfl, by decide, Or.inl (nd_ti (i := 305) (by decide +kernel) rfl)⟩
theorem gs_X10_328 : Cond.fieldLink RX10 328 "NextDoorBrides" "MOST_OF" "[I" ∈ nd_tbl ∨ ∃ host, Cond.fieldLinkNest RX10 328 "NextDoorBrides" "MOST_OF" "[I" host ∈ nd_nest := Or.inl (nd_ti (i := 356) (by decide +kernel) rfl)
theorem gf_X10_44 : nd_gf RX10 44 9 5 := ⟨RX10, TX10, 11, rfl, by decide, Or.inl (nd_ti (i := 308) (by decide +kernel) rfl)⟩
theorem gf_X10_145 : nd_gf RX10 145 2 4 := ⟨RX3, TX3, 15, rfl, by decide, Or.inr ⟨"NextDoorBrides", nd_tn (i := 211) (by decide +kernel) rfl⟩⟩
theorem gf_X10_142 : nd_gf RX10 142 2 3 := ⟨RX3, TX3, 15, rfl, by decide, Or.inr ⟨"NextDoorBrides", nd_tn (i := 209) (by decide +kernel) rfl⟩⟩
theorem gf_X10_30 : nd_gf RX10 30 9 3 := ⟨RX10, TX10, 11, rfl, by decide, Or.inl (nd_ti (i := 306) (by decide +kernel) rfl)⟩
theorem gf_X10_277 : nd_gf RX10 277 7 5 := ⟨RX8, TX8, 6, rfl, by decide, Or.inr ⟨"NextDoorBrides", nd_tn (i := 161) (by decide +kernel) rfl⟩⟩
theorem gf_X11_65 : nd_gf RX11 65 10 37 := ⟨RX11, TX11, 69, rfl, by decide, Or.inl (nd_ti (i := 1177) (by decide +kernel) rfl)⟩
theorem gf_X11_7 : nd_gf RX11 7 10 1 := ⟨RX11, TX11, 69, rfl, by decide, Or.inl (nd_ti (i := 1141) (by decide +kernel) rfl)⟩
theorem gf_X11_62 : nd_gf RX11 62 10 36 := ⟨RX11, TX11, 69, rfl, by decide, Or.inl (nd_ti (i := 1176) (by decide +kernel) rfl)⟩
theorem gf_X11_89 : nd_gf RX11 89 10 47 := ⟨RX11, TX11, 69, rfl, by decide, Or.inl (nd_ti (i := 1187) (by decide +kernel) rfl)⟩
theorem gf_X11_92 : nd_gf RX11 92 10 48 := ⟨RX11, TX11, 69, rfl, by decide, Or.inl (nd_ti (i := 1188) (by decide +kernel) rfl)⟩
theorem gf_X11_86 : nd_gf RX11 86 10 46 := ⟨RX11, TX11, 69, rfl, by decide, Or.inl (nd_ti (i := 1186) (by decide +kernel) rfl)⟩
theorem kc_X11_142 : Cond.constant RX11 142 (1664525 : Int32) ∈ nd_tbl := nd_ti (i := 1616) (by decide +kernel) rfl
theorem kc_X11_143 : Cond.constant RX11 143 (1013904223 : Int32) ∈ nd_tbl := nd_ti (i := 1617) (by decide +kernel) rfl
theorem gf_X11_43 : nd_gf RX11 43 10 20 := ⟨RX11, TX11, 69, rfl, by decide, Or.inl (nd_ti (i := 1160) (by decide +kernel) rfl)⟩
theorem gf_X11_197 : nd_gf RX11 197 10 23 := ⟨RX11, TX11, 69, rfl, by decide, Or.inl (nd_ti (i := 1163) (by decide +kernel) rfl)⟩
theorem gf_X11_46 : nd_gf RX11 46 10 21 := ⟨RX11, TX11, 69, rfl, by decide, Or.inl (nd_ti (i := 1161) (by decide +kernel) rfl)⟩
theorem pf_X11_197 : nd_pf RX11 197 10 23 .int false := ⟨RX11, TX11, 69, rfl, by decide, Or.inl (nd_ti (i := 1163) (by decide +kernel) rfl), rfl, by decide +kernel, fun h => absurd h (by decide)⟩
theorem gf_X11_16 : nd_gf RX11 16 10 4 := ⟨RX11, TX11, 69, rfl, by decide, Or.inl (nd_ti (i := 1144) (by decide +kernel) rfl)⟩
theorem gf_X11_138 : nd_gf RX11 138 10 5 := ⟨RX11, TX11, 69, rfl, by decide, Or.inl (nd_ti (i := 1145) (by decide +kernel) rfl)⟩
theorem pf_X11_138 : nd_pf RX11 138 10 5 .boolean false := ⟨RX11, TX11, 69, rfl, by decide, Or.inl (nd_ti (i := 1145) (by decide +kernel) rfl), rfl, by decide +kernel, fun h => absurd h (by decide)⟩
theorem gf_X11_169 : nd_gf RX11 169 10 11 := ⟨RX11, TX11, 69, rfl, by decide, Or.inl (nd_ti (i := 1151) (by decide +kernel) rfl)⟩
theorem gf_X11_191 : nd_gf RX11 191 10 27 := ⟨RX11, TX11, 69, rfl, by decide, Or.inl (nd_ti (i := 1167) (by decide +kernel) rfl)⟩
theorem pf_X11_191 : nd_pf RX11 191 10 27 .int false := ⟨RX11, TX11, 69, rfl, by decide, Or.inl (nd_ti (i := 1167) (by decide +kernel) rfl), rfl, by decide +kernel, fun h => absurd h (by decide)⟩
theorem gf_X11_194 : nd_gf RX11 194 10 28 := ⟨RX11, TX11, 69, rfl, by decide, Or.inl (nd_ti (i := 1168) (by decide +kernel) rfl)⟩
theorem pf_X11_194 : nd_pf RX11 194 10 28 .int false := ⟨RX11, TX11, 69, rfl, by decide, Or.inl (nd_ti (i := 1168) (by decide +kernel) rfl), rfl, by decide +kernel, fun h => absurd h (by decide)⟩
theorem gf_X11_52 : nd_gf RX11 52 10 30 := ⟨RX11, TX11, 69, rfl, by decide, Or.inl (nd_ti (i := 1170) (by decide +kernel) rfl)⟩
theorem gf_X11_295 : nd_gf RX11 295 10 29 := ⟨RX11, TX11, 69, rfl, by decide, Or.inl (nd_ti (i := 1169) (by decide +kernel) rfl)⟩
theorem gf_X11_132 : nd_gf RX11 132 10 0 := ⟨RX11, TX11, 69, rfl, by decide, Or.inl (nd_ti (i := 1140) (by decide +kernel) rfl)⟩
theorem pf_X11_132 : nd_pf RX11 132 10 0 .int false := ⟨RX11, TX11, 69, rfl, by decide, Or.inl (nd_ti (i := 1140) (by decide +kernel) rfl), rfl, by decide +kernel, fun h => absurd h (by decide)⟩
theorem gf_X11_438 : nd_gf RX11 438 10 54 := ⟨RX11, TX11, 69, rfl, by decide, Or.inl (nd_ti (i := 1194) (by decide +kernel) rfl)⟩
theorem gf_X11_107 : nd_gf RX11 107 10 55 := ⟨RX11, TX11, 69, rfl, by decide, Or.inl (nd_ti (i := 1195) (by decide +kernel) rfl)⟩
theorem gf_X11_110 : nd_gf RX11 110 10 56 := ⟨RX11, TX11, 69, rfl, by decide, Or.inl (nd_ti (i := 1196) (by decide +kernel) rfl)⟩
theorem gf_X11_113 : nd_gf RX11 113 10 57 := ⟨RX11, TX11, 69, rfl, by decide, Or.inl (nd_ti (i := 1197) (by decide +kernel) rfl)⟩
theorem kc_X11_441 : Cond.constant RX11 441 (134217728 : Int32) ∈ nd_tbl := nd_ti (i := 1740) (by decide +kernel) rfl
theorem gf_X11_144 : nd_gf RX11 144 10 6 := ⟨RX11, TX11, 69, rfl, by decide, Or.inl (nd_ti (i := 1146) (by decide +kernel) rfl)⟩
theorem gf_X11_388 : nd_gf RX11 388 10 40 := ⟨RX11, TX11, 69, rfl, by decide, Or.inl (nd_ti (i := 1180) (by decide +kernel) rfl)⟩
theorem gf_X11_172 : nd_gf RX11 172 10 12 := ⟨RX11, TX11, 69, rfl, by decide, Or.inl (nd_ti (i := 1152) (by decide +kernel) rfl)⟩
theorem gf_X11_175 : nd_gf RX11 175 10 13 := ⟨RX11, TX11, 69, rfl, by decide, Or.inl (nd_ti (i := 1153) (by decide +kernel) rfl)⟩
theorem gf_X11_476 : nd_gf RX11 476 10 67 := ⟨RX11, TX11, 69, rfl, by decide, Or.inl (nd_ti (i := 1207) (by decide +kernel) rfl)⟩
theorem gf_X11_479 : nd_gf RX11 479 10 65 := ⟨RX11, TX11, 69, rfl, by decide, Or.inl (nd_ti (i := 1205) (by decide +kernel) rfl)⟩
theorem gf_X11_129 : nd_gf RX11 129 10 68 := ⟨RX11, TX11, 69, rfl, by decide, Or.inl (nd_ti (i := 1208) (by decide +kernel) rfl)⟩
theorem pf_X11_476 : nd_pf RX11 476 10 67 .int false := ⟨RX11, TX11, 69, rfl, by decide, Or.inl (nd_ti (i := 1207) (by decide +kernel) rfl), rfl, by decide +kernel, fun h => absurd h (by decide)⟩
theorem gf_X11_135 : nd_gf RX11 135 10 3 := ⟨RX11, TX11, 69, rfl, by decide, Or.inl (nd_ti (i := 1143) (by decide +kernel) rfl)⟩
theorem gf_X11_13 : nd_gf RX11 13 10 2 := ⟨RX11, TX11, 69, rfl, by decide, Or.inl (nd_ti (i := 1142) (by decide +kernel) rfl)⟩
theorem pf_X11_135 : nd_pf RX11 135 10 3 .int false := ⟨RX11, TX11, 69, rfl, by decide, Or.inl (nd_ti (i := 1143) (by decide +kernel) rfl), rfl, by decide +kernel, fun h => absurd h (by decide)⟩
theorem gf_X11_292 : nd_gf RX11 292 10 35 := ⟨RX11, TX11, 69, rfl, by decide, Or.inl (nd_ti (i := 1175) (by decide +kernel) rfl)⟩
theorem gf_X11_289 : nd_gf RX11 289 10 33 := ⟨RX11, TX11, 69, rfl, by decide, Or.inl (nd_ti (i := 1173) (by decide +kernel) rfl)⟩
theorem gf_X11_286 : nd_gf RX11 286 10 31 := ⟨RX11, TX11, 69, rfl, by decide, Or.inl (nd_ti (i := 1171) (by decide +kernel) rfl)⟩
theorem gf_X11_28 : nd_gf RX11 28 10 15 := ⟨RX11, TX11, 69, rfl, by decide, Or.inl (nd_ti (i := 1155) (by decide +kernel) rfl)⟩
theorem kc_X11_494 : Cond.constant RX11 494 (-100000 : Int32) ∈ nd_tbl := nd_ti (i := 1834) (by decide +kernel) rfl
theorem gf_X11_19 : nd_gf RX11 19 10 7 := ⟨RX11, TX11, 69, rfl, by decide, Or.inl (nd_ti (i := 1147) (by decide +kernel) rfl)⟩
theorem gf_X11_414 : nd_gf RX11 414 10 50 := ⟨RX11, TX11, 69, rfl, by decide, Or.inl (nd_ti (i := 1190) (by decide +kernel) rfl)⟩
theorem gf_X11_101 : nd_gf RX11 101 10 52 := ⟨RX11, TX11, 69, rfl, by decide, Or.inl (nd_ti (i := 1192) (by decide +kernel) rfl)⟩
theorem gf_X11_98 : nd_gf RX11 98 10 51 := ⟨RX11, TX11, 69, rfl, by decide, Or.inl (nd_ti (i := 1191) (by decide +kernel) rfl)⟩
theorem gf_X11_155 : nd_gf RX11 155 10 9 := ⟨RX11, TX11, 69, rfl, by decide, Or.inl (nd_ti (i := 1149) (by decide +kernel) rfl)⟩
theorem gf_X11_22 : nd_gf RX11 22 10 8 := ⟨RX11, TX11, 69, rfl, by decide, Or.inl (nd_ti (i := 1148) (by decide +kernel) rfl)⟩
theorem gf_X11_461 : nd_gf RX11 461 10 61 := ⟨RX11, TX11, 69, rfl, by decide, Or.inl (nd_ti (i := 1201) (by decide +kernel) rfl)⟩
theorem gf_X11_122 : nd_gf RX11 122 10 63 := ⟨RX11, TX11, 69, rfl, by decide, Or.inl (nd_ti (i := 1203) (by decide +kernel) rfl)⟩
theorem gf_X11_119 : nd_gf RX11 119 10 62 := ⟨RX11, TX11, 69, rfl, by decide, Or.inl (nd_ti (i := 1202) (by decide +kernel) rfl)⟩
theorem gf_X11_251 : nd_gf RX11 251 10 22 := ⟨RX11, TX11, 69, rfl, by decide, Or.inl (nd_ti (i := 1162) (by decide +kernel) rfl)⟩
theorem gf_X11_31 : nd_gf RX11 31 10 16 := ⟨RX11, TX11, 69, rfl, by decide, Or.inl (nd_ti (i := 1156) (by decide +kernel) rfl)⟩
theorem gf_X11_34 : nd_gf RX11 34 10 17 := ⟨RX11, TX11, 69, rfl, by decide, Or.inl (nd_ti (i := 1157) (by decide +kernel) rfl)⟩
theorem gf_X11_37 : nd_gf RX11 37 10 18 := ⟨RX11, TX11, 69, rfl, by decide, Or.inl (nd_ti (i := 1158) (by decide +kernel) rfl)⟩
theorem gf_X11_40 : nd_gf RX11 40 10 19 := ⟨RX11, TX11, 69, rfl, by decide, Or.inl (nd_ti (i := 1159) (by decide +kernel) rfl)⟩
theorem gf_X11_59 : nd_gf RX11 59 10 34 := ⟨RX11, TX11, 69, rfl, by decide, Or.inl (nd_ti (i := 1174) (by decide +kernel) rfl)⟩
theorem gf_X11_56 : nd_gf RX11 56 10 32 := ⟨RX11, TX11, 69, rfl, by decide, Or.inl (nd_ti (i := 1172) (by decide +kernel) rfl)⟩
theorem pf_X11_292 : nd_pf RX11 292 10 35 .int false := ⟨RX11, TX11, 69, rfl, by decide, Or.inl (nd_ti (i := 1175) (by decide +kernel) rfl), rfl, by decide +kernel, fun h => absurd h (by decide)⟩
theorem pf_X11_289 : nd_pf RX11 289 10 33 .int false := ⟨RX11, TX11, 69, rfl, by decide, Or.inl (nd_ti (i := 1173) (by decide +kernel) rfl), rfl, by decide +kernel, fun h => absurd h (by decide)⟩
theorem pf_X11_286 : nd_pf RX11 286 10 31 .int false := ⟨RX11, TX11, 69, rfl, by decide, Or.inl (nd_ti (i := 1171) (by decide +kernel) rfl), rfl, by decide +kernel, fun h => absurd h (by decide)⟩
theorem gf_X11_77 : nd_gf RX11 77 10 42 := ⟨RX11, TX11, 69, rfl, by decide, Or.inl (nd_ti (i := 1182) (by decide +kernel) rfl)⟩
theorem pf_X11_155 : nd_pf RX11 155 10 9 .int false := ⟨RX11, TX11, 69, rfl, by decide, Or.inl (nd_ti (i := 1149) (by decide +kernel) rfl), rfl, by decide +kernel, fun h => absurd h (by decide)⟩
theorem gf_X11_49 : nd_gf RX11 49 10 25 := ⟨RX11, TX11, 69, rfl, by decide, Or.inl (nd_ti (i := 1165) (by decide +kernel) rfl)⟩
theorem gf_X11_226 : nd_gf RX11 226 10 26 := ⟨RX11, TX11, 69, rfl, by decide, Or.inl (nd_ti (i := 1166) (by decide +kernel) rfl)⟩
theorem pf_X11_226 : nd_pf RX11 226 10 26 .int false := ⟨RX11, TX11, 69, rfl, by decide, Or.inl (nd_ti (i := 1166) (by decide +kernel) rfl), rfl, by decide +kernel, fun h => absurd h (by decide)⟩
theorem gf_X11_25 : nd_gf RX11 25 10 14 := ⟨RX11, TX11, 69, rfl, by decide, Or.inl (nd_ti (i := 1154) (by decide +kernel) rfl)⟩
theorem gf_X1_18 : nd_gf RX1 18 0 1 := ⟨RX1, TX1, 3, rfl, by decide, Or.inl (nd_ti (i := 185) (by decide +kernel) rfl)⟩
theorem pf_X1_18 : nd_pf RX1 18 0 1 .int false := ⟨RX1, TX1, 3, rfl, by decide, Or.inl (nd_ti (i := 185) (by decide +kernel) rfl), rfl, by decide +kernel, fun h => absurd h (by decide)⟩
theorem gf_X3_159 : nd_gf RX3 159 2 10 := ⟨RX3, TX3, 15, rfl, by decide, Or.inl (nd_ti (i := 217) (by decide +kernel) rfl)⟩
theorem gf_X3_22 : nd_gf RX3 22 2 7 := ⟨RX3, TX3, 15, rfl, by decide, Or.inl (nd_ti (i := 214) (by decide +kernel) rfl)⟩
theorem gf_X3_25 : nd_gf RX3 25 2 8 := ⟨RX3, TX3, 15, rfl, by decide, Or.inl (nd_ti (i := 215) (by decide +kernel) rfl)⟩
theorem gf_X3_28 : nd_gf RX3 28 2 9 := ⟨RX3, TX3, 15, rfl, by decide, Or.inl (nd_ti (i := 216) (by decide +kernel) rfl)⟩
theorem pf_X3_159 : nd_pf RX3 159 2 10 .int false := ⟨RX3, TX3, 15, rfl, by decide, Or.inl (nd_ti (i := 217) (by decide +kernel) rfl), rfl, by decide +kernel, fun h => absurd h (by decide)⟩
theorem gf_X3_156 : nd_gf RX3 156 2 14 := ⟨RX3, TX3, 15, rfl, by decide, Or.inl (nd_ti (i := 221) (by decide +kernel) rfl)⟩
theorem gf_X3_64 : nd_gf RX3 64 2 11 := ⟨RX3, TX3, 15, rfl, by decide, Or.inl (nd_ti (i := 218) (by decide +kernel) rfl)⟩
theorem pf_X3_64 : nd_pf RX3 64 2 11 .int false := ⟨RX3, TX3, 15, rfl, by decide, Or.inl (nd_ti (i := 218) (by decide +kernel) rfl), rfl, by decide +kernel, fun h => absurd h (by decide)⟩
theorem gf_X3_81 : nd_gf RX3 81 2 12 := ⟨RX3, TX3, 15, rfl, by decide, Or.inl (nd_ti (i := 219) (by decide +kernel) rfl)⟩
theorem pf_X3_81 : nd_pf RX3 81 2 12 .int false := ⟨RX3, TX3, 15, rfl, by decide, Or.inl (nd_ti (i := 219) (by decide +kernel) rfl), rfl, by decide +kernel, fun h => absurd h (by decide)⟩
theorem gf_X3_153 : nd_gf RX3 153 2 13 := ⟨RX3, TX3, 15, rfl, by decide, Or.inl (nd_ti (i := 220) (by decide +kernel) rfl)⟩
theorem pf_X3_153 : nd_pf RX3 153 2 13 .int false := ⟨RX3, TX3, 15, rfl, by decide, Or.inl (nd_ti (i := 220) (by decide +kernel) rfl), rfl, by decide +kernel, fun h => absurd h (by decide)⟩
theorem pf_X3_156 : nd_pf RX3 156 2 14 .int false := ⟨RX3, TX3, 15, rfl, by decide, Or.inl (nd_ti (i := 221) (by decide +kernel) rfl), rfl, by decide +kernel, fun h => absurd h (by decide)⟩
theorem gf_X3_41 : nd_gf RX3 41 2 2 := ⟨RX3, TX3, 15, rfl, by decide, Or.inl (nd_ti (i := 207) (by decide +kernel) rfl)⟩
theorem pf_X3_41 : nd_pf RX3 41 2 2 .int false := ⟨RX3, TX3, 15, rfl, by decide, Or.inl (nd_ti (i := 207) (by decide +kernel) rfl), rfl, by decide +kernel, fun h => absurd h (by decide)⟩
theorem gf_X3_18 : nd_gf RX3 18 2 1 := ⟨RX3, TX3, 15, rfl, by decide, Or.inl (nd_ti (i := 206) (by decide +kernel) rfl)⟩
theorem gf_X3_44 : nd_gf RX3 44 2 3 := ⟨RX3, TX3, 15, rfl, by decide, Or.inl (nd_ti (i := 208) (by decide +kernel) rfl)⟩
theorem pf_X3_44 : nd_pf RX3 44 2 3 .int false := ⟨RX3, TX3, 15, rfl, by decide, Or.inl (nd_ti (i := 208) (by decide +kernel) rfl), rfl, by decide +kernel, fun h => absurd h (by decide)⟩
theorem gf_X3_31 : nd_gf RX3 31 2 4 := ⟨RX3, TX3, 15, rfl, by decide, Or.inl (nd_ti (i := 210) (by decide +kernel) rfl)⟩
theorem pf_X3_31 : nd_pf RX3 31 2 4 .int false := ⟨RX3, TX3, 15, rfl, by decide, Or.inl (nd_ti (i := 210) (by decide +kernel) rfl), rfl, by decide +kernel, fun h => absurd h (by decide)⟩
theorem gf_X4_21 : nd_gf RX4 21 3 1 := ⟨RX4, TX4, 2, rfl, by decide, Or.inl (nd_ti (i := 96) (by decide +kernel) rfl)⟩
theorem gf_X4_15 : nd_gf RX4 15 3 0 := ⟨RX4, TX4, 2, rfl, by decide, Or.inl (nd_ti (i := 95) (by decide +kernel) rfl)⟩
theorem pf_X4_21 : nd_pf RX4 21 3 1 .int false := ⟨RX4, TX4, 2, rfl, by decide, Or.inl (nd_ti (i := 96) (by decide +kernel) rfl), rfl, by decide +kernel, fun h => absurd h (by decide)⟩
theorem gf_X5_26 : nd_gf RX5 26 4 3 := ⟨RX5, TX5, 7, rfl, by decide, Or.inl (nd_ti (i := 114) (by decide +kernel) rfl)⟩
theorem gf_X5_40 : nd_gf RX5 40 4 4 := ⟨RX5, TX5, 7, rfl, by decide, Or.inl (nd_ti (i := 115) (by decide +kernel) rfl)⟩
theorem pf_X5_40 : nd_pf RX5 40 4 4 .int false := ⟨RX5, TX5, 7, rfl, by decide, Or.inl (nd_ti (i := 115) (by decide +kernel) rfl), rfl, by decide +kernel, fun h => absurd h (by decide)⟩
theorem gf_X5_44 : nd_gf RX5 44 4 5 := ⟨RX5, TX5, 7, rfl, by decide, Or.inl (nd_ti (i := 116) (by decide +kernel) rfl)⟩
theorem gf_X5_47 : nd_gf RX5 47 4 6 := ⟨RX5, TX5, 7, rfl, by decide, Or.inl (nd_ti (i := 117) (by decide +kernel) rfl)⟩
theorem pf_X5_44 : nd_pf RX5 44 4 5 .int false := ⟨RX5, TX5, 7, rfl, by decide, Or.inl (nd_ti (i := 116) (by decide +kernel) rfl), rfl, by decide +kernel, fun h => absurd h (by decide)⟩
theorem pf_X5_47 : nd_pf RX5 47 4 6 .int false := ⟨RX5, TX5, 7, rfl, by decide, Or.inl (nd_ti (i := 117) (by decide +kernel) rfl), rfl, by decide +kernel, fun h => absurd h (by decide)⟩
theorem gf_X5_23 : nd_gf RX5 23 4 2 := ⟨RX5, TX5, 7, rfl, by decide, Or.inl (nd_ti (i := 112) (by decide +kernel) rfl)⟩
theorem gf_X5_64 : nd_gf RX5 64 3 1 := ⟨RX4, TX4, 2, rfl, by decide, Or.inr ⟨"NextDoorBrides", nd_tn (i := 98) (by decide +kernel) rfl⟩⟩
theorem gf_X5_14 : nd_gf RX5 14 4 0 := ⟨RX5, TX5, 7, rfl, by decide, Or.inl (nd_ti (i := 107) (by decide +kernel) rfl)⟩
theorem kc_X6_42 : Cond.constant RX6 42 (1664525 : Int32) ∈ nd_tbl := nd_ti (i := 496) (by decide +kernel) rfl
theorem gf_X6_43 : nd_gf RX6 43 5 7 := ⟨RX6, TX6, 9, rfl, by decide, Or.inl (nd_ti (i := 56) (by decide +kernel) rfl)⟩
theorem kc_X6_46 : Cond.constant RX6 46 (1013904223 : Int32) ∈ nd_tbl := nd_ti (i := 497) (by decide +kernel) rfl
theorem pf_X6_43 : nd_pf RX6 43 5 7 .int false := ⟨RX6, TX6, 9, rfl, by decide, Or.inl (nd_ti (i := 56) (by decide +kernel) rfl), rfl, by decide +kernel, fun h => absurd h (by decide)⟩
theorem gf_X6_9 : nd_gf RX6 9 5 0 := ⟨RX6, TX6, 9, rfl, by decide, Or.inl (nd_ti (i := 36) (by decide +kernel) rfl)⟩
theorem gf_X6_19 : nd_gf RX6 19 5 1 := ⟨RX6, TX6, 9, rfl, by decide, Or.inl (nd_ti (i := 37) (by decide +kernel) rfl)⟩
theorem gf_X7_15 : nd_gf RX7 15 6 1 := ⟨RX7, TX7, 3, rfl, by decide, Or.inl (nd_ti (i := 294) (by decide +kernel) rfl)⟩
theorem gf_X7_9 : nd_gf RX7 9 6 0 := ⟨RX7, TX7, 3, rfl, by decide, Or.inl (nd_ti (i := 293) (by decide +kernel) rfl)⟩
theorem gf_X7_75 : nd_gf RX7 75 7 2 := ⟨RX8, TX8, 6, rfl, by decide, Or.inr ⟨"NextDoorBrides", nd_tn (i := 151) (by decide +kernel) rfl⟩⟩
theorem gf_X7_32 : nd_gf RX7 32 3 1 := ⟨RX4, TX4, 2, rfl, by decide, Or.inr ⟨"NextDoorBrides", nd_tn (i := 97) (by decide +kernel) rfl⟩⟩
theorem gf_X7_92 : nd_gf RX7 92 7 5 := ⟨RX8, TX8, 6, rfl, by decide, Or.inr ⟨"NextDoorBrides", nd_tn (i := 160) (by decide +kernel) rfl⟩⟩
theorem gf_X7_19 : nd_gf RX7 19 6 2 := ⟨RX7, TX7, 3, rfl, by decide, Or.inl (nd_ti (i := 295) (by decide +kernel) rfl)⟩
theorem gf_X9_23 : nd_gf RX9 23 8 3 := ⟨RX9, TX9, 6, rfl, by decide, Or.inl (nd_ti (i := 263) (by decide +kernel) rfl)⟩
theorem gf_X9_9 : nd_gf RX9 9 8 0 := ⟨RX9, TX9, 6, rfl, by decide, Or.inl (nd_ti (i := 260) (by decide +kernel) rfl)⟩
theorem gf_X9_129 : nd_gf RX9 129 5 8 := ⟨RX6, TX6, 9, rfl, by decide, Or.inr ⟨"NextDoorBrides", nd_tn (i := 59) (by decide +kernel) rfl⟩⟩
theorem gf_X9_19 : nd_gf RX9 19 8 2 := ⟨RX9, TX9, 6, rfl, by decide, Or.inl (nd_ti (i := 262) (by decide +kernel) rfl)⟩
theorem gf_X9_56 : nd_gf RX9 56 5 6 := ⟨RX6, TX6, 9, rfl, by decide, Or.inr ⟨"NextDoorBrides", nd_tn (i := 52) (by decide +kernel) rfl⟩⟩
theorem pf_X9_129 : nd_pf RX9 129 5 8 .int false := ⟨RX6, TX6, 9, rfl, by decide, Or.inr ⟨rfl, "NextDoorBrides", nd_tn (i := 59) (by decide +kernel) rfl⟩, rfl, by decide +kernel, fun h => absurd h (by decide)⟩
theorem sl_J0_9 : Cond.fieldLink RJ0 9 "java/lang/String" "value" "[B" ∈ nd_tbl := nd_ti (i := 1836) (by decide +kernel) rfl
theorem wc_J0_coder_7d493 : Cond.code yJ0_coder_7d493 cJ0_coder_7d493 1 (some .byte) ∈ nd_tbl := nd_ti (i := 578) (by decide +kernel) rfl
theorem wn_J0 : Cond.initialized RJ0 ∈ nd_tbl := nd_ti (i := 14) (by decide +kernel) rfl
theorem ok_J0_coder_7d493 : nd_okN M_J0_coder_7d493 0 := ⟨wc_J0_coder_7d493, wn_J0, by decide +kernel, by decide +kernel, by decide +kernel⟩
theorem wi_J0_coder_7d493 : Cond.instanceMethod yJ0_coder_7d493 ∈ nd_tbl := nd_ti (i := 576) (by decide +kernel) rfl
theorem wl_J0_coder_7d493 : Cond.selects RJ0 yJ0_coder_7d493 yJ0_coder_7d493 ∈ nd_tbl := nd_ti (i := 577) (by decide +kernel) rfl
theorem cl_J0_335 : nd_ct RJ0 335 M_J0_coder_7d493 0 := ⟨ok_J0_coder_7d493, rfl, wi_J0_coder_7d493, wl_J0_coder_7d493, nd_ti (i := 575) (by decide +kernel) rfl⟩
theorem wc_J1_canEncode_9a6ad : Cond.code yJ1_canEncode_9a6ad cJ1_canEncode_9a6ad 1 (some .boolean) ∈ nd_tbl := nd_ti (i := 584) (by decide +kernel) rfl
theorem wn_J1 : Cond.initialized RJ1 ∈ nd_tbl := nd_ti (i := 15) (by decide +kernel) rfl
theorem ok_J1_canEncode_9a6ad : nd_okN M_J1_canEncode_9a6ad 1 := ⟨wc_J1_canEncode_9a6ad, wn_J1, by decide +kernel, by decide +kernel, by decide +kernel⟩
theorem ws_J1_canEncode_9a6ad : Cond.static yJ1_canEncode_9a6ad ∈ nd_tbl := nd_ti (i := 583) (by decide +kernel) rfl
theorem cl_J1_88 : nd_cs RJ1 88 M_J1_canEncode_9a6ad 1 := ⟨ok_J1_canEncode_9a6ad, ws_J1_canEncode_9a6ad, Or.inl (nd_ti (i := 582) (by decide +kernel) rfl)⟩
theorem lk_J1_92 : Cond.methodLink RJ1 92 Lib.Math.max.name ∈ nd_tbl := nd_ti (i := 585) (by decide +kernel) rfl
theorem lk_J1_38 : Cond.methodLink RJ1 38 Lib.Math.min.name ∈ nd_tbl := nd_ti (i := 586) (by decide +kernel) rfl
theorem wc_J1_indexOfChar_4cfef : Cond.code yJ1_indexOfChar_4cfef cJ1_indexOfChar_4cfef 6 (some .int) ∈ nd_tbl := nd_ti (i := 589) (by decide +kernel) rfl
theorem ok_J1_indexOfChar_4cfef : nd_okN M_J1_indexOfChar_4cfef 4 := ⟨wc_J1_indexOfChar_4cfef, wn_J1, by decide +kernel, by decide +kernel, by decide +kernel⟩
theorem ws_J1_indexOfChar_4cfef : Cond.static yJ1_indexOfChar_4cfef ∈ nd_tbl := nd_ti (i := 588) (by decide +kernel) rfl
theorem cl_J1_95 : nd_cs RJ1 95 M_J1_indexOfChar_4cfef 4 := ⟨ok_J1_indexOfChar_4cfef, ws_J1_indexOfChar_4cfef, Or.inl (nd_ti (i := 587) (by decide +kernel) rfl)⟩
theorem wc_J9_floorMod_7cf53 : Cond.code yJ9_floorMod_7cf53 cJ9_floorMod_7cf53 3 (some .int) ∈ nd_tbl := nd_ti (i := 815) (by decide +kernel) rfl
theorem wn_J9 : Cond.initialized RJ9 ∈ nd_tbl := nd_ti (i := 5) (by decide +kernel) rfl
theorem ok_J9_floorMod_7cf53 : nd_okN M_J9_floorMod_7cf53 2 := ⟨wc_J9_floorMod_7cf53, wn_J9, by decide +kernel, by decide +kernel, by decide +kernel⟩
theorem ws_J9_floorMod_7cf53 : Cond.static yJ9_floorMod_7cf53 ∈ nd_tbl := nd_ti (i := 814) (by decide +kernel) rfl
theorem cl_X0_15 : nd_cs RX0 15 M_J9_floorMod_7cf53 2 := ⟨ok_J9_floorMod_7cf53, ws_J9_floorMod_7cf53, Or.inl (nd_ti (i := 822) (by decide +kernel) rfl)⟩
theorem wc_X0_placeBehind : Cond.code yX0_placeBehind cX0_placeBehind 6 (some .int) ∈ nd_tbl := nd_ti (i := 1019) (by decide +kernel) rfl
theorem wn_X0 : Cond.initialized RX0 ∈ nd_tbl := nd_ti (i := 19) (by decide +kernel) rfl
theorem ok_X0_placeBehind : nd_okN M_X0_placeBehind 3 := ⟨wc_X0_placeBehind, wn_X0, by decide +kernel, by decide +kernel, by decide +kernel⟩
theorem ws_X0_placeBehind : Cond.static yX0_placeBehind ∈ nd_tbl := nd_ti (i := 1018) (by decide +kernel) rfl
theorem cl_X0_32 : nd_cs RX0 32 M_X0_placeBehind 3 := ⟨ok_X0_placeBehind, ws_X0_placeBehind, Or.inl (nd_ti (i := 1017) (by decide +kernel) rfl)⟩
theorem wc_X0_commonPart : Cond.code yX0_commonPart cX0_commonPart 6 (some .int) ∈ nd_tbl := nd_ti (i := 976) (by decide +kernel) rfl
theorem ok_X0_commonPart : nd_okN M_X0_commonPart 2 := ⟨wc_X0_commonPart, wn_X0, by decide +kernel, by decide +kernel, by decide +kernel⟩
theorem ws_X0_commonPart : Cond.static yX0_commonPart ∈ nd_tbl := nd_ti (i := 975) (by decide +kernel) rfl
theorem cl_X0_29 : nd_cs RX0 29 M_X0_commonPart 2 := ⟨ok_X0_commonPart, ws_X0_commonPart, Or.inl (nd_ti (i := 974) (by decide +kernel) rfl)⟩
theorem kc_X0_24 : Cond.constantLong RX0 24 (10 : Int64) ∈ nd_tbl := nd_ti (i := 863) (by decide +kernel) rfl
theorem wc_X0_power : Cond.code yX0_power cX0_power 4 (some .int) ∈ nd_tbl := nd_ti (i := 862) (by decide +kernel) rfl
theorem ok_X0_power : nd_okN M_X0_power 2 := ⟨wc_X0_power, wn_X0, by decide +kernel, by decide +kernel, by decide +kernel⟩
theorem ws_X0_power : Cond.static yX0_power ∈ nd_tbl := nd_ti (i := 861) (by decide +kernel) rfl
theorem cl_X0_21 : nd_cs RX0 21 M_X0_power 2 := ⟨ok_X0_power, ws_X0_power, Or.inl (nd_ti (i := 860) (by decide +kernel) rfl)⟩
theorem lk_X0_26 : Cond.methodLink RX0 26 Lib.Math.max.name ∈ nd_tbl := nd_ti (i := 864) (by decide +kernel) rfl
theorem gf_X10_219 : nd_gf RX10 219 7 1 := ⟨RX8, TX8, 6, rfl, by decide, Or.inr ⟨"NextDoorBrides", nd_tn (i := 149) (by decide +kernel) rfl⟩⟩
theorem wc_X4_add : Cond.code yX4_add cX4_add 2 (some .int) ∈ nd_tbl := nd_ti (i := 702) (by decide +kernel) rfl
theorem wn_X4 : Cond.initialized RX4 ∈ nd_tbl := nd_ti (i := 4) (by decide +kernel) rfl
theorem ok_X4_add : nd_okN M_X4_add 1 := ⟨wc_X4_add, wn_X4, by decide +kernel, by decide +kernel, by decide +kernel⟩
theorem wi_X4_add : Cond.instanceMethod yX4_add ∈ nd_tbl := nd_ti (i := 700) (by decide +kernel) rfl
theorem wl_X4_add : Cond.selects RX4 yX4_add yX4_add ∈ nd_tbl := nd_ti (i := 701) (by decide +kernel) rfl
theorem cl_X10_225 : nd_cv RX10 225 M_X4_add 1 3 := ⟨ok_X4_add, wi_X4_add, wl_X4_add, nd_ti (i := 873) (by decide +kernel) rfl, TX4, 2, rfl⟩
theorem wc_X4_clear : Cond.code yX4_clear cX4_clear 1 (some .int) ∈ nd_tbl := nd_ti (i := 547) (by decide +kernel) rfl
theorem ok_X4_clear : nd_okN M_X4_clear 0 := ⟨wc_X4_clear, wn_X4, by decide +kernel, by decide +kernel, by decide +kernel⟩
theorem wi_X4_clear : Cond.instanceMethod yX4_clear ∈ nd_tbl := nd_ti (i := 545) (by decide +kernel) rfl
theorem wl_X4_clear : Cond.selects RX4 yX4_clear yX4_clear ∈ nd_tbl := nd_ti (i := 546) (by decide +kernel) rfl
theorem cl_X10_222 : nd_cv RX10 222 M_X4_clear 0 3 := ⟨ok_X4_clear, wi_X4_clear, wl_X4_clear, nd_ti (i := 872) (by decide +kernel) rfl, TX4, 2, rfl⟩
theorem wc_X3_cut : Cond.code yX3_cut cX3_cut 2 (some .boolean) ∈ nd_tbl := nd_ti (i := 525) (by decide +kernel) rfl
theorem wn_X3 : Cond.initialized RX3 ∈ nd_tbl := nd_ti (i := 9) (by decide +kernel) rfl
theorem ok_X3_cut : nd_okN M_X3_cut 1 := ⟨wc_X3_cut, wn_X3, by decide +kernel, by decide +kernel, by decide +kernel⟩
theorem wi_X3_cut : Cond.instanceMethod yX3_cut ∈ nd_tbl := nd_ti (i := 523) (by decide +kernel) rfl
theorem wl_X3_cut : Cond.selects RX3 yX3_cut yX3_cut ∈ nd_tbl := nd_ti (i := 524) (by decide +kernel) rfl
theorem cl_X10_126 : nd_cv RX10 126 M_X3_cut 1 2 := ⟨ok_X3_cut, wi_X3_cut, wl_X3_cut, nd_ti (i := 522) (by decide +kernel) rfl, TX3, 15, rfl⟩
theorem wc_X3_hasRoom : Cond.code yX3_hasRoom cX3_hasRoom 2 (some .boolean) ∈ nd_tbl := nd_ti (i := 513) (by decide +kernel) rfl
theorem ok_X3_hasRoom : nd_okN M_X3_hasRoom 1 := ⟨wc_X3_hasRoom, wn_X3, by decide +kernel, by decide +kernel, by decide +kernel⟩
theorem wi_X3_hasRoom : Cond.instanceMethod yX3_hasRoom ∈ nd_tbl := nd_ti (i := 511) (by decide +kernel) rfl
theorem wl_X3_hasRoom : Cond.selects RX3 yX3_hasRoom yX3_hasRoom ∈ nd_tbl := nd_ti (i := 512) (by decide +kernel) rfl
theorem cl_X10_119 : nd_cv RX10 119 M_X3_hasRoom 1 2 := ⟨ok_X3_hasRoom, wi_X3_hasRoom, wl_X3_hasRoom, nd_ti (i := 510) (by decide +kernel) rfl, TX3, 15, rfl⟩
theorem wc_X3_take : Cond.code yX3_take cX3_take 3 (some .int) ∈ nd_tbl := nd_ti (i := 517) (by decide +kernel) rfl
theorem ok_X3_take : nd_okN M_X3_take 1 := ⟨wc_X3_take, wn_X3, by decide +kernel, by decide +kernel, by decide +kernel⟩
theorem wi_X3_take : Cond.instanceMethod yX3_take ∈ nd_tbl := nd_ti (i := 515) (by decide +kernel) rfl
theorem wl_X3_take : Cond.selects RX3 yX3_take yX3_take ∈ nd_tbl := nd_ti (i := 516) (by decide +kernel) rfl
theorem cl_X10_122 : nd_cv RX10 122 M_X3_take 1 2 := ⟨ok_X3_take, wi_X3_take, wl_X3_take, nd_ti (i := 514) (by decide +kernel) rfl, TX3, 15, rfl⟩
theorem gf_X10_251 : nd_gf RX10 251 7 3 := ⟨RX8, TX8, 6, rfl, by decide, Or.inr ⟨"NextDoorBrides", nd_tn (i := 155) (by decide +kernel) rfl⟩⟩
theorem gf_X10_236 : nd_gf RX10 236 3 1 := ⟨RX4, TX4, 2, rfl, by decide, Or.inr ⟨"NextDoorBrides", nd_tn (i := 101) (by decide +kernel) rfl⟩⟩
theorem gf_X10_37 : nd_gf RX10 37 9 4 := ⟨RX10, TX10, 11, rfl, by decide, Or.inl (nd_ti (i := 307) (by decide +kernel) rfl)⟩
theorem wc_X6_has : Cond.code yX6_has cX6_has 2 (some .boolean) ∈ nd_tbl := nd_ti (i := 369) (by decide +kernel) rfl
theorem wn_X6 : Cond.initialized RX6 ∈ nd_tbl := nd_ti (i := 2) (by decide +kernel) rfl
theorem ok_X6_has : nd_okN M_X6_has 1 := ⟨wc_X6_has, wn_X6, by decide +kernel, by decide +kernel, by decide +kernel⟩
theorem wi_X6_has : Cond.instanceMethod yX6_has ∈ nd_tbl := nd_ti (i := 367) (by decide +kernel) rfl
theorem wl_X6_has : Cond.selects RX6 yX6_has yX6_has ∈ nd_tbl := nd_ti (i := 368) (by decide +kernel) rfl
theorem cl_X10_87 : nd_cv RX10 87 M_X6_has 1 5 := ⟨ok_X6_has, wi_X6_has, wl_X6_has, nd_ti (i := 366) (by decide +kernel) rfl, TX6, 9, rfl⟩
theorem wc_X10_canBe : Cond.code yX10_canBe cX10_canBe 2 (some .boolean) ∈ nd_tbl := nd_ti (i := 355) (by decide +kernel) rfl
theorem wn_X10 : Cond.initialized RX10 ∈ nd_tbl := nd_ti (i := 1) (by decide +kernel) rfl
theorem ok_X10_canBe : nd_okN M_X10_canBe 2 := ⟨wc_X10_canBe, wn_X10, by decide +kernel, by decide +kernel, by decide +kernel⟩
theorem ws_X10_canBe : Cond.static yX10_canBe ∈ nd_tbl := nd_ti (i := 354) (by decide +kernel) rfl
theorem cl_X10_91 : nd_cs RX10 91 M_X10_canBe 2 := ⟨ok_X10_canBe, ws_X10_canBe, Or.inl (nd_ti (i := 370) (by decide +kernel) rfl)⟩
theorem wc_X6_put : Cond.code yX6_put cX6_put 4 none ∈ nd_tbl := nd_ti (i := 361) (by decide +kernel) rfl
theorem ok_X6_put : nd_okN M_X6_put 3 := ⟨wc_X6_put, wn_X6, by decide +kernel, by decide +kernel, by decide +kernel⟩
theorem wi_X6_put : Cond.instanceMethod yX6_put ∈ nd_tbl := nd_ti (i := 359) (by decide +kernel) rfl
theorem wl_X6_put : Cond.selects RX6 yX6_put yX6_put ∈ nd_tbl := nd_ti (i := 360) (by decide +kernel) rfl
theorem cl_X10_95 : nd_cv RX10 95 M_X6_put 3 5 := ⟨ok_X6_put, wi_X6_put, wl_X6_put, nd_ti (i := 371) (by decide +kernel) rfl, TX6, 9, rfl⟩
theorem wc_X1_forget : Cond.code yX1_forget cX1_forget 1 none ∈ nd_tbl := nd_ti (i := 344) (by decide +kernel) rfl
theorem wn_X1 : Cond.initialized RX1 ∈ nd_tbl := nd_ti (i := 8) (by decide +kernel) rfl
theorem ok_X1_forget : nd_okN M_X1_forget 0 := ⟨wc_X1_forget, wn_X1, by decide +kernel, by decide +kernel, by decide +kernel⟩
theorem wi_X1_forget : Cond.instanceMethod yX1_forget ∈ nd_tbl := nd_ti (i := 342) (by decide +kernel) rfl
theorem wl_X1_forget : Cond.selects RX1 yX1_forget yX1_forget ∈ nd_tbl := nd_ti (i := 343) (by decide +kernel) rfl
theorem cl_X10_80 : nd_cv RX10 80 M_X1_forget 0 0 := ⟨ok_X1_forget, wi_X1_forget, wl_X1_forget, nd_ti (i := 341) (by decide +kernel) rfl, TX1, 3, rfl⟩
theorem gf_X10_76 : nd_gf RX10 76 5 7 := ⟨RX6, TX6, 9, rfl, by decide, Or.inr ⟨"NextDoorBrides", nd_tn (i := 55) (by decide +kernel) rfl⟩⟩
theorem pf_X10_76 : nd_pf RX10 76 5 7 .int false := ⟨RX6, TX6, 9, rfl, by decide, Or.inr ⟨rfl, "NextDoorBrides", nd_tn (i := 55) (by decide +kernel) rfl⟩, rfl, by decide +kernel, fun h => absurd h (by decide)⟩
theorem wc_X11_isIn : Cond.code yX11_isIn cX11_isIn 4 (some .boolean) ∈ nd_tbl := nd_ti (i := 1363) (by decide +kernel) rfl
theorem wn_X11 : Cond.initialized RX11 ∈ nd_tbl := nd_ti (i := 12) (by decide +kernel) rfl
theorem ok_X11_isIn : nd_okN M_X11_isIn 3 := ⟨wc_X11_isIn, wn_X11, by decide +kernel, by decide +kernel, by decide +kernel⟩
theorem wi_X11_isIn : Cond.instanceMethod yX11_isIn ∈ nd_tbl := nd_ti (i := 1362) (by decide +kernel) rfl
theorem wl_X11_isIn : Cond.selects RX11 yX11_isIn yX11_isIn ∈ nd_tbl := nd_tp (i := 46) (by decide +kernel) rfl
theorem cl_X11_147 : nd_cv RX11 147 M_X11_isIn 3 10 := ⟨ok_X11_isIn, wi_X11_isIn, wl_X11_isIn, nd_ti (i := 1360) (by decide +kernel) rfl, TX11, 69, rfl⟩
theorem gf_X11_407 : nd_gf RX11 407 10 45 := ⟨RX11, TX11, 69, rfl, by decide, Or.inl (nd_ti (i := 1185) (by decide +kernel) rfl)⟩
theorem pf_X11_407 : nd_pf RX11 407 10 45 .int false := ⟨RX11, TX11, 69, rfl, by decide, Or.inl (nd_ti (i := 1185) (by decide +kernel) rfl), rfl, by decide +kernel, fun h => absurd h (by decide)⟩
theorem gf_X11_116 : nd_gf RX11 116 10 60 := ⟨RX11, TX11, 69, rfl, by decide, Or.inl (nd_ti (i := 1200) (by decide +kernel) rfl)⟩
theorem wc_X11_has : Cond.code yX11_has cX11_has 3 (some .boolean) ∈ nd_tbl := nd_ti (i := 1539) (by decide +kernel) rfl
theorem ok_X11_has : nd_okN M_X11_has 2 := ⟨wc_X11_has, wn_X11, by decide +kernel, by decide +kernel, by decide +kernel⟩
theorem wi_X11_has : Cond.instanceMethod yX11_has ∈ nd_tbl := nd_ti (i := 1538) (by decide +kernel) rfl
theorem wl_X11_has : Cond.selects RX11 yX11_has yX11_has ∈ nd_tbl := nd_tp (i := 84) (by decide +kernel) rfl
theorem cl_X11_328 : nd_cv RX11 328 M_X11_has 2 10 := ⟨ok_X11_has, wi_X11_has, wl_X11_has, nd_ti (i := 1536) (by decide +kernel) rfl, TX11, 69, rfl⟩
theorem gf_X11_74 : nd_gf RX11 74 10 41 := ⟨RX11, TX11, 69, rfl, by decide, Or.inl (nd_ti (i := 1181) (by decide +kernel) rfl)⟩
theorem pf_X11_388 : nd_pf RX11 388 10 40 .int false := ⟨RX11, TX11, 69, rfl, by decide, Or.inl (nd_ti (i := 1180) (by decide +kernel) rfl), rfl, by decide +kernel, fun h => absurd h (by decide)⟩
theorem gf_X11_80 : nd_gf RX11 80 10 43 := ⟨RX11, TX11, 69, rfl, by decide, Or.inl (nd_ti (i := 1183) (by decide +kernel) rfl)⟩
theorem wc_X11_greater : Cond.code yX11_greater cX11_greater 3 (some .int) ∈ nd_tbl := nd_ti (i := 1687) (by decide +kernel) rfl
theorem ok_X11_greater : nd_okN M_X11_greater 2 := ⟨wc_X11_greater, wn_X11, by decide +kernel, by decide +kernel, by decide +kernel⟩
theorem wi_X11_greater : Cond.instanceMethod yX11_greater ∈ nd_tbl := nd_ti (i := 1686) (by decide +kernel) rfl
theorem wl_X11_greater : Cond.selects RX11 yX11_greater yX11_greater ∈ nd_tbl := nd_tp (i := 111) (by decide +kernel) rfl
theorem cl_X11_398 : nd_cv RX11 398 M_X11_greater 2 10 := ⟨ok_X11_greater, wi_X11_greater, wl_X11_greater, nd_ti (i := 1684) (by decide +kernel) rfl, TX11, 69, rfl⟩
theorem wc_X11_lesser : Cond.code yX11_lesser cX11_lesser 3 (some .int) ∈ nd_tbl := nd_ti (i := 1587) (by decide +kernel) rfl
theorem ok_X11_lesser : nd_okN M_X11_lesser 2 := ⟨wc_X11_lesser, wn_X11, by decide +kernel, by decide +kernel, by decide +kernel⟩
theorem wi_X11_lesser : Cond.instanceMethod yX11_lesser ∈ nd_tbl := nd_ti (i := 1586) (by decide +kernel) rfl
theorem wl_X11_lesser : Cond.selects RX11 yX11_lesser yX11_lesser ∈ nd_tbl := nd_tp (i := 96) (by decide +kernel) rfl
theorem cl_X11_332 : nd_cv RX11 332 M_X11_lesser 2 10 := ⟨ok_X11_lesser, wi_X11_lesser, wl_X11_lesser, nd_ti (i := 1584) (by decide +kernel) rfl, TX11, 69, rfl⟩
theorem pf_X11_414 : nd_pf RX11 414 10 50 .int false := ⟨RX11, TX11, 69, rfl, by decide, Or.inl (nd_ti (i := 1190) (by decide +kernel) rfl), rfl, by decide +kernel, fun h => absurd h (by decide)⟩
theorem wc_X11_types : Cond.code yX11_types cX11_types 3 none ∈ nd_tbl := nd_ti (i := 1379) (by decide +kernel) rfl
theorem ok_X11_types : nd_okN M_X11_types 1 := ⟨wc_X11_types, wn_X11, by decide +kernel, by decide +kernel, by decide +kernel⟩
theorem wi_X11_types : Cond.instanceMethod yX11_types ∈ nd_tbl := nd_ti (i := 1378) (by decide +kernel) rfl
theorem wl_X11_types : Cond.selects RX11 yX11_types yX11_types ∈ nd_tbl := nd_tp (i := 48) (by decide +kernel) rfl
theorem cl_X11_158 : nd_cv RX11 158 M_X11_types 1 10 := ⟨ok_X11_types, wi_X11_types, wl_X11_types, nd_ti (i := 1376) (by decide +kernel) rfl, TX11, 69, rfl⟩
theorem wc_X11_draw : Cond.code yX11_draw cX11_draw 2 (some .int) ∈ nd_tbl := nd_ti (i := 1615) (by decide +kernel) rfl
theorem ok_X11_draw : nd_okN M_X11_draw 1 := ⟨wc_X11_draw, wn_X11, by decide +kernel, by decide +kernel, by decide +kernel⟩
theorem wi_X11_draw : Cond.instanceMethod yX11_draw ∈ nd_tbl := nd_ti (i := 1614) (by decide +kernel) rfl
theorem wl_X11_draw : Cond.selects RX11 yX11_draw yX11_draw ∈ nd_tbl := nd_tp (i := 102) (by decide +kernel) rfl
theorem cl_X11_357 : nd_cv RX11 357 M_X11_draw 1 10 := ⟨ok_X11_draw, wi_X11_draw, wl_X11_draw, nd_ti (i := 1612) (by decide +kernel) rfl, TX11, 69, rfl⟩
theorem pf_X11_461 : nd_pf RX11 461 10 61 .int false := ⟨RX11, TX11, 69, rfl, by decide, Or.inl (nd_ti (i := 1201) (by decide +kernel) rfl), rfl, by decide +kernel, fun h => absurd h (by decide)⟩
theorem pf_X11_144 : nd_pf RX11 144 10 6 .int false := ⟨RX11, TX11, 69, rfl, by decide, Or.inl (nd_ti (i := 1146) (by decide +kernel) rfl), rfl, by decide +kernel, fun h => absurd h (by decide)⟩
theorem gf_X11_435 : nd_gf RX11 435 10 59 := ⟨RX11, TX11, 69, rfl, by decide, Or.inl (nd_ti (i := 1199) (by decide +kernel) rfl)⟩
theorem pf_X11_435 : nd_pf RX11 435 10 59 .int false := ⟨RX11, TX11, 69, rfl, by decide, Or.inl (nd_ti (i := 1199) (by decide +kernel) rfl), rfl, by decide +kernel, fun h => absurd h (by decide)⟩
theorem gf_X11_432 : nd_gf RX11 432 10 58 := ⟨RX11, TX11, 69, rfl, by decide, Or.inl (nd_ti (i := 1198) (by decide +kernel) rfl)⟩
theorem pf_X11_432 : nd_pf RX11 432 10 58 .int false := ⟨RX11, TX11, 69, rfl, by decide, Or.inl (nd_ti (i := 1198) (by decide +kernel) rfl), rfl, by decide +kernel, fun h => absurd h (by decide)⟩
theorem wc_X11_common : Cond.code yX11_common cX11_common 6 (some .int) ∈ nd_tbl := nd_ti (i := 1749) (by decide +kernel) rfl
theorem ok_X11_common : nd_okN M_X11_common 2 := ⟨wc_X11_common, wn_X11, by decide +kernel, by decide +kernel, by decide +kernel⟩
theorem wi_X11_common : Cond.instanceMethod yX11_common ∈ nd_tbl := nd_ti (i := 1748) (by decide +kernel) rfl
theorem wl_X11_common : Cond.selects RX11 yX11_common yX11_common ∈ nd_tbl := nd_tp (i := 119) (by decide +kernel) rfl
theorem cl_X11_429 : nd_cv RX11 429 M_X11_common 2 10 := ⟨ok_X11_common, wi_X11_common, wl_X11_common, nd_ti (i := 1746) (by decide +kernel) rfl, TX11, 69, rfl⟩
theorem wc_X11_keeps : Cond.code yX11_keeps cX11_keeps 2 (some .int) ∈ nd_tbl := nd_ti (i := 1821) (by decide +kernel) rfl
theorem ok_X11_keeps : nd_okN M_X11_keeps 1 := ⟨wc_X11_keeps, wn_X11, by decide +kernel, by decide +kernel, by decide +kernel⟩
theorem wi_X11_keeps : Cond.instanceMethod yX11_keeps ∈ nd_tbl := nd_ti (i := 1820) (by decide +kernel) rfl
theorem wl_X11_keeps : Cond.selects RX11 yX11_keeps yX11_keeps ∈ nd_tbl := nd_tp (i := 128) (by decide +kernel) rfl
theorem cl_X11_482 : nd_cv RX11 482 M_X11_keeps 1 10 := ⟨ok_X11_keeps, wi_X11_keeps, wl_X11_keeps, nd_ti (i := 1818) (by decide +kernel) rfl, TX11, 69, rfl⟩
theorem pf_X11_438 : nd_pf RX11 438 10 54 .int false := ⟨RX11, TX11, 69, rfl, by decide, Or.inl (nd_ti (i := 1194) (by decide +kernel) rfl), rfl, by decide +kernel, fun h => absurd h (by decide)⟩
theorem wc_X11_isWord : Cond.code yX11_isWord cX11_isWord 2 (some .boolean) ∈ nd_tbl := nd_ti (i := 1423) (by decide +kernel) rfl
theorem ok_X11_isWord : nd_okN M_X11_isWord 1 := ⟨wc_X11_isWord, wn_X11, by decide +kernel, by decide +kernel, by decide +kernel⟩
theorem wi_X11_isWord : Cond.instanceMethod yX11_isWord ∈ nd_tbl := nd_ti (i := 1422) (by decide +kernel) rfl
theorem wl_X11_isWord : Cond.selects RX11 yX11_isWord yX11_isWord ∈ nd_tbl := nd_tp (i := 57) (by decide +kernel) rfl
theorem cl_X11_232 : nd_cv RX11 232 M_X11_isWord 1 10 := ⟨ok_X11_isWord, wi_X11_isWord, wl_X11_isWord, nd_ti (i := 1420) (by decide +kernel) rfl, TX11, 69, rfl⟩
theorem kc_X11_387 : Cond.constant RX11 387 (499499 : Int32) ∈ nd_tbl := nd_ti (i := 1654) (by decide +kernel) rfl
theorem wc_X11_isHouse : Cond.code yX11_isHouse cX11_isHouse 2 (some .boolean) ∈ nd_tbl := nd_ti (i := 1371) (by decide +kernel) rfl
theorem ok_X11_isHouse : nd_okN M_X11_isHouse 1 := ⟨wc_X11_isHouse, wn_X11, by decide +kernel, by decide +kernel, by decide +kernel⟩
theorem wi_X11_isHouse : Cond.instanceMethod yX11_isHouse ∈ nd_tbl := nd_ti (i := 1370) (by decide +kernel) rfl
theorem wl_X11_isHouse : Cond.selects RX11 yX11_isHouse yX11_isHouse ∈ nd_tbl := nd_tp (i := 47) (by decide +kernel) rfl
theorem cl_X11_151 : nd_cv RX11 151 M_X11_isHouse 1 10 := ⟨ok_X11_isHouse, wi_X11_isHouse, wl_X11_isHouse, nd_ti (i := 1368) (by decide +kernel) rfl, TX11, 69, rfl⟩
theorem wc_X11_isPlan : Cond.code yX11_isPlan cX11_isPlan 5 (some .boolean) ∈ nd_tbl := nd_ti (i := 1667) (by decide +kernel) rfl
theorem ok_X11_isPlan : nd_okN M_X11_isPlan 2 := ⟨wc_X11_isPlan, wn_X11, by decide +kernel, by decide +kernel, by decide +kernel⟩
theorem wi_X11_isPlan : Cond.instanceMethod yX11_isPlan ∈ nd_tbl := nd_ti (i := 1666) (by decide +kernel) rfl
theorem wl_X11_isPlan : Cond.selects RX11 yX11_isPlan yX11_isPlan ∈ nd_tbl := nd_tp (i := 107) (by decide +kernel) rfl
theorem cl_X11_392 : nd_cv RX11 392 M_X11_isPlan 2 10 := ⟨ok_X11_isPlan, wi_X11_isPlan, wl_X11_isPlan, nd_ti (i := 1664) (by decide +kernel) rfl, TX11, 69, rfl⟩
theorem wc_X11_onesOf : Cond.code yX11_onesOf cX11_onesOf 4 (some .int) ∈ nd_tbl := nd_ti (i := 1671) (by decide +kernel) rfl
theorem ok_X11_onesOf : nd_okN M_X11_onesOf 1 := ⟨wc_X11_onesOf, wn_X11, by decide +kernel, by decide +kernel, by decide +kernel⟩
theorem wi_X11_onesOf : Cond.instanceMethod yX11_onesOf ∈ nd_tbl := nd_ti (i := 1670) (by decide +kernel) rfl
theorem wl_X11_onesOf : Cond.selects RX11 yX11_onesOf yX11_onesOf ∈ nd_tbl := nd_tp (i := 108) (by decide +kernel) rfl
theorem cl_X11_395 : nd_cv RX11 395 M_X11_onesOf 1 10 := ⟨ok_X11_onesOf, wi_X11_onesOf, wl_X11_onesOf, nd_ti (i := 1668) (by decide +kernel) rfl, TX11, 69, rfl⟩
theorem kc_X11_391 : Cond.constant RX11 391 (100000000 : Int32) ∈ nd_tbl := nd_ti (i := 1663) (by decide +kernel) rfl
theorem wc_X11_pushesAll : Cond.code yX11_pushesAll cX11_pushesAll 5 (some .int) ∈ nd_tbl := nd_ti (i := 1711) (by decide +kernel) rfl
theorem ok_X11_pushesAll : nd_okN M_X11_pushesAll 0 := ⟨wc_X11_pushesAll, wn_X11, by decide +kernel, by decide +kernel, by decide +kernel⟩
theorem wi_X11_pushesAll : Cond.instanceMethod yX11_pushesAll ∈ nd_tbl := nd_ti (i := 1710) (by decide +kernel) rfl
theorem wl_X11_pushesAll : Cond.selects RX11 yX11_pushesAll yX11_pushesAll ∈ nd_tbl := nd_tp (i := 113) (by decide +kernel) rfl
theorem cl_X11_417 : nd_cv RX11 417 M_X11_pushesAll 0 10 := ⟨ok_X11_pushesAll, wi_X11_pushesAll, wl_X11_pushesAll, nd_ti (i := 1708) (by decide +kernel) rfl, TX11, 69, rfl⟩
theorem wc_X11_goesTo : Cond.code yX11_goesTo cX11_goesTo 4 (some .int) ∈ nd_tbl := nd_ti (i := 1785) (by decide +kernel) rfl
theorem ok_X11_goesTo : nd_okN M_X11_goesTo 2 := ⟨wc_X11_goesTo, wn_X11, by decide +kernel, by decide +kernel, by decide +kernel⟩
theorem wi_X11_goesTo : Cond.instanceMethod yX11_goesTo ∈ nd_tbl := nd_ti (i := 1784) (by decide +kernel) rfl
theorem wl_X11_goesTo : Cond.selects RX11 yX11_goesTo yX11_goesTo ∈ nd_tbl := nd_tp (i := 123) (by decide +kernel) rfl
theorem cl_X11_455 : nd_cv RX11 455 M_X11_goesTo 2 10 := ⟨ok_X11_goesTo, wi_X11_goesTo, wl_X11_goesTo, nd_ti (i := 1782) (by decide +kernel) rfl, TX11, 69, rfl⟩
theorem gf_X11_95 : nd_gf RX11 95 10 49 := ⟨RX11, TX11, 69, rfl, by decide, Or.inl (nd_ti (i := 1189) (by decide +kernel) rfl)⟩
theorem wc_X11_canStand : Cond.code yX11_canStand cX11_canStand 7 (some .boolean) ∈ nd_tbl := nd_ti (i := 1699) (by decide +kernel) rfl
theorem ok_X11_canStand : nd_okN M_X11_canStand 5 := ⟨wc_X11_canStand, wn_X11, by decide +kernel, by decide +kernel, by decide +kernel⟩
theorem wi_X11_canStand : Cond.instanceMethod yX11_canStand ∈ nd_tbl := nd_ti (i := 1698) (by decide +kernel) rfl
theorem wl_X11_canStand : Cond.selects RX11 yX11_canStand yX11_canStand ∈ nd_tbl := nd_tp (i := 112) (by decide +kernel) rfl
theorem cl_X11_410 : nd_cv RX11 410 M_X11_canStand 5 10 := ⟨ok_X11_canStand, wi_X11_canStand, wl_X11_canStand, nd_ti (i := 1696) (by decide +kernel) rfl, TX11, 69, rfl⟩
theorem gf_X11_68 : nd_gf RX11 68 10 38 := ⟨RX11, TX11, 69, rfl, by decide, Or.inl (nd_ti (i := 1178) (by decide +kernel) rfl)⟩
theorem wc_X11_twoOf : Cond.code yX11_twoOf cX11_twoOf 4 (some .int) ∈ nd_tbl := nd_ti (i := 1571) (by decide +kernel) rfl
theorem ok_X11_twoOf : nd_okN M_X11_twoOf 3 := ⟨wc_X11_twoOf, wn_X11, by decide +kernel, by decide +kernel, by decide +kernel⟩
theorem wi_X11_twoOf : Cond.instanceMethod yX11_twoOf ∈ nd_tbl := nd_ti (i := 1570) (by decide +kernel) rfl
theorem wl_X11_twoOf : Cond.selects RX11 yX11_twoOf yX11_twoOf ∈ nd_tbl := nd_tp (i := 92) (by decide +kernel) rfl
theorem cl_X11_307 : nd_cv RX11 307 M_X11_twoOf 3 10 := ⟨ok_X11_twoOf, wi_X11_twoOf, wl_X11_twoOf, nd_ti (i := 1568) (by decide +kernel) rfl, TX11, 69, rfl⟩
theorem gf_X11_229 : nd_gf RX11 229 10 24 := ⟨RX11, TX11, 69, rfl, by decide, Or.inl (nd_ti (i := 1164) (by decide +kernel) rfl)⟩
theorem wc_X11_emits : Cond.code yX11_emits cX11_emits 3 none ∈ nd_tbl := nd_ti (i := 1479) (by decide +kernel) rfl
theorem ok_X11_emits : nd_okN M_X11_emits 2 := ⟨wc_X11_emits, wn_X11, by decide +kernel, by decide +kernel, by decide +kernel⟩
theorem wi_X11_emits : Cond.instanceMethod yX11_emits ∈ nd_tbl := nd_ti (i := 1478) (by decide +kernel) rfl
theorem wl_X11_emits : Cond.selects RX11 yX11_emits yX11_emits ∈ nd_tbl := nd_tp (i := 71) (by decide +kernel) rfl
theorem cl_X11_206 : nd_cv RX11 206 M_X11_emits 2 10 := ⟨ok_X11_emits, wi_X11_emits, wl_X11_emits, nd_ti (i := 1476) (by decide +kernel) rfl, TX11, 69, rfl⟩
theorem pf_X11_229 : nd_pf RX11 229 10 24 .int false := ⟨RX11, TX11, 69, rfl, by decide, Or.inl (nd_ti (i := 1164) (by decide +kernel) rfl), rfl, by decide +kernel, fun h => absurd h (by decide)⟩
theorem wc_X11_power : Cond.code yX11_power cX11_power 5 (some .int) ∈ nd_tbl := nd_ti (i := 1757) (by decide +kernel) rfl
theorem ok_X11_power : nd_okN M_X11_power 2 := ⟨wc_X11_power, wn_X11, by decide +kernel, by decide +kernel, by decide +kernel⟩
theorem wi_X11_power : Cond.instanceMethod yX11_power ∈ nd_tbl := nd_ti (i := 1756) (by decide +kernel) rfl
theorem wl_X11_power : Cond.selects RX11 yX11_power yX11_power ∈ nd_tbl := nd_tp (i := 120) (by decide +kernel) rfl
theorem cl_X11_449 : nd_cv RX11 449 M_X11_power 2 10 := ⟨ok_X11_power, wi_X11_power, wl_X11_power, nd_ti (i := 1754) (by decide +kernel) rfl, TX11, 69, rfl⟩
theorem gf_X11_126 : nd_gf RX11 126 10 64 := ⟨RX11, TX11, 69, rfl, by decide, Or.inl (nd_ti (i := 1204) (by decide +kernel) rfl)⟩
theorem wc_X11_hasThree : Cond.code yX11_hasThree cX11_hasThree 2 (some .boolean) ∈ nd_tbl := nd_ti (i := 1809) (by decide +kernel) rfl
theorem ok_X11_hasThree : nd_okN M_X11_hasThree 1 := ⟨wc_X11_hasThree, wn_X11, by decide +kernel, by decide +kernel, by decide +kernel⟩
theorem wi_X11_hasThree : Cond.instanceMethod yX11_hasThree ∈ nd_tbl := nd_ti (i := 1808) (by decide +kernel) rfl
theorem wl_X11_hasThree : Cond.selects RX11 yX11_hasThree yX11_hasThree ∈ nd_tbl := nd_tp (i := 126) (by decide +kernel) rfl
theorem cl_X11_470 : nd_cv RX11 470 M_X11_hasThree 1 10 := ⟨ok_X11_hasThree, wi_X11_hasThree, wl_X11_hasThree, nd_ti (i := 1806) (by decide +kernel) rfl, TX11, 69, rfl⟩
theorem wc_X3_advance : Cond.code yX3_advance cX3_advance 1 none ∈ nd_tbl := nd_ti (i := 682) (by decide +kernel) rfl
theorem ok_X3_advance : nd_okN M_X3_advance 0 := ⟨wc_X3_advance, wn_X3, by decide +kernel, by decide +kernel, by decide +kernel⟩
theorem wi_X3_advance : Cond.instanceMethod yX3_advance ∈ nd_tbl := nd_ti (i := 681) (by decide +kernel) rfl
