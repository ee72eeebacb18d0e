theorem dX0_meetsBehind_0 : decode cX0_meetsBehind 0 = .ok (.iconst 0, 1) := by decide +kernel
theorem dX0_meetsBehind_1 : decode cX0_meetsBehind 1 = .ok (.istore_n 3, 1) := by decide +kernel
theorem dX0_meetsBehind_2 : decode cX0_meetsBehind 2 = .ok (.iload_n 3, 1) := by decide +kernel
theorem dX0_meetsBehind_3 : decode cX0_meetsBehind 3 = .ok (.iload_n 0, 1) := by decide +kernel
theorem dX0_meetsBehind_4 : decode cX0_meetsBehind 4 = .ok (.if_icmp .ge 21, 3) := by decide +kernel
theorem dX0_meetsBehind_7 : decode cX0_meetsBehind 7 = .ok (.iload_n 0, 1) := by decide +kernel
theorem dX0_meetsBehind_8 : decode cX0_meetsBehind 8 = .ok (.iload_n 1, 1) := by decide +kernel
theorem dX0_meetsBehind_9 : decode cX0_meetsBehind 9 = .ok (.iload_n 2, 1) := by decide +kernel
theorem dX0_meetsBehind_10 : decode cX0_meetsBehind 10 = .ok (.iload_n 3, 1) := by decide +kernel
theorem dX0_meetsBehind_11 : decode cX0_meetsBehind 11 = .ok (.invokestatic 9, 3) := by decide +kernel
theorem dX0_meetsBehind_14 : decode cX0_meetsBehind 14 = .ok (.ifCond .ne 5, 3) := by decide +kernel
theorem dX0_meetsBehind_17 : decode cX0_meetsBehind 17 = .ok (.iload_n 3, 1) := by decide +kernel
theorem dX0_meetsBehind_18 : decode cX0_meetsBehind 18 = .ok (.ireturn, 1) := by decide +kernel
theorem dX0_meetsBehind_19 : decode cX0_meetsBehind 19 = .ok (.iinc 3 1, 3) := by decide +kernel
theorem dX0_meetsBehind_22 : decode cX0_meetsBehind 22 = .ok (.goto (-20), 3) := by decide +kernel
theorem dX0_meetsBehind_25 : decode cX0_meetsBehind 25 = .ok (.iconst (-1), 1) := by decide +kernel
theorem dX0_meetsBehind_26 : decode cX0_meetsBehind 26 = .ok (.ireturn, 1) := by decide +kernel
theorem dX0_passesFirst_0 : decode cX0_passesFirst 0 = .ok (.iconst 0, 1) := by decide +kernel
theorem dX0_passesFirst_1 : decode cX0_passesFirst 1 = .ok (.istore_n 3, 1) := by decide +kernel
theorem dX0_passesFirst_2 : decode cX0_passesFirst 2 = .ok (.iload_n 3, 1) := by decide +kernel
theorem dX0_passesFirst_3 : decode cX0_passesFirst 3 = .ok (.iload_n 0, 1) := by decide +kernel
theorem dX0_passesFirst_4 : decode cX0_passesFirst 4 = .ok (.if_icmp .ge 35, 3) := by decide +kernel
theorem dX0_passesFirst_7 : decode cX0_passesFirst 7 = .ok (.iload_n 0, 1) := by decide +kernel
theorem dX0_passesFirst_8 : decode cX0_passesFirst 8 = .ok (.iload_n 1, 1) := by decide +kernel
theorem dX0_passesFirst_9 : decode cX0_passesFirst 9 = .ok (.iload_n 2, 1) := by decide +kernel
theorem dX0_passesFirst_10 : decode cX0_passesFirst 10 = .ok (.iload_n 3, 1) := by decide +kernel
theorem dX0_passesFirst_11 : decode cX0_passesFirst 11 = .ok (.invokestatic 9, 3) := by decide +kernel
theorem dX0_passesFirst_14 : decode cX0_passesFirst 14 = .ok (.istore 4, 2) := by decide +kernel
theorem dX0_passesFirst_16 : decode cX0_passesFirst 16 = .ok (.iload 4, 2) := by decide +kernel
theorem dX0_passesFirst_18 : decode cX0_passesFirst 18 = .ok (.iload_n 1, 1) := by decide +kernel
theorem dX0_passesFirst_19 : decode cX0_passesFirst 19 = .ok (.if_icmp .gt 14, 3) := by decide +kernel
theorem dX0_passesFirst_22 : decode cX0_passesFirst 22 = .ok (.iload 4, 2) := by decide +kernel
theorem dX0_passesFirst_24 : decode cX0_passesFirst 24 = .ok (.ifCond .ne 7, 3) := by decide +kernel
theorem dX0_passesFirst_27 : decode cX0_passesFirst 27 = .ok (.iconst 0, 1) := by decide +kernel
theorem dX0_passesFirst_28 : decode cX0_passesFirst 28 = .ok (.goto 4, 3) := by decide +kernel
theorem dX0_passesFirst_31 : decode cX0_passesFirst 31 = .ok (.iconst 1, 1) := by decide +kernel
theorem dX0_passesFirst_32 : decode cX0_passesFirst 32 = .ok (.ireturn, 1) := by decide +kernel
theorem dX0_passesFirst_33 : decode cX0_passesFirst 33 = .ok (.iinc 3 1, 3) := by decide +kernel
theorem dX0_passesFirst_36 : decode cX0_passesFirst 36 = .ok (.goto (-34), 3) := by decide +kernel
theorem dX0_passesFirst_39 : decode cX0_passesFirst 39 = .ok (.iconst 0, 1) := by decide +kernel
theorem dX0_passesFirst_40 : decode cX0_passesFirst 40 = .ok (.ireturn, 1) := by decide +kernel
theorem dX0_apartBehind_0 : decode cX0_apartBehind 0 = .ok (.iload_n 0, 1) := by decide +kernel
theorem dX0_apartBehind_1 : decode cX0_apartBehind 1 = .ok (.ifCond .le 17, 3) := by decide +kernel
theorem dX0_apartBehind_4 : decode cX0_apartBehind 4 = .ok (.iload_n 2, 1) := by decide +kernel
theorem dX0_apartBehind_5 : decode cX0_apartBehind 5 = .ok (.iload_n 1, 1) := by decide +kernel
theorem dX0_apartBehind_6 : decode cX0_apartBehind 6 = .ok (.iconst 1, 1) := by decide +kernel
theorem dX0_apartBehind_7 : decode cX0_apartBehind 7 = .ok (.iadd, 1) := by decide +kernel
theorem dX0_apartBehind_8 : decode cX0_apartBehind 8 = .ok (.iload_n 3, 1) := by decide +kernel
theorem dX0_apartBehind_9 : decode cX0_apartBehind 9 = .ok (.imul, 1) := by decide +kernel
theorem dX0_apartBehind_10 : decode cX0_apartBehind 10 = .ok (.isub, 1) := by decide +kernel
theorem dX0_apartBehind_11 : decode cX0_apartBehind 11 = .ok (.iload_n 0, 1) := by decide +kernel
theorem dX0_apartBehind_12 : decode cX0_apartBehind 12 = .ok (.invokestatic 15, 3) := by decide +kernel
theorem dX0_apartBehind_15 : decode cX0_apartBehind 15 = .ok (.goto 4, 3) := by decide +kernel
theorem dX0_apartBehind_18 : decode cX0_apartBehind 18 = .ok (.iconst 0, 1) := by decide +kernel
theorem dX0_apartBehind_19 : decode cX0_apartBehind 19 = .ok (.ireturn, 1) := by decide +kernel
theorem dX0_wagons_0 : decode cX0_wagons 0 = .ok (.iconst 0, 1) := by decide +kernel
theorem dX0_wagons_1 : decode cX0_wagons 1 = .ok (.istore_n 1, 1) := by decide +kernel
theorem dX0_wagons_2 : decode cX0_wagons 2 = .ok (.iconst 0, 1) := by decide +kernel
theorem dX0_wagons_3 : decode cX0_wagons 3 = .ok (.istore_n 2, 1) := by decide +kernel
theorem dX0_wagons_4 : decode cX0_wagons 4 = .ok (.iload_n 0, 1) := by decide +kernel
theorem dX0_wagons_5 : decode cX0_wagons 5 = .ok (.istore_n 3, 1) := by decide +kernel
theorem dX0_wagons_6 : decode cX0_wagons 6 = .ok (.iconst 0, 1) := by decide +kernel
theorem dX0_wagons_7 : decode cX0_wagons 7 = .ok (.istore 4, 2) := by decide +kernel
theorem dX0_wagons_9 : decode cX0_wagons 9 = .ok (.iload 4, 2) := by decide +kernel
theorem dX0_wagons_11 : decode cX0_wagons 11 = .ok (.bipush 10, 2) := by decide +kernel
theorem dX0_wagons_13 : decode cX0_wagons 13 = .ok (.if_icmp .ge 32, 3) := by decide +kernel
theorem dX0_wagons_16 : decode cX0_wagons 16 = .ok (.iload_n 3, 1) := by decide +kernel
theorem dX0_wagons_17 : decode cX0_wagons 17 = .ok (.bipush 10, 2) := by decide +kernel
theorem dX0_wagons_19 : decode cX0_wagons 19 = .ok (.if_icmp .lt 26, 3) := by decide +kernel
theorem dX0_wagons_22 : decode cX0_wagons 22 = .ok (.iload_n 1, 1) := by decide +kernel
theorem dX0_wagons_23 : decode cX0_wagons 23 = .ok (.iconst 1, 1) := by decide +kernel
theorem dX0_wagons_24 : decode cX0_wagons 24 = .ok (.iload_n 3, 1) := by decide +kernel
theorem dX0_wagons_25 : decode cX0_wagons 25 = .ok (.bipush 10, 2) := by decide +kernel
theorem dX0_wagons_27 : decode cX0_wagons 27 = .ok (.irem, 1) := by decide +kernel
theorem dX0_wagons_28 : decode cX0_wagons 28 = .ok (.ishl, 1) := by decide +kernel
theorem dX0_wagons_29 : decode cX0_wagons 29 = .ok (.ior, 1) := by decide +kernel
theorem dX0_wagons_30 : decode cX0_wagons 30 = .ok (.istore_n 1, 1) := by decide +kernel
theorem dX0_wagons_31 : decode cX0_wagons 31 = .ok (.iload_n 3, 1) := by decide +kernel
theorem dX0_wagons_32 : decode cX0_wagons 32 = .ok (.bipush 10, 2) := by decide +kernel
theorem dX0_wagons_34 : decode cX0_wagons 34 = .ok (.idiv, 1) := by decide +kernel
theorem dX0_wagons_35 : decode cX0_wagons 35 = .ok (.istore_n 3, 1) := by decide +kernel
theorem dX0_wagons_36 : decode cX0_wagons 36 = .ok (.iinc 2 1, 3) := by decide +kernel
theorem dX0_wagons_39 : decode cX0_wagons 39 = .ok (.iinc 4 1, 3) := by decide +kernel
theorem dX0_wagons_42 : decode cX0_wagons 42 = .ok (.goto (-33), 3) := by decide +kernel
theorem dX0_wagons_45 : decode cX0_wagons 45 = .ok (.iload_n 3, 1) := by decide +kernel
theorem dX0_wagons_46 : decode cX0_wagons 46 = .ok (.iconst 1, 1) := by decide +kernel
theorem dX0_wagons_47 : decode cX0_wagons 47 = .ok (.if_icmp .ne 27, 3) := by decide +kernel
theorem dX0_wagons_50 : decode cX0_wagons 50 = .ok (.iload_n 2, 1) := by decide +kernel
theorem dX0_wagons_51 : decode cX0_wagons 51 = .ok (.iconst 1, 1) := by decide +kernel
theorem dX0_wagons_52 : decode cX0_wagons 52 = .ok (.if_icmp .lt 22, 3) := by decide +kernel
theorem dX0_wagons_55 : decode cX0_wagons 55 = .ok (.iload_n 2, 1) := by decide +kernel
theorem dX0_wagons_56 : decode cX0_wagons 56 = .ok (.bipush 9, 2) := by decide +kernel
theorem dX0_wagons_58 : decode cX0_wagons 58 = .ok (.if_icmp .gt 16, 3) := by decide +kernel
theorem dX0_wagons_61 : decode cX0_wagons 61 = .ok (.iload_n 1, 1) := by decide +kernel
theorem dX0_wagons_62 : decode cX0_wagons 62 = .ok (.iconst 1, 1) := by decide +kernel
theorem dX0_wagons_63 : decode cX0_wagons 63 = .ok (.iload_n 2, 1) := by decide +kernel
theorem dX0_wagons_64 : decode cX0_wagons 64 = .ok (.ishl, 1) := by decide +kernel
theorem dX0_wagons_65 : decode cX0_wagons 65 = .ok (.iconst 1, 1) := by decide +kernel
theorem dX0_wagons_66 : decode cX0_wagons 66 = .ok (.isub, 1) := by decide +kernel
theorem dX0_wagons_67 : decode cX0_wagons 67 = .ok (.if_icmp .ne 7, 3) := by decide +kernel
theorem dX0_wagons_70 : decode cX0_wagons 70 = .ok (.iload_n 2, 1) := by decide +kernel
theorem dX0_wagons_71 : decode cX0_wagons 71 = .ok (.goto 4, 3) := by decide +kernel
theorem dX0_wagons_74 : decode cX0_wagons 74 = .ok (.iconst (-1), 1) := by decide +kernel
theorem dX0_wagons_75 : decode cX0_wagons 75 = .ok (.ireturn, 1) := by decide +kernel
theorem dX0_mostInSiding_0 : decode cX0_mostInSiding 0 = .ok (.lconst 0, 1) := by decide +kernel
theorem dX0_mostInSiding_1 : decode cX0_mostInSiding 1 = .ok (.lstore_n 2, 1) := by decide +kernel
theorem dX0_mostInSiding_2 : decode cX0_mostInSiding 2 = .ok (.iconst 0, 1) := by decide +kernel
theorem dX0_mostInSiding_3 : decode cX0_mostInSiding 3 = .ok (.istore 4, 2) := by decide +kernel
theorem dX0_mostInSiding_5 : decode cX0_mostInSiding 5 = .ok (.iconst 0, 1) := by decide +kernel
theorem dX0_mostInSiding_6 : decode cX0_mostInSiding 6 = .ok (.istore 5, 2) := by decide +kernel
theorem dX0_mostInSiding_8 : decode cX0_mostInSiding 8 = .ok (.iconst 0, 1) := by decide +kernel
theorem dX0_mostInSiding_9 : decode cX0_mostInSiding 9 = .ok (.istore 6, 2) := by decide +kernel
theorem dX0_mostInSiding_11 : decode cX0_mostInSiding 11 = .ok (.iload_n 1, 1) := by decide +kernel
theorem dX0_mostInSiding_12 : decode cX0_mostInSiding 12 = .ok (.iconst 1, 1) := by decide +kernel
theorem dX0_mostInSiding_13 : decode cX0_mostInSiding 13 = .ok (.isub, 1) := by decide +kernel
theorem dX0_mostInSiding_14 : decode cX0_mostInSiding 14 = .ok (.istore 7, 2) := by decide +kernel
theorem dX0_mostInSiding_16 : decode cX0_mostInSiding 16 = .ok (.iload 7, 2) := by decide +kernel
theorem dX0_mostInSiding_18 : decode cX0_mostInSiding 18 = .ok (.ifCond .lt 102, 3) := by decide +kernel
theorem dX0_mostInSiding_21 : decode cX0_mostInSiding 21 = .ok (.iload_n 0, 1) := by decide +kernel
theorem dX0_mostInSiding_22 : decode cX0_mostInSiding 22 = .ok (.bipush 10, 2) := by decide +kernel
theorem dX0_mostInSiding_24 : decode cX0_mostInSiding 24 = .ok (.iload 7, 2) := by decide +kernel
theorem dX0_mostInSiding_26 : decode cX0_mostInSiding 26 = .ok (.invokestatic 21, 3) := by decide +kernel
theorem dX0_mostInSiding_29 : decode cX0_mostInSiding 29 = .ok (.idiv, 1) := by decide +kernel
theorem dX0_mostInSiding_30 : decode cX0_mostInSiding 30 = .ok (.bipush 10, 2) := by decide +kernel
theorem dX0_mostInSiding_32 : decode cX0_mostInSiding 32 = .ok (.irem, 1) := by decide +kernel
theorem dX0_mostInSiding_33 : decode cX0_mostInSiding 33 = .ok (.istore 8, 2) := by decide +kernel
theorem dX0_mostInSiding_35 : decode cX0_mostInSiding 35 = .ok (.iload 8, 2) := by decide +kernel
theorem dX0_mostInSiding_37 : decode cX0_mostInSiding 37 = .ok (.iload 6, 2) := by decide +kernel
theorem dX0_mostInSiding_39 : decode cX0_mostInSiding 39 = .ok (.if_icmp .ne 9, 3) := by decide +kernel
theorem dX0_mostInSiding_42 : decode cX0_mostInSiding 42 = .ok (.iinc 6 1, 3) := by decide +kernel
theorem dX0_mostInSiding_45 : decode cX0_mostInSiding 45 = .ok (.goto 25, 3) := by decide +kernel
theorem dX0_mostInSiding_48 : decode cX0_mostInSiding 48 = .ok (.lload_n 2, 1) := by decide +kernel
theorem dX0_mostInSiding_49 : decode cX0_mostInSiding 49 = .ok (.ldc2_w 24, 3) := by decide +kernel
theorem dX0_mostInSiding_52 : decode cX0_mostInSiding 52 = .ok (.lmul, 1) := by decide +kernel
theorem dX0_mostInSiding_53 : decode cX0_mostInSiding 53 = .ok (.iload 8, 2) := by decide +kernel
theorem dX0_mostInSiding_55 : decode cX0_mostInSiding 55 = .ok (.i2l, 1) := by decide +kernel
theorem dX0_mostInSiding_56 : decode cX0_mostInSiding 56 = .ok (.ladd, 1) := by decide +kernel
theorem dX0_mostInSiding_57 : decode cX0_mostInSiding 57 = .ok (.lstore_n 2, 1) := by decide +kernel
theorem dX0_mostInSiding_58 : decode cX0_mostInSiding 58 = .ok (.iinc 4 1, 3) := by decide +kernel
theorem dX0_mostInSiding_61 : decode cX0_mostInSiding 61 = .ok (.iload 5, 2) := by decide +kernel
theorem dX0_mostInSiding_63 : decode cX0_mostInSiding 63 = .ok (.iload 4, 2) := by decide +kernel
theorem dX0_mostInSiding_65 : decode cX0_mostInSiding 65 = .ok (.invokestatic 26, 3) := by decide +kernel
theorem dX0_mostInSiding_68 : decode cX0_mostInSiding 68 = .ok (.istore 5, 2) := by decide +kernel
theorem dX0_mostInSiding_70 : decode cX0_mostInSiding 70 = .ok (.iconst 0, 1) := by decide +kernel
theorem dX0_mostInSiding_71 : decode cX0_mostInSiding 71 = .ok (.istore 9, 2) := by decide +kernel
theorem dX0_mostInSiding_73 : decode cX0_mostInSiding 73 = .ok (.iload 9, 2) := by decide +kernel
theorem dX0_mostInSiding_75 : decode cX0_mostInSiding 75 = .ok (.iload_n 1, 1) := by decide +kernel
theorem dX0_mostInSiding_76 : decode cX0_mostInSiding 76 = .ok (.if_icmp .ge 38, 3) := by decide +kernel
theorem dX0_mostInSiding_79 : decode cX0_mostInSiding 79 = .ok (.iload 4, 2) := by decide +kernel
theorem dX0_mostInSiding_81 : decode cX0_mostInSiding 81 = .ok (.ifCond .le 33, 3) := by decide +kernel
theorem dX0_mostInSiding_84 : decode cX0_mostInSiding 84 = .ok (.lload_n 2, 1) := by decide +kernel
theorem dX0_mostInSiding_85 : decode cX0_mostInSiding 85 = .ok (.ldc2_w 24, 3) := by decide +kernel
theorem dX0_mostInSiding_88 : decode cX0_mostInSiding 88 = .ok (.lrem, 1) := by decide +kernel
theorem dX0_mostInSiding_89 : decode cX0_mostInSiding 89 = .ok (.iload 6, 2) := by decide +kernel
theorem dX0_mostInSiding_91 : decode cX0_mostInSiding 91 = .ok (.i2l, 1) := by decide +kernel
theorem dX0_mostInSiding_92 : decode cX0_mostInSiding 92 = .ok (.lcmp, 1) := by decide +kernel
theorem dX0_mostInSiding_93 : decode cX0_mostInSiding 93 = .ok (.ifCond .ne 21, 3) := by decide +kernel
theorem dX0_mostInSiding_96 : decode cX0_mostInSiding 96 = .ok (.lload_n 2, 1) := by decide +kernel
theorem dX0_mostInSiding_97 : decode cX0_mostInSiding 97 = .ok (.ldc2_w 24, 3) := by decide +kernel
theorem dX0_mostInSiding_100 : decode cX0_mostInSiding 100 = .ok (.ldiv, 1) := by decide +kernel
theorem dX0_mostInSiding_101 : decode cX0_mostInSiding 101 = .ok (.lstore_n 2, 1) := by decide +kernel
theorem dX0_mostInSiding_102 : decode cX0_mostInSiding 102 = .ok (.iinc 4 (-1), 3) := by decide +kernel
theorem dX0_mostInSiding_105 : decode cX0_mostInSiding 105 = .ok (.iinc 6 1, 3) := by decide +kernel
theorem dX0_mostInSiding_108 : decode cX0_mostInSiding 108 = .ok (.iinc 9 1, 3) := by decide +kernel
theorem dX0_mostInSiding_111 : decode cX0_mostInSiding 111 = .ok (.goto (-38), 3) := by decide +kernel
theorem dX0_mostInSiding_114 : decode cX0_mostInSiding 114 = .ok (.iinc 7 (-1), 3) := by decide +kernel
theorem dX0_mostInSiding_117 : decode cX0_mostInSiding 117 = .ok (.goto (-101), 3) := by decide +kernel
theorem dX0_mostInSiding_120 : decode cX0_mostInSiding 120 = .ok (.iload 4, 2) := by decide +kernel
theorem dX0_mostInSiding_122 : decode cX0_mostInSiding 122 = .ok (.ifCond .ne 8, 3) := by decide +kernel
theorem dX0_mostInSiding_125 : decode cX0_mostInSiding 125 = .ok (.iload 5, 2) := by decide +kernel
theorem dX0_mostInSiding_127 : decode cX0_mostInSiding 127 = .ok (.goto 4, 3) := by decide +kernel
theorem dX0_mostInSiding_130 : decode cX0_mostInSiding 130 = .ok (.iconst (-1), 1) := by decide +kernel
theorem dX0_mostInSiding_131 : decode cX0_mostInSiding 131 = .ok (.ireturn, 1) := by decide +kernel
theorem dX0_rowsThatGo_0 : decode cX0_rowsThatGo 0 = .ok (.iconst 1, 1) := by decide +kernel
theorem dX0_rowsThatGo_1 : decode cX0_rowsThatGo 1 = .ok (.istore_n 1, 1) := by decide +kernel
theorem dX0_rowsThatGo_2 : decode cX0_rowsThatGo 2 = .ok (.iconst 1, 1) := by decide +kernel
theorem dX0_rowsThatGo_3 : decode cX0_rowsThatGo 3 = .ok (.istore_n 2, 1) := by decide +kernel
theorem dX0_rowsThatGo_4 : decode cX0_rowsThatGo 4 = .ok (.iload_n 2, 1) := by decide +kernel
theorem dX0_rowsThatGo_5 : decode cX0_rowsThatGo 5 = .ok (.iload_n 0, 1) := by decide +kernel
theorem dX0_rowsThatGo_6 : decode cX0_rowsThatGo 6 = .ok (.if_icmp .gt 23, 3) := by decide +kernel
theorem dX0_rowsThatGo_9 : decode cX0_rowsThatGo 9 = .ok (.iload_n 1, 1) := by decide +kernel
theorem dX0_rowsThatGo_10 : decode cX0_rowsThatGo 10 = .ok (.iconst 2, 1) := by decide +kernel
theorem dX0_rowsThatGo_11 : decode cX0_rowsThatGo 11 = .ok (.imul, 1) := by decide +kernel
theorem dX0_rowsThatGo_12 : decode cX0_rowsThatGo 12 = .ok (.iconst 2, 1) := by decide +kernel
theorem dX0_rowsThatGo_13 : decode cX0_rowsThatGo 13 = .ok (.iload_n 2, 1) := by decide +kernel
theorem dX0_rowsThatGo_14 : decode cX0_rowsThatGo 14 = .ok (.imul, 1) := by decide +kernel
theorem dX0_rowsThatGo_15 : decode cX0_rowsThatGo 15 = .ok (.iconst 1, 1) := by decide +kernel
theorem dX0_rowsThatGo_16 : decode cX0_rowsThatGo 16 = .ok (.isub, 1) := by decide +kernel
theorem dX0_rowsThatGo_17 : decode cX0_rowsThatGo 17 = .ok (.imul, 1) := by decide +kernel
theorem dX0_rowsThatGo_18 : decode cX0_rowsThatGo 18 = .ok (.iload_n 2, 1) := by decide +kernel
theorem dX0_rowsThatGo_19 : decode cX0_rowsThatGo 19 = .ok (.iconst 1, 1) := by decide +kernel
theorem dX0_rowsThatGo_20 : decode cX0_rowsThatGo 20 = .ok (.iadd, 1) := by decide +kernel
theorem dX0_rowsThatGo_21 : decode cX0_rowsThatGo 21 = .ok (.idiv, 1) := by decide +kernel
theorem dX0_rowsThatGo_22 : decode cX0_rowsThatGo 22 = .ok (.istore_n 1, 1) := by decide +kernel
theorem dX0_rowsThatGo_23 : decode cX0_rowsThatGo 23 = .ok (.iinc 2 1, 3) := by decide +kernel
theorem dX0_rowsThatGo_26 : decode cX0_rowsThatGo 26 = .ok (.goto (-22), 3) := by decide +kernel
theorem dX0_rowsThatGo_29 : decode cX0_rowsThatGo 29 = .ok (.iload_n 1, 1) := by decide +kernel
theorem dX0_rowsThatGo_30 : decode cX0_rowsThatGo 30 = .ok (.ireturn, 1) := by decide +kernel
theorem dX0_weight_0 : decode cX0_weight 0 = .ok (.iconst 0, 1) := by decide +kernel
theorem dX0_weight_1 : decode cX0_weight 1 = .ok (.istore 4, 2) := by decide +kernel
theorem dX0_weight_3 : decode cX0_weight 3 = .ok (.iconst 0, 1) := by decide +kernel
theorem dX0_weight_4 : decode cX0_weight 4 = .ok (.istore 5, 2) := by decide +kernel
theorem dX0_weight_6 : decode cX0_weight 6 = .ok (.iload 5, 2) := by decide +kernel
theorem dX0_weight_8 : decode cX0_weight 8 = .ok (.iload_n 0, 1) := by decide +kernel
theorem dX0_weight_9 : decode cX0_weight 9 = .ok (.if_icmp .ge 31, 3) := by decide +kernel
theorem dX0_weight_12 : decode cX0_weight 12 = .ok (.iload 4, 2) := by decide +kernel
theorem dX0_weight_14 : decode cX0_weight 14 = .ok (.iload_n 3, 1) := by decide +kernel
theorem dX0_weight_15 : decode cX0_weight 15 = .ok (.iload 5, 2) := by decide +kernel
theorem dX0_weight_17 : decode cX0_weight 17 = .ok (.invokestatic 21, 3) := by decide +kernel
theorem dX0_weight_20 : decode cX0_weight 20 = .ok (.iload_n 2, 1) := by decide +kernel
theorem dX0_weight_21 : decode cX0_weight 21 = .ok (.iload_n 1, 1) := by decide +kernel
theorem dX0_weight_22 : decode cX0_weight 22 = .ok (.iconst 1, 1) := by decide +kernel
theorem dX0_weight_23 : decode cX0_weight 23 = .ok (.isub, 1) := by decide +kernel
theorem dX0_weight_24 : decode cX0_weight 24 = .ok (.iload 5, 2) := by decide +kernel
theorem dX0_weight_26 : decode cX0_weight 26 = .ok (.isub, 1) := by decide +kernel
theorem dX0_weight_27 : decode cX0_weight 27 = .ok (.invokestatic 21, 3) := by decide +kernel
theorem dX0_weight_30 : decode cX0_weight 30 = .ok (.imul, 1) := by decide +kernel
theorem dX0_weight_31 : decode cX0_weight 31 = .ok (.iadd, 1) := by decide +kernel
theorem dX0_weight_32 : decode cX0_weight 32 = .ok (.istore 4, 2) := by decide +kernel
theorem dX0_weight_34 : decode cX0_weight 34 = .ok (.iinc 5 1, 3) := by decide +kernel
theorem dX0_weight_37 : decode cX0_weight 37 = .ok (.goto (-31), 3) := by decide +kernel
theorem dX0_weight_40 : decode cX0_weight 40 = .ok (.iload 4, 2) := by decide +kernel
theorem dX0_weight_42 : decode cX0_weight 42 = .ok (.ireturn, 1) := by decide +kernel
theorem dX0_lowest_0 : decode cX0_lowest 0 = .ok (.iload_n 0, 1) := by decide +kernel
theorem dX0_lowest_1 : decode cX0_lowest 1 = .ok (.iload_n 1, 1) := by decide +kernel
theorem dX0_lowest_2 : decode cX0_lowest 2 = .ok (.invokestatic 29, 3) := by decide +kernel
theorem dX0_lowest_5 : decode cX0_lowest 5 = .ok (.istore_n 3, 1) := by decide +kernel
theorem dX0_lowest_6 : decode cX0_lowest 6 = .ok (.iload_n 3, 1) := by decide +kernel
theorem dX0_lowest_7 : decode cX0_lowest 7 = .ok (.ifCond .ne 5, 3) := by decide +kernel
theorem dX0_lowest_10 : decode cX0_lowest 10 = .ok (.iconst 0, 1) := by decide +kernel
theorem dX0_lowest_11 : decode cX0_lowest 11 = .ok (.ireturn, 1) := by decide +kernel
theorem dX0_lowest_12 : decode cX0_lowest 12 = .ok (.iload_n 2, 1) := by decide +kernel
theorem dX0_lowest_13 : decode cX0_lowest 13 = .ok (.ifCond .ne 9, 3) := by decide +kernel
theorem dX0_lowest_16 : decode cX0_lowest 16 = .ok (.iload_n 0, 1) := by decide +kernel
theorem dX0_lowest_17 : decode cX0_lowest 17 = .ok (.iload_n 3, 1) := by decide +kernel
theorem dX0_lowest_18 : decode cX0_lowest 18 = .ok (.idiv, 1) := by decide +kernel
theorem dX0_lowest_19 : decode cX0_lowest 19 = .ok (.goto 6, 3) := by decide +kernel
theorem dX0_lowest_22 : decode cX0_lowest 22 = .ok (.iload_n 1, 1) := by decide +kernel
theorem dX0_lowest_23 : decode cX0_lowest 23 = .ok (.iload_n 3, 1) := by decide +kernel
theorem dX0_lowest_24 : decode cX0_lowest 24 = .ok (.idiv, 1) := by decide +kernel
theorem dX0_lowest_25 : decode cX0_lowest 25 = .ok (.ireturn, 1) := by decide +kernel
theorem dX0_commonPart_0 : decode cX0_commonPart 0 = .ok (.iload_n 0, 1) := by decide +kernel
theorem dX0_commonPart_1 : decode cX0_commonPart 1 = .ok (.istore_n 2, 1) := by decide +kernel
theorem dX0_commonPart_2 : decode cX0_commonPart 2 = .ok (.iload_n 1, 1) := by decide +kernel
theorem dX0_commonPart_3 : decode cX0_commonPart 3 = .ok (.istore_n 3, 1) := by decide +kernel
theorem dX0_commonPart_4 : decode cX0_commonPart 4 = .ok (.iconst 0, 1) := by decide +kernel
theorem dX0_commonPart_5 : decode cX0_commonPart 5 = .ok (.istore 4, 2) := by decide +kernel
theorem dX0_commonPart_7 : decode cX0_commonPart 7 = .ok (.iload 4, 2) := by decide +kernel
theorem dX0_commonPart_9 : decode cX0_commonPart 9 = .ok (.bipush 100, 2) := by decide +kernel
theorem dX0_commonPart_11 : decode cX0_commonPart 11 = .ok (.if_icmp .ge 23, 3) := by decide +kernel
theorem dX0_commonPart_14 : decode cX0_commonPart 14 = .ok (.iload_n 3, 1) := by decide +kernel
theorem dX0_commonPart_15 : decode cX0_commonPart 15 = .ok (.ifCond .eq 19, 3) := by decide +kernel
theorem dX0_commonPart_18 : decode cX0_commonPart 18 = .ok (.iload_n 2, 1) := by decide +kernel
theorem dX0_commonPart_19 : decode cX0_commonPart 19 = .ok (.iload_n 3, 1) := by decide +kernel
theorem dX0_commonPart_20 : decode cX0_commonPart 20 = .ok (.irem, 1) := by decide +kernel
theorem dX0_commonPart_21 : decode cX0_commonPart 21 = .ok (.istore 5, 2) := by decide +kernel
theorem dX0_commonPart_23 : decode cX0_commonPart 23 = .ok (.iload_n 3, 1) := by decide +kernel
theorem dX0_commonPart_24 : decode cX0_commonPart 24 = .ok (.istore_n 2, 1) := by decide +kernel
theorem dX0_commonPart_25 : decode cX0_commonPart 25 = .ok (.iload 5, 2) := by decide +kernel
theorem dX0_commonPart_27 : decode cX0_commonPart 27 = .ok (.istore_n 3, 1) := by decide +kernel
theorem dX0_commonPart_28 : decode cX0_commonPart 28 = .ok (.iinc 4 1, 3) := by decide +kernel
theorem dX0_commonPart_31 : decode cX0_commonPart 31 = .ok (.goto (-24), 3) := by decide +kernel
theorem dX0_commonPart_34 : decode cX0_commonPart 34 = .ok (.iload_n 2, 1) := by decide +kernel
theorem dX0_commonPart_35 : decode cX0_commonPart 35 = .ok (.ireturn, 1) := by decide +kernel
theorem dX0_power_0 : decode cX0_power 0 = .ok (.iconst 1, 1) := by decide +kernel
theorem dX0_power_1 : decode cX0_power 1 = .ok (.istore_n 2, 1) := by decide +kernel
theorem dX0_power_2 : decode cX0_power 2 = .ok (.iconst 0, 1) := by decide +kernel
theorem dX0_power_3 : decode cX0_power 3 = .ok (.istore_n 3, 1) := by decide +kernel
theorem dX0_power_4 : decode cX0_power 4 = .ok (.iload_n 3, 1) := by decide +kernel
theorem dX0_power_5 : decode cX0_power 5 = .ok (.iload_n 1, 1) := by decide +kernel
theorem dX0_power_6 : decode cX0_power 6 = .ok (.if_icmp .ge 13, 3) := by decide +kernel
theorem dX0_power_9 : decode cX0_power 9 = .ok (.iload_n 2, 1) := by decide +kernel
theorem dX0_power_10 : decode cX0_power 10 = .ok (.iload_n 0, 1) := by decide +kernel
theorem dX0_power_11 : decode cX0_power 11 = .ok (.imul, 1) := by decide +kernel
theorem dX0_power_12 : decode cX0_power 12 = .ok (.istore_n 2, 1) := by decide +kernel
theorem dX0_power_13 : decode cX0_power 13 = .ok (.iinc 3 1, 3) := by decide +kernel
theorem dX0_power_16 : decode cX0_power 16 = .ok (.goto (-12), 3) := by decide +kernel
theorem dX0_power_19 : decode cX0_power 19 = .ok (.iload_n 2, 1) := by decide +kernel
theorem dX0_power_20 : decode cX0_power 20 = .ok (.ireturn, 1) := by decide +kernel
theorem dX0_sameTurned_0 : decode cX0_sameTurned 0 = .ok (.iconst 0, 1) := by decide +kernel
theorem dX0_sameTurned_1 : decode cX0_sameTurned 1 = .ok (.istore_n 2, 1) := by decide +kernel
theorem dX0_sameTurned_2 : decode cX0_sameTurned 2 = .ok (.iconst 1, 1) := by decide +kernel
theorem dX0_sameTurned_3 : decode cX0_sameTurned 3 = .ok (.istore_n 3, 1) := by decide +kernel
theorem dX0_sameTurned_4 : decode cX0_sameTurned 4 = .ok (.iload_n 3, 1) := by decide +kernel
theorem dX0_sameTurned_5 : decode cX0_sameTurned 5 = .ok (.iload_n 0, 1) := by decide +kernel
theorem dX0_sameTurned_6 : decode cX0_sameTurned 6 = .ok (.if_icmp .gt 21, 3) := by decide +kernel
theorem dX0_sameTurned_9 : decode cX0_sameTurned 9 = .ok (.iload_n 2, 1) := by decide +kernel
theorem dX0_sameTurned_10 : decode cX0_sameTurned 10 = .ok (.iload_n 1, 1) := by decide +kernel
theorem dX0_sameTurned_11 : decode cX0_sameTurned 11 = .ok (.iload_n 3, 1) := by decide +kernel
theorem dX0_sameTurned_12 : decode cX0_sameTurned 12 = .ok (.iload_n 0, 1) := by decide +kernel
theorem dX0_sameTurned_13 : decode cX0_sameTurned 13 = .ok (.invokestatic 29, 3) := by decide +kernel
theorem dX0_sameTurned_16 : decode cX0_sameTurned 16 = .ok (.invokestatic 21, 3) := by decide +kernel
theorem dX0_sameTurned_19 : decode cX0_sameTurned 19 = .ok (.iadd, 1) := by decide +kernel
theorem dX0_sameTurned_20 : decode cX0_sameTurned 20 = .ok (.istore_n 2, 1) := by decide +kernel
theorem dX0_sameTurned_21 : decode cX0_sameTurned 21 = .ok (.iinc 3 1, 3) := by decide +kernel
theorem dX0_sameTurned_24 : decode cX0_sameTurned 24 = .ok (.goto (-20), 3) := by decide +kernel
theorem dX0_sameTurned_27 : decode cX0_sameTurned 27 = .ok (.iload_n 2, 1) := by decide +kernel
theorem dX0_sameTurned_28 : decode cX0_sameTurned 28 = .ok (.ireturn, 1) := by decide +kernel
theorem dX0_sameFromBehind_0 : decode cX0_sameFromBehind 0 = .ok (.iconst 0, 1) := by decide +kernel
theorem dX0_sameFromBehind_1 : decode cX0_sameFromBehind 1 = .ok (.istore_n 2, 1) := by decide +kernel
theorem dX0_sameFromBehind_2 : decode cX0_sameFromBehind 2 = .ok (.iconst 0, 1) := by decide +kernel
theorem dX0_sameFromBehind_3 : decode cX0_sameFromBehind 3 = .ok (.istore_n 3, 1) := by decide +kernel
theorem dX0_sameFromBehind_4 : decode cX0_sameFromBehind 4 = .ok (.iload_n 3, 1) := by decide +kernel
theorem dX0_sameFromBehind_5 : decode cX0_sameFromBehind 5 = .ok (.iload_n 0, 1) := by decide +kernel
theorem dX0_sameFromBehind_6 : decode cX0_sameFromBehind 6 = .ok (.if_icmp .ge 40, 3) := by decide +kernel
theorem dX0_sameFromBehind_9 : decode cX0_sameFromBehind 9 = .ok (.iload_n 0, 1) := by decide +kernel
theorem dX0_sameFromBehind_10 : decode cX0_sameFromBehind 10 = .ok (.iconst 2, 1) := by decide +kernel
theorem dX0_sameFromBehind_11 : decode cX0_sameFromBehind 11 = .ok (.irem, 1) := by decide +kernel
theorem dX0_sameFromBehind_12 : decode cX0_sameFromBehind 12 = .ok (.iconst 1, 1) := by decide +kernel
theorem dX0_sameFromBehind_13 : decode cX0_sameFromBehind 13 = .ok (.if_icmp .ne 7, 3) := by decide +kernel
theorem dX0_sameFromBehind_16 : decode cX0_sameFromBehind 16 = .ok (.iconst 1, 1) := by decide +kernel
theorem dX0_sameFromBehind_17 : decode cX0_sameFromBehind 17 = .ok (.goto 8, 3) := by decide +kernel
theorem dX0_sameFromBehind_20 : decode cX0_sameFromBehind 20 = .ok (.iload_n 3, 1) := by decide +kernel
theorem dX0_sameFromBehind_21 : decode cX0_sameFromBehind 21 = .ok (.iconst 2, 1) := by decide +kernel
theorem dX0_sameFromBehind_22 : decode cX0_sameFromBehind 22 = .ok (.irem, 1) := by decide +kernel
theorem dX0_sameFromBehind_23 : decode cX0_sameFromBehind 23 = .ok (.iconst 2, 1) := by decide +kernel
theorem dX0_sameFromBehind_24 : decode cX0_sameFromBehind 24 = .ok (.imul, 1) := by decide +kernel
theorem dX0_sameFromBehind_25 : decode cX0_sameFromBehind 25 = .ok (.istore 4, 2) := by decide +kernel
theorem dX0_sameFromBehind_27 : decode cX0_sameFromBehind 27 = .ok (.iload_n 2, 1) := by decide +kernel
theorem dX0_sameFromBehind_28 : decode cX0_sameFromBehind 28 = .ok (.iload_n 1, 1) := by decide +kernel
theorem dX0_sameFromBehind_29 : decode cX0_sameFromBehind 29 = .ok (.iload_n 0, 1) := by decide +kernel
theorem dX0_sameFromBehind_30 : decode cX0_sameFromBehind 30 = .ok (.iload 4, 2) := by decide +kernel
theorem dX0_sameFromBehind_32 : decode cX0_sameFromBehind 32 = .ok (.iadd, 1) := by decide +kernel
theorem dX0_sameFromBehind_33 : decode cX0_sameFromBehind 33 = .ok (.iconst 2, 1) := by decide +kernel
theorem dX0_sameFromBehind_34 : decode cX0_sameFromBehind 34 = .ok (.idiv, 1) := by decide +kernel
theorem dX0_sameFromBehind_35 : decode cX0_sameFromBehind 35 = .ok (.invokestatic 21, 3) := by decide +kernel
theorem dX0_sameFromBehind_38 : decode cX0_sameFromBehind 38 = .ok (.iadd, 1) := by decide +kernel
theorem dX0_sameFromBehind_39 : decode cX0_sameFromBehind 39 = .ok (.istore_n 2, 1) := by decide +kernel
theorem dX0_sameFromBehind_40 : decode cX0_sameFromBehind 40 = .ok (.iinc 3 1, 3) := by decide +kernel
theorem dX0_sameFromBehind_43 : decode cX0_sameFromBehind 43 = .ok (.goto (-39), 3) := by decide +kernel
theorem dX0_sameFromBehind_46 : decode cX0_sameFromBehind 46 = .ok (.iload_n 2, 1) := by decide +kernel
theorem dX0_sameFromBehind_47 : decode cX0_sameFromBehind 47 = .ok (.ireturn, 1) := by decide +kernel
theorem dX0_placeBehind_0 : decode cX0_placeBehind 0 = .ok (.iload_n 0, 1) := by decide +kernel
theorem dX0_placeBehind_1 : decode cX0_placeBehind 1 = .ok (.iconst 1, 1) := by decide +kernel
theorem dX0_placeBehind_2 : decode cX0_placeBehind 2 = .ok (.iadd, 1) := by decide +kernel
theorem dX0_placeBehind_3 : decode cX0_placeBehind 3 = .ok (.iconst 2, 1) := by decide +kernel
theorem dX0_placeBehind_4 : decode cX0_placeBehind 4 = .ok (.idiv, 1) := by decide +kernel
theorem dX0_placeBehind_5 : decode cX0_placeBehind 5 = .ok (.istore_n 3, 1) := by decide +kernel
theorem dX0_placeBehind_6 : decode cX0_placeBehind 6 = .ok (.iload_n 1, 1) := by decide +kernel
theorem dX0_placeBehind_7 : decode cX0_placeBehind 7 = .ok (.istore 4, 2) := by decide +kernel
theorem dX0_placeBehind_9 : decode cX0_placeBehind 9 = .ok (.iconst 0, 1) := by decide +kernel
theorem dX0_placeBehind_10 : decode cX0_placeBehind 10 = .ok (.istore 5, 2) := by decide +kernel
theorem dX0_placeBehind_12 : decode cX0_placeBehind 12 = .ok (.iload 5, 2) := by decide +kernel
theorem dX0_placeBehind_14 : decode cX0_placeBehind 14 = .ok (.iload_n 2, 1) := by decide +kernel
theorem dX0_placeBehind_15 : decode cX0_placeBehind 15 = .ok (.if_icmp .ge 32, 3) := by decide +kernel
theorem dX0_placeBehind_18 : decode cX0_placeBehind 18 = .ok (.iload 4, 2) := by decide +kernel
theorem dX0_placeBehind_20 : decode cX0_placeBehind 20 = .ok (.iload_n 3, 1) := by decide +kernel
theorem dX0_placeBehind_21 : decode cX0_placeBehind 21 = .ok (.if_icmp .ge 10, 3) := by decide +kernel
theorem dX0_placeBehind_24 : decode cX0_placeBehind 24 = .ok (.iconst 2, 1) := by decide +kernel
theorem dX0_placeBehind_25 : decode cX0_placeBehind 25 = .ok (.iload 4, 2) := by decide +kernel
theorem dX0_placeBehind_27 : decode cX0_placeBehind 27 = .ok (.imul, 1) := by decide +kernel
theorem dX0_placeBehind_28 : decode cX0_placeBehind 28 = .ok (.goto 11, 3) := by decide +kernel
theorem dX0_placeBehind_31 : decode cX0_placeBehind 31 = .ok (.iconst 2, 1) := by decide +kernel
theorem dX0_placeBehind_32 : decode cX0_placeBehind 32 = .ok (.iload 4, 2) := by decide +kernel
theorem dX0_placeBehind_34 : decode cX0_placeBehind 34 = .ok (.iload_n 3, 1) := by decide +kernel
theorem dX0_placeBehind_35 : decode cX0_placeBehind 35 = .ok (.isub, 1) := by decide +kernel
theorem dX0_placeBehind_36 : decode cX0_placeBehind 36 = .ok (.imul, 1) := by decide +kernel
theorem dX0_placeBehind_37 : decode cX0_placeBehind 37 = .ok (.iconst 1, 1) := by decide +kernel
theorem dX0_placeBehind_38 : decode cX0_placeBehind 38 = .ok (.iadd, 1) := by decide +kernel
theorem dX0_placeBehind_39 : decode cX0_placeBehind 39 = .ok (.istore 4, 2) := by decide +kernel
theorem dX0_placeBehind_41 : decode cX0_placeBehind 41 = .ok (.iinc 5 1, 3) := by decide +kernel
theorem dX0_placeBehind_44 : decode cX0_placeBehind 44 = .ok (.goto (-32), 3) := by decide +kernel
theorem dX0_placeBehind_47 : decode cX0_placeBehind 47 = .ok (.iload 4, 2) := by decide +kernel
theorem dX0_placeBehind_49 : decode cX0_placeBehind 49 = .ok (.ireturn, 1) := by decide +kernel
theorem dX0_inOrderBehind_0 : decode cX0_inOrderBehind 0 = .ok (.iconst 1, 1) := by decide +kernel
theorem dX0_inOrderBehind_1 : decode cX0_inOrderBehind 1 = .ok (.istore_n 1, 1) := by decide +kernel
theorem dX0_inOrderBehind_2 : decode cX0_inOrderBehind 2 = .ok (.iload_n 1, 1) := by decide +kernel
theorem dX0_inOrderBehind_3 : decode cX0_inOrderBehind 3 = .ok (.sipush 1000, 3) := by decide +kernel
theorem dX0_inOrderBehind_6 : decode cX0_inOrderBehind 6 = .ok (.if_icmp .gt 50, 3) := by decide +kernel
theorem dX0_inOrderBehind_9 : decode cX0_inOrderBehind 9 = .ok (.iconst 1, 1) := by decide +kernel
theorem dX0_inOrderBehind_10 : decode cX0_inOrderBehind 10 = .ok (.istore_n 2, 1) := by decide +kernel
theorem dX0_inOrderBehind_11 : decode cX0_inOrderBehind 11 = .ok (.iconst 0, 1) := by decide +kernel
theorem dX0_inOrderBehind_12 : decode cX0_inOrderBehind 12 = .ok (.istore_n 3, 1) := by decide +kernel
theorem dX0_inOrderBehind_13 : decode cX0_inOrderBehind 13 = .ok (.iload_n 3, 1) := by decide +kernel
theorem dX0_inOrderBehind_14 : decode cX0_inOrderBehind 14 = .ok (.iload_n 0, 1) := by decide +kernel
theorem dX0_inOrderBehind_15 : decode cX0_inOrderBehind 15 = .ok (.if_icmp .ge 29, 3) := by decide +kernel
theorem dX0_inOrderBehind_18 : decode cX0_inOrderBehind 18 = .ok (.iload_n 2, 1) := by decide +kernel
theorem dX0_inOrderBehind_19 : decode cX0_inOrderBehind 19 = .ok (.ifCond .eq 25, 3) := by decide +kernel
theorem dX0_inOrderBehind_22 : decode cX0_inOrderBehind 22 = .ok (.iload_n 0, 1) := by decide +kernel
theorem dX0_inOrderBehind_23 : decode cX0_inOrderBehind 23 = .ok (.iload_n 3, 1) := by decide +kernel
theorem dX0_inOrderBehind_24 : decode cX0_inOrderBehind 24 = .ok (.iload_n 1, 1) := by decide +kernel
theorem dX0_inOrderBehind_25 : decode cX0_inOrderBehind 25 = .ok (.invokestatic 32, 3) := by decide +kernel
theorem dX0_inOrderBehind_28 : decode cX0_inOrderBehind 28 = .ok (.iload_n 3, 1) := by decide +kernel
theorem dX0_inOrderBehind_29 : decode cX0_inOrderBehind 29 = .ok (.if_icmp .ne 7, 3) := by decide +kernel
theorem dX0_inOrderBehind_32 : decode cX0_inOrderBehind 32 = .ok (.iconst 1, 1) := by decide +kernel
theorem dX0_inOrderBehind_33 : decode cX0_inOrderBehind 33 = .ok (.goto 4, 3) := by decide +kernel
theorem dX0_inOrderBehind_36 : decode cX0_inOrderBehind 36 = .ok (.iconst 0, 1) := by decide +kernel
theorem dX0_inOrderBehind_37 : decode cX0_inOrderBehind 37 = .ok (.istore_n 2, 1) := by decide +kernel
theorem dX0_inOrderBehind_38 : decode cX0_inOrderBehind 38 = .ok (.iinc 3 1, 3) := by decide +kernel
theorem dX0_inOrderBehind_41 : decode cX0_inOrderBehind 41 = .ok (.goto (-28), 3) := by decide +kernel
theorem dX0_inOrderBehind_44 : decode cX0_inOrderBehind 44 = .ok (.iload_n 2, 1) := by decide +kernel
theorem dX0_inOrderBehind_45 : decode cX0_inOrderBehind 45 = .ok (.ifCond .eq 5, 3) := by decide +kernel
theorem dX0_inOrderBehind_48 : decode cX0_inOrderBehind 48 = .ok (.iload_n 1, 1) := by decide +kernel
theorem dX0_inOrderBehind_49 : decode cX0_inOrderBehind 49 = .ok (.ireturn, 1) := by decide +kernel
theorem dX0_inOrderBehind_50 : decode cX0_inOrderBehind 50 = .ok (.iinc 1 1, 3) := by decide +kernel
theorem dX0_inOrderBehind_53 : decode cX0_inOrderBehind 53 = .ok (.goto (-51), 3) := by decide +kernel
theorem dX0_inOrderBehind_56 : decode cX0_inOrderBehind 56 = .ok (.iconst (-1), 1) := by decide +kernel
theorem dX0_inOrderBehind_57 : decode cX0_inOrderBehind 57 = .ok (.ireturn, 1) := by decide +kernel
theorem dX1_init_0 : decode cX1_init 0 = .ok (.aload_n 0, 1) := by decide +kernel
theorem dX1_init_1 : decode cX1_init 1 = .ok (.invokespecial 3, 3) := by decide +kernel
theorem dX1_init_4 : decode cX1_init 4 = .ok (.aload_n 0, 1) := by decide +kernel
theorem dX1_init_5 : decode cX1_init 5 = .ok (.bipush 6, 2) := by decide +kernel
theorem dX1_init_7 : decode cX1_init 7 = .ok (.anewarray 9, 3) := by decide +kernel
theorem dX1_init_10 : decode cX1_init 10 = .ok (.putfield 11, 3) := by decide +kernel
theorem dX1_init_13 : decode cX1_init 13 = .ok (.iconst 0, 1) := by decide +kernel
theorem dX1_init_14 : decode cX1_init 14 = .ok (.istore_n 1, 1) := by decide +kernel
theorem dX1_init_15 : decode cX1_init 15 = .ok (.iload_n 1, 1) := by decide +kernel
theorem dX1_init_16 : decode cX1_init 16 = .ok (.bipush 6, 2) := by decide +kernel
theorem dX1_init_18 : decode cX1_init 18 = .ok (.if_icmp .ge 22, 3) := by decide +kernel
theorem dX1_init_21 : decode cX1_init 21 = .ok (.aload_n 0, 1) := by decide +kernel
theorem dX1_init_22 : decode cX1_init 22 = .ok (.getfield 11, 3) := by decide +kernel
theorem dX1_init_25 : decode cX1_init 25 = .ok (.iload_n 1, 1) := by decide +kernel
theorem dX1_init_26 : decode cX1_init 26 = .ok (.new 9, 3) := by decide +kernel
theorem dX1_init_29 : decode cX1_init 29 = .ok (.dup, 1) := by decide +kernel
theorem dX1_init_30 : decode cX1_init 30 = .ok (.invokespecial 17, 3) := by decide +kernel
theorem dX1_init_33 : decode cX1_init 33 = .ok (.aastore, 1) := by decide +kernel
theorem dX1_init_34 : decode cX1_init 34 = .ok (.iinc 1 1, 3) := by decide +kernel
theorem dX1_init_37 : decode cX1_init 37 = .ok (.goto (-22), 3) := by decide +kernel
theorem dX1_init_40 : decode cX1_init 40 = .ok (.return_, 1) := by decide +kernel
theorem dX1_forget_0 : decode cX1_forget 0 = .ok (.aload_n 0, 1) := by decide +kernel
theorem dX1_forget_1 : decode cX1_forget 1 = .ok (.iconst 0, 1) := by decide +kernel
theorem dX1_forget_2 : decode cX1_forget 2 = .ok (.putfield 18, 3) := by decide +kernel
theorem dX1_forget_5 : decode cX1_forget 5 = .ok (.return_, 1) := by decide +kernel
theorem dX1_keep_0 : decode cX1_keep 0 = .ok (.aload_n 0, 1) := by decide +kernel
theorem dX1_keep_1 : decode cX1_keep 1 = .ok (.getfield 11, 3) := by decide +kernel
theorem dX1_keep_4 : decode cX1_keep 4 = .ok (.aload_n 0, 1) := by decide +kernel
theorem dX1_keep_5 : decode cX1_keep 5 = .ok (.getfield 22, 3) := by decide +kernel
theorem dX1_keep_8 : decode cX1_keep 8 = .ok (.aaload, 1) := by decide +kernel
theorem dX1_keep_9 : decode cX1_keep 9 = .ok (.aload_n 1, 1) := by decide +kernel
theorem dX1_keep_10 : decode cX1_keep 10 = .ok (.invokevirtual 25, 3) := by decide +kernel
theorem dX1_keep_13 : decode cX1_keep 13 = .ok (.aload_n 0, 1) := by decide +kernel
theorem dX1_keep_14 : decode cX1_keep 14 = .ok (.aload_n 0, 1) := by decide +kernel
theorem dX1_keep_15 : decode cX1_keep 15 = .ok (.getfield 22, 3) := by decide +kernel
theorem dX1_keep_18 : decode cX1_keep 18 = .ok (.iconst 1, 1) := by decide +kernel
theorem dX1_keep_19 : decode cX1_keep 19 = .ok (.iadd, 1) := by decide +kernel
theorem dX1_keep_20 : decode cX1_keep 20 = .ok (.bipush 6, 2) := by decide +kernel
theorem dX1_keep_22 : decode cX1_keep 22 = .ok (.irem, 1) := by decide +kernel
theorem dX1_keep_23 : decode cX1_keep 23 = .ok (.putfield 22, 3) := by decide +kernel
theorem dX1_keep_26 : decode cX1_keep 26 = .ok (.aload_n 0, 1) := by decide +kernel
theorem dX1_keep_27 : decode cX1_keep 27 = .ok (.aload_n 0, 1) := by decide +kernel
theorem dX1_keep_28 : decode cX1_keep 28 = .ok (.getfield 18, 3) := by decide +kernel
theorem dX1_keep_31 : decode cX1_keep 31 = .ok (.iconst 1, 1) := by decide +kernel
theorem dX1_keep_32 : decode cX1_keep 32 = .ok (.iadd, 1) := by decide +kernel
theorem dX1_keep_33 : decode cX1_keep 33 = .ok (.bipush 6, 2) := by decide +kernel
theorem dX1_keep_35 : decode cX1_keep 35 = .ok (.invokestatic 29, 3) := by decide +kernel
theorem dX1_keep_38 : decode cX1_keep 38 = .ok (.putfield 18, 3) := by decide +kernel
theorem dX1_keep_41 : decode cX1_keep 41 = .ok (.return_, 1) := by decide +kernel
theorem dX1_goBack_0 : decode cX1_goBack 0 = .ok (.aload_n 0, 1) := by decide +kernel
theorem dX1_goBack_1 : decode cX1_goBack 1 = .ok (.getfield 18, 3) := by decide +kernel
theorem dX1_goBack_4 : decode cX1_goBack 4 = .ok (.ifCond .ne 5, 3) := by decide +kernel
theorem dX1_goBack_7 : decode cX1_goBack 7 = .ok (.iconst 0, 1) := by decide +kernel
theorem dX1_goBack_8 : decode cX1_goBack 8 = .ok (.ireturn, 1) := by decide +kernel
theorem dX1_goBack_9 : decode cX1_goBack 9 = .ok (.aload_n 0, 1) := by decide +kernel
theorem dX1_goBack_10 : decode cX1_goBack 10 = .ok (.aload_n 0, 1) := by decide +kernel
theorem dX1_goBack_11 : decode cX1_goBack 11 = .ok (.getfield 22, 3) := by decide +kernel
theorem dX1_goBack_14 : decode cX1_goBack 14 = .ok (.bipush 6, 2) := by decide +kernel
theorem dX1_goBack_16 : decode cX1_goBack 16 = .ok (.iadd, 1) := by decide +kernel
theorem dX1_goBack_17 : decode cX1_goBack 17 = .ok (.iconst 1, 1) := by decide +kernel
theorem dX1_goBack_18 : decode cX1_goBack 18 = .ok (.isub, 1) := by decide +kernel
theorem dX1_goBack_19 : decode cX1_goBack 19 = .ok (.bipush 6, 2) := by decide +kernel
theorem dX1_goBack_21 : decode cX1_goBack 21 = .ok (.irem, 1) := by decide +kernel
theorem dX1_goBack_22 : decode cX1_goBack 22 = .ok (.putfield 22, 3) := by decide +kernel
theorem dX1_goBack_25 : decode cX1_goBack 25 = .ok (.aload_n 0, 1) := by decide +kernel
theorem dX1_goBack_26 : decode cX1_goBack 26 = .ok (.dup, 1) := by decide +kernel
theorem dX1_goBack_27 : decode cX1_goBack 27 = .ok (.getfield 18, 3) := by decide +kernel
theorem dX1_goBack_30 : decode cX1_goBack 30 = .ok (.iconst 1, 1) := by decide +kernel
theorem dX1_goBack_31 : decode cX1_goBack 31 = .ok (.isub, 1) := by decide +kernel
theorem dX1_goBack_32 : decode cX1_goBack 32 = .ok (.putfield 18, 3) := by decide +kernel
theorem dX1_goBack_35 : decode cX1_goBack 35 = .ok (.aload_n 1, 1) := by decide +kernel
theorem dX1_goBack_36 : decode cX1_goBack 36 = .ok (.aload_n 0, 1) := by decide +kernel
theorem dX1_goBack_37 : decode cX1_goBack 37 = .ok (.getfield 11, 3) := by decide +kernel
theorem dX1_goBack_40 : decode cX1_goBack 40 = .ok (.aload_n 0, 1) := by decide +kernel
theorem dX1_goBack_41 : decode cX1_goBack 41 = .ok (.getfield 22, 3) := by decide +kernel
theorem dX1_goBack_44 : decode cX1_goBack 44 = .ok (.aaload, 1) := by decide +kernel
theorem dX1_goBack_45 : decode cX1_goBack 45 = .ok (.invokevirtual 25, 3) := by decide +kernel
theorem dX1_goBack_48 : decode cX1_goBack 48 = .ok (.iconst 1, 1) := by decide +kernel
theorem dX1_goBack_49 : decode cX1_goBack 49 = .ok (.ireturn, 1) := by decide +kernel
theorem dX2_init_0 : decode cX2_init 0 = .ok (.aload_n 0, 1) := by decide +kernel
theorem dX2_init_1 : decode cX2_init 1 = .ok (.invokespecial 3, 3) := by decide +kernel
theorem dX2_init_4 : decode cX2_init 4 = .ok (.aload_n 0, 1) := by decide +kernel
theorem dX2_init_5 : decode cX2_init 5 = .ok (.new 9, 3) := by decide +kernel
theorem dX2_init_8 : decode cX2_init 8 = .ok (.dup, 1) := by decide +kernel
theorem dX2_init_9 : decode cX2_init 9 = .ok (.invokespecial 11, 3) := by decide +kernel
theorem dX2_init_12 : decode cX2_init 12 = .ok (.putfield 12, 3) := by decide +kernel
theorem dX2_init_15 : decode cX2_init 15 = .ok (.aload_n 0, 1) := by decide +kernel
theorem dX2_init_16 : decode cX2_init 16 = .ok (.new 18, 3) := by decide +kernel
theorem dX2_init_19 : decode cX2_init 19 = .ok (.dup, 1) := by decide +kernel
theorem dX2_init_20 : decode cX2_init 20 = .ok (.invokespecial 20, 3) := by decide +kernel
theorem dX2_init_23 : decode cX2_init 23 = .ok (.putfield 21, 3) := by decide +kernel
theorem dX2_init_26 : decode cX2_init 26 = .ok (.aload_n 0, 1) := by decide +kernel
theorem dX2_init_27 : decode cX2_init 27 = .ok (.sipush 600, 3) := by decide +kernel
theorem dX2_init_30 : decode cX2_init 30 = .ok (.newarray .int, 2) := by decide +kernel
theorem dX2_init_32 : decode cX2_init 32 = .ok (.putfield 25, 3) := by decide +kernel
theorem dX2_init_35 : decode cX2_init 35 = .ok (.aload_n 0, 1) := by decide +kernel
theorem dX2_init_36 : decode cX2_init 36 = .ok (.new 29, 3) := by decide +kernel
theorem dX2_init_39 : decode cX2_init 39 = .ok (.dup, 1) := by decide +kernel
theorem dX2_init_40 : decode cX2_init 40 = .ok (.invokespecial 31, 3) := by decide +kernel
theorem dX2_init_43 : decode cX2_init 43 = .ok (.putfield 32, 3) := by decide +kernel
theorem dX2_init_46 : decode cX2_init 46 = .ok (.return_, 1) := by decide +kernel
theorem dX2_take_0 : decode cX2_take 0 = .ok (.aload_n 0, 1) := by decide +kernel
theorem dX2_take_1 : decode cX2_take 1 = .ok (.getfield 12, 3) := by decide +kernel
theorem dX2_take_4 : decode cX2_take 4 = .ok (.aload_n 1, 1) := by decide +kernel
theorem dX2_take_5 : decode cX2_take 5 = .ok (.invokevirtual 36, 3) := by decide +kernel
theorem dX2_take_8 : decode cX2_take 8 = .ok (.aload_n 0, 1) := by decide +kernel
theorem dX2_take_9 : decode cX2_take 9 = .ok (.getfield 21, 3) := by decide +kernel
theorem dX2_take_12 : decode cX2_take 12 = .ok (.aload_n 2, 1) := by decide +kernel
theorem dX2_take_13 : decode cX2_take 13 = .ok (.invokevirtual 40, 3) := by decide +kernel
theorem dX2_take_16 : decode cX2_take 16 = .ok (.aload_n 3, 1) := by decide +kernel
theorem dX2_take_17 : decode cX2_take 17 = .ok (.iconst 0, 1) := by decide +kernel
theorem dX2_take_18 : decode cX2_take 18 = .ok (.aload_n 0, 1) := by decide +kernel
theorem dX2_take_19 : decode cX2_take 19 = .ok (.getfield 25, 3) := by decide +kernel
theorem dX2_take_22 : decode cX2_take 22 = .ok (.iconst 0, 1) := by decide +kernel
theorem dX2_take_23 : decode cX2_take 23 = .ok (.aload_n 0, 1) := by decide +kernel
theorem dX2_take_24 : decode cX2_take 24 = .ok (.getfield 25, 3) := by decide +kernel
theorem dX2_take_27 : decode cX2_take 27 = .ok (.arraylength, 1) := by decide +kernel
theorem dX2_take_28 : decode cX2_take 28 = .ok (.invokestatic 43, 3) := by decide +kernel
theorem dX2_take_31 : decode cX2_take 31 = .ok (.aload_n 0, 1) := by decide +kernel
theorem dX2_take_32 : decode cX2_take 32 = .ok (.getfield 32, 3) := by decide +kernel
theorem dX2_take_35 : decode cX2_take 35 = .ok (.aload 4, 2) := by decide +kernel
theorem dX2_take_37 : decode cX2_take 37 = .ok (.invokevirtual 49, 3) := by decide +kernel
theorem dX2_take_40 : decode cX2_take 40 = .ok (.return_, 1) := by decide +kernel
theorem dX2_give_0 : decode cX2_give 0 = .ok (.aload_n 1, 1) := by decide +kernel
theorem dX2_give_1 : decode cX2_give 1 = .ok (.aload_n 0, 1) := by decide +kernel
theorem dX2_give_2 : decode cX2_give 2 = .ok (.getfield 12, 3) := by decide +kernel
theorem dX2_give_5 : decode cX2_give 5 = .ok (.invokevirtual 36, 3) := by decide +kernel
theorem dX2_give_8 : decode cX2_give 8 = .ok (.aload_n 2, 1) := by decide +kernel
theorem dX2_give_9 : decode cX2_give 9 = .ok (.aload_n 0, 1) := by decide +kernel
theorem dX2_give_10 : decode cX2_give 10 = .ok (.getfield 21, 3) := by decide +kernel
theorem dX2_give_13 : decode cX2_give 13 = .ok (.invokevirtual 40, 3) := by decide +kernel
theorem dX2_give_16 : decode cX2_give 16 = .ok (.aload_n 0, 1) := by decide +kernel
theorem dX2_give_17 : decode cX2_give 17 = .ok (.getfield 25, 3) := by decide +kernel
theorem dX2_give_20 : decode cX2_give 20 = .ok (.iconst 0, 1) := by decide +kernel
theorem dX2_give_21 : decode cX2_give 21 = .ok (.aload_n 3, 1) := by decide +kernel
theorem dX2_give_22 : decode cX2_give 22 = .ok (.iconst 0, 1) := by decide +kernel
theorem dX2_give_23 : decode cX2_give 23 = .ok (.aload_n 0, 1) := by decide +kernel
theorem dX2_give_24 : decode cX2_give 24 = .ok (.getfield 25, 3) := by decide +kernel
theorem dX2_give_27 : decode cX2_give 27 = .ok (.arraylength, 1) := by decide +kernel
theorem dX2_give_28 : decode cX2_give 28 = .ok (.invokestatic 43, 3) := by decide +kernel
theorem dX2_give_31 : decode cX2_give 31 = .ok (.aload 4, 2) := by decide +kernel
theorem dX2_give_33 : decode cX2_give 33 = .ok (.aload_n 0, 1) := by decide +kernel
theorem dX2_give_34 : decode cX2_give 34 = .ok (.getfield 32, 3) := by decide +kernel
theorem dX2_give_37 : decode cX2_give 37 = .ok (.invokevirtual 49, 3) := by decide +kernel
theorem dX2_give_40 : decode cX2_give 40 = .ok (.return_, 1) := by decide +kernel
theorem dX3_init_0 : decode cX3_init 0 = .ok (.aload_n 0, 1) := by decide +kernel
theorem dX3_init_1 : decode cX3_init 1 = .ok (.invokespecial 3, 3) := by decide +kernel
theorem dX3_init_4 : decode cX3_init 4 = .ok (.aload_n 0, 1) := by decide +kernel
theorem dX3_init_5 : decode cX3_init 5 = .ok (.new 9, 3) := by decide +kernel
theorem dX3_init_8 : decode cX3_init 8 = .ok (.dup, 1) := by decide +kernel
theorem dX3_init_9 : decode cX3_init 9 = .ok (.invokespecial 11, 3) := by decide +kernel
theorem dX3_init_12 : decode cX3_init 12 = .ok (.putfield 12, 3) := by decide +kernel
theorem dX3_init_15 : decode cX3_init 15 = .ok (.aload_n 0, 1) := by decide +kernel
theorem dX3_init_16 : decode cX3_init 16 = .ok (.sipush 400, 3) := by decide +kernel
theorem dX3_init_19 : decode cX3_init 19 = .ok (.newarray .int, 2) := by decide +kernel
theorem dX3_init_21 : decode cX3_init 21 = .ok (.putfield 18, 3) := by decide +kernel
theorem dX3_init_24 : decode cX3_init 24 = .ok (.aload_n 0, 1) := by decide +kernel
theorem dX3_init_25 : decode cX3_init 25 = .ok (.sipush 401, 3) := by decide +kernel
theorem dX3_init_28 : decode cX3_init 28 = .ok (.newarray .int, 2) := by decide +kernel
theorem dX3_init_30 : decode cX3_init 30 = .ok (.putfield 22, 3) := by decide +kernel
theorem dX3_init_33 : decode cX3_init 33 = .ok (.aload_n 0, 1) := by decide +kernel
theorem dX3_init_34 : decode cX3_init 34 = .ok (.sipush 401, 3) := by decide +kernel
theorem dX3_init_37 : decode cX3_init 37 = .ok (.newarray .int, 2) := by decide +kernel
theorem dX3_init_39 : decode cX3_init 39 = .ok (.putfield 25, 3) := by decide +kernel
theorem dX3_init_42 : decode cX3_init 42 = .ok (.aload_n 0, 1) := by decide +kernel
theorem dX3_init_43 : decode cX3_init 43 = .ok (.sipush 401, 3) := by decide +kernel
theorem dX3_init_46 : decode cX3_init 46 = .ok (.newarray .int, 2) := by decide +kernel
theorem dX3_init_48 : decode cX3_init 48 = .ok (.putfield 28, 3) := by decide +kernel
theorem dX3_init_51 : decode cX3_init 51 = .ok (.aload_n 0, 1) := by decide +kernel
theorem dX3_init_52 : decode cX3_init 52 = .ok (.iconst (-1), 1) := by decide +kernel
theorem dX3_init_53 : decode cX3_init 53 = .ok (.putfield 31, 3) := by decide +kernel
theorem dX3_init_56 : decode cX3_init 56 = .ok (.aload_n 0, 1) := by decide +kernel
theorem dX3_init_57 : decode cX3_init 57 = .ok (.ldc 35, 2) := by decide +kernel
theorem dX3_init_59 : decode cX3_init 59 = .ok (.putfield 37, 3) := by decide +kernel
theorem dX3_init_62 : decode cX3_init 62 = .ok (.return_, 1) := by decide +kernel
theorem dX3_hasRoom_0 : decode cX3_hasRoom 0 = .ok (.aload_n 0, 1) := by decide +kernel
theorem dX3_hasRoom_1 : decode cX3_hasRoom 1 = .ok (.getfield 41, 3) := by decide +kernel
theorem dX3_hasRoom_4 : decode cX3_hasRoom 4 = .ok (.iload_n 1, 1) := by decide +kernel
theorem dX3_hasRoom_5 : decode cX3_hasRoom 5 = .ok (.iadd, 1) := by decide +kernel
theorem dX3_hasRoom_6 : decode cX3_hasRoom 6 = .ok (.sipush 400, 3) := by decide +kernel
theorem dX3_hasRoom_9 : decode cX3_hasRoom 9 = .ok (.if_icmp .gt 7, 3) := by decide +kernel
theorem dX3_hasRoom_12 : decode cX3_hasRoom 12 = .ok (.iconst 1, 1) := by decide +kernel
theorem dX3_hasRoom_13 : decode cX3_hasRoom 13 = .ok (.goto 4, 3) := by decide +kernel
theorem dX3_hasRoom_16 : decode cX3_hasRoom 16 = .ok (.iconst 0, 1) := by decide +kernel
theorem dX3_hasRoom_17 : decode cX3_hasRoom 17 = .ok (.ireturn, 1) := by decide +kernel
theorem dX3_take_0 : decode cX3_take 0 = .ok (.bipush 24, 2) := by decide +kernel
theorem dX3_take_2 : decode cX3_take 2 = .ok (.istore_n 2, 1) := by decide +kernel
theorem dX3_take_3 : decode cX3_take 3 = .ok (.iload_n 2, 1) := by decide +kernel
theorem dX3_take_4 : decode cX3_take 4 = .ok (.ifCond .lt 45, 3) := by decide +kernel
theorem dX3_take_7 : decode cX3_take 7 = .ok (.aload_n 0, 1) := by decide +kernel
theorem dX3_take_8 : decode cX3_take 8 = .ok (.getfield 41, 3) := by decide +kernel
theorem dX3_take_11 : decode cX3_take 11 = .ok (.sipush 400, 3) := by decide +kernel
theorem dX3_take_14 : decode cX3_take 14 = .ok (.if_icmp .ge 29, 3) := by decide +kernel
theorem dX3_take_17 : decode cX3_take 17 = .ok (.aload_n 0, 1) := by decide +kernel
theorem dX3_take_18 : decode cX3_take 18 = .ok (.getfield 18, 3) := by decide +kernel
theorem dX3_take_21 : decode cX3_take 21 = .ok (.aload_n 0, 1) := by decide +kernel
theorem dX3_take_22 : decode cX3_take 22 = .ok (.getfield 41, 3) := by decide +kernel
theorem dX3_take_25 : decode cX3_take 25 = .ok (.iload_n 1, 1) := by decide +kernel
theorem dX3_take_26 : decode cX3_take 26 = .ok (.iload_n 2, 1) := by decide +kernel
theorem dX3_take_27 : decode cX3_take 27 = .ok (.iushr, 1) := by decide +kernel
theorem dX3_take_28 : decode cX3_take 28 = .ok (.sipush 255, 3) := by decide +kernel
theorem dX3_take_31 : decode cX3_take 31 = .ok (.iand, 1) := by decide +kernel
theorem dX3_take_32 : decode cX3_take 32 = .ok (.iastore, 1) := by decide +kernel
theorem dX3_take_33 : decode cX3_take 33 = .ok (.aload_n 0, 1) := by decide +kernel
theorem dX3_take_34 : decode cX3_take 34 = .ok (.dup, 1) := by decide +kernel
theorem dX3_take_35 : decode cX3_take 35 = .ok (.getfield 41, 3) := by decide +kernel
theorem dX3_take_38 : decode cX3_take 38 = .ok (.iconst 1, 1) := by decide +kernel
theorem dX3_take_39 : decode cX3_take 39 = .ok (.iadd, 1) := by decide +kernel
theorem dX3_take_40 : decode cX3_take 40 = .ok (.putfield 41, 3) := by decide +kernel
theorem dX3_take_43 : decode cX3_take 43 = .ok (.iinc 2 (-8), 3) := by decide +kernel
theorem dX3_take_46 : decode cX3_take 46 = .ok (.goto (-43), 3) := by decide +kernel
theorem dX3_take_49 : decode cX3_take 49 = .ok (.aload_n 0, 1) := by decide +kernel
theorem dX3_take_50 : decode cX3_take 50 = .ok (.getfield 41, 3) := by decide +kernel
theorem dX3_take_53 : decode cX3_take 53 = .ok (.ireturn, 1) := by decide +kernel
theorem dX3_cut_0 : decode cX3_cut 0 = .ok (.iload_n 1, 1) := by decide +kernel
theorem dX3_cut_1 : decode cX3_cut 1 = .ok (.ifCond .lt 11, 3) := by decide +kernel
theorem dX3_cut_4 : decode cX3_cut 4 = .ok (.iload_n 1, 1) := by decide +kernel
theorem dX3_cut_5 : decode cX3_cut 5 = .ok (.aload_n 0, 1) := by decide +kernel
theorem dX3_cut_6 : decode cX3_cut 6 = .ok (.getfield 41, 3) := by decide +kernel
theorem dX3_cut_9 : decode cX3_cut 9 = .ok (.if_icmp .le 5, 3) := by decide +kernel
theorem dX3_cut_12 : decode cX3_cut 12 = .ok (.iconst 0, 1) := by decide +kernel
theorem dX3_cut_13 : decode cX3_cut 13 = .ok (.ireturn, 1) := by decide +kernel
theorem dX3_cut_14 : decode cX3_cut 14 = .ok (.aload_n 0, 1) := by decide +kernel
theorem dX3_cut_15 : decode cX3_cut 15 = .ok (.iload_n 1, 1) := by decide +kernel
theorem dX3_cut_16 : decode cX3_cut 16 = .ok (.putfield 41, 3) := by decide +kernel
theorem dX3_cut_19 : decode cX3_cut 19 = .ok (.iconst 1, 1) := by decide +kernel
theorem dX3_cut_20 : decode cX3_cut 20 = .ok (.ireturn, 1) := by decide +kernel
theorem dX3_read_0 : decode cX3_read 0 = .ok (.aload_n 0, 1) := by decide +kernel
theorem dX3_read_1 : decode cX3_read 1 = .ok (.iconst 0, 1) := by decide +kernel
theorem dX3_read_2 : decode cX3_read 2 = .ok (.putfield 44, 3) := by decide +kernel
theorem dX3_read_5 : decode cX3_read 5 = .ok (.aload_n 0, 1) := by decide +kernel
theorem dX3_read_6 : decode cX3_read 6 = .ok (.iconst (-1), 1) := by decide +kernel
theorem dX3_read_7 : decode cX3_read 7 = .ok (.putfield 31, 3) := by decide +kernel
theorem dX3_read_10 : decode cX3_read 10 = .ok (.iload_n 1, 1) := by decide +kernel
theorem dX3_read_11 : decode cX3_read 11 = .ok (.ifCond .lt 12, 3) := by decide +kernel
theorem dX3_read_14 : decode cX3_read 14 = .ok (.iload_n 1, 1) := by decide +kernel
theorem dX3_read_15 : decode cX3_read 15 = .ok (.iconst 3, 1) := by decide +kernel
theorem dX3_read_16 : decode cX3_read 16 = .ok (.if_icmp .gt 7, 3) := by decide +kernel
theorem dX3_read_19 : decode cX3_read 19 = .ok (.iconst 1, 1) := by decide +kernel
theorem dX3_read_20 : decode cX3_read 20 = .ok (.goto 4, 3) := by decide +kernel
theorem dX3_read_23 : decode cX3_read 23 = .ok (.iconst 0, 1) := by decide +kernel
theorem dX3_read_24 : decode cX3_read 24 = .ok (.istore_n 3, 1) := by decide +kernel
theorem dX3_read_25 : decode cX3_read 25 = .ok (.iload_n 3, 1) := by decide +kernel
theorem dX3_read_26 : decode cX3_read 26 = .ok (.ifCond .eq 67, 3) := by decide +kernel
theorem dX3_read_29 : decode cX3_read 29 = .ok (.aload_n 0, 1) := by decide +kernel
theorem dX3_read_30 : decode cX3_read 30 = .ok (.iload_n 1, 1) := by decide +kernel
theorem dX3_read_31 : decode cX3_read 31 = .ok (.invokestatic 47, 3) := by decide +kernel
theorem dX3_read_34 : decode cX3_read 34 = .ok (.putfield 37, 3) := by decide +kernel
theorem dX3_read_37 : decode cX3_read 37 = .ok (.aload_n 0, 1) := by decide +kernel
theorem dX3_read_38 : decode cX3_read 38 = .ok (.iload_n 2, 1) := by decide +kernel
theorem dX3_read_39 : decode cX3_read 39 = .ok (.putfield 51, 3) := by decide +kernel
theorem dX3_read_42 : decode cX3_read 42 = .ok (.aload_n 0, 1) := by decide +kernel
theorem dX3_read_43 : decode cX3_read 43 = .ok (.getfield 12, 3) := by decide +kernel
theorem dX3_read_46 : decode cX3_read 46 = .ok (.iload_n 1, 1) := by decide +kernel
theorem dX3_read_47 : decode cX3_read 47 = .ok (.invokevirtual 54, 3) := by decide +kernel
theorem dX3_read_50 : decode cX3_read 50 = .ok (.aload_n 0, 1) := by decide +kernel
theorem dX3_read_51 : decode cX3_read 51 = .ok (.invokevirtual 58, 3) := by decide +kernel
theorem dX3_read_54 : decode cX3_read 54 = .ok (.aload_n 0, 1) := by decide +kernel
theorem dX3_read_55 : decode cX3_read 55 = .ok (.invokevirtual 61, 3) := by decide +kernel
theorem dX3_read_58 : decode cX3_read 58 = .ok (.iconst 0, 1) := by decide +kernel
theorem dX3_read_59 : decode cX3_read 59 = .ok (.istore 4, 2) := by decide +kernel
theorem dX3_read_61 : decode cX3_read 61 = .ok (.iload 4, 2) := by decide +kernel
theorem dX3_read_63 : decode cX3_read 63 = .ok (.bipush 16, 2) := by decide +kernel
theorem dX3_read_65 : decode cX3_read 65 = .ok (.if_icmp .gt 28, 3) := by decide +kernel
theorem dX3_read_68 : decode cX3_read 68 = .ok (.iload_n 3, 1) := by decide +kernel
theorem dX3_read_69 : decode cX3_read 69 = .ok (.ifCond .eq 24, 3) := by decide +kernel
theorem dX3_read_72 : decode cX3_read 72 = .ok (.aload_n 0, 1) := by decide +kernel
theorem dX3_read_73 : decode cX3_read 73 = .ok (.getfield 64, 3) := by decide +kernel
theorem dX3_read_76 : decode cX3_read 76 = .ok (.ifCond .eq 17, 3) := by decide +kernel
theorem dX3_read_79 : decode cX3_read 79 = .ok (.aload_n 0, 1) := by decide +kernel
theorem dX3_read_80 : decode cX3_read 80 = .ok (.iload_n 1, 1) := by decide +kernel
theorem dX3_read_81 : decode cX3_read 81 = .ok (.iload 4, 2) := by decide +kernel
theorem dX3_read_83 : decode cX3_read 83 = .ok (.invokevirtual 67, 3) := by decide +kernel
theorem dX3_read_86 : decode cX3_read 86 = .ok (.istore_n 3, 1) := by decide +kernel
theorem dX3_read_87 : decode cX3_read 87 = .ok (.iinc 4 1, 3) := by decide +kernel
theorem dX3_read_90 : decode cX3_read 90 = .ok (.goto (-29), 3) := by decide +kernel
theorem dX3_read_93 : decode cX3_read 93 = .ok (.aload_n 0, 1) := by decide +kernel
theorem dX3_read_94 : decode cX3_read 94 = .ok (.iconst 0, 1) := by decide +kernel
theorem dX3_read_95 : decode cX3_read 95 = .ok (.putfield 41, 3) := by decide +kernel
theorem dX3_read_98 : decode cX3_read 98 = .ok (.iload_n 3, 1) := by decide +kernel
theorem dX3_read_99 : decode cX3_read 99 = .ok (.ifCond .eq 14, 3) := by decide +kernel
theorem dX3_read_102 : decode cX3_read 102 = .ok (.aload_n 0, 1) := by decide +kernel
theorem dX3_read_103 : decode cX3_read 103 = .ok (.getfield 12, 3) := by decide +kernel
theorem dX3_read_106 : decode cX3_read 106 = .ok (.iload_n 1, 1) := by decide +kernel
theorem dX3_read_107 : decode cX3_read 107 = .ok (.invokevirtual 71, 3) := by decide +kernel
theorem dX3_read_110 : decode cX3_read 110 = .ok (.goto 4, 3) := by decide +kernel
theorem dX3_read_113 : decode cX3_read 113 = .ok (.iconst (-1), 1) := by decide +kernel
theorem dX3_read_114 : decode cX3_read 114 = .ok (.ireturn, 1) := by decide +kernel
theorem dX3_wordsOf_0 : decode cX3_wordsOf 0 = .ok (.iload_n 0, 1) := by decide +kernel
theorem dX3_wordsOf_1 : decode cX3_wordsOf 1 = .ok (.tableswitch 36 0 2 #[27, 30, 33], 27) := by decide +kernel
theorem dX3_wordsOf_28 : decode cX3_wordsOf 28 = .ok (.ldc 35, 2) := by decide +kernel
theorem dX3_wordsOf_30 : decode cX3_wordsOf 30 = .ok (.areturn, 1) := by decide +kernel
theorem dX3_wordsOf_31 : decode cX3_wordsOf 31 = .ok (.ldc 75, 2) := by decide +kernel
theorem dX3_wordsOf_33 : decode cX3_wordsOf 33 = .ok (.areturn, 1) := by decide +kernel
theorem dX3_wordsOf_34 : decode cX3_wordsOf 34 = .ok (.ldc 77, 2) := by decide +kernel
theorem dX3_wordsOf_36 : decode cX3_wordsOf 36 = .ok (.areturn, 1) := by decide +kernel
theorem dX3_wordsOf_37 : decode cX3_wordsOf 37 = .ok (.ldc 79, 2) := by decide +kernel
theorem dX3_wordsOf_39 : decode cX3_wordsOf 39 = .ok (.areturn, 1) := by decide +kernel
theorem dX3_readLine_0 : decode cX3_readLine 0 = .ok (.iload_n 1, 1) := by decide +kernel
theorem dX3_readLine_1 : decode cX3_readLine 1 = .ok (.ifCond .ne 7, 3) := by decide +kernel
theorem dX3_readLine_4 : decode cX3_readLine 4 = .ok (.iconst 2, 1) := by decide +kernel
theorem dX3_readLine_5 : decode cX3_readLine 5 = .ok (.goto 4, 3) := by decide +kernel
theorem dX3_readLine_8 : decode cX3_readLine 8 = .ok (.iconst 0, 1) := by decide +kernel
theorem dX3_readLine_9 : decode cX3_readLine 9 = .ok (.istore_n 3, 1) := by decide +kernel
theorem dX3_readLine_10 : decode cX3_readLine 10 = .ok (.aload_n 0, 1) := by decide +kernel
theorem dX3_readLine_11 : decode cX3_readLine 11 = .ok (.getfield 64, 3) := by decide +kernel
theorem dX3_readLine_14 : decode cX3_readLine 14 = .ok (.iconst 1, 1) := by decide +kernel
theorem dX3_readLine_15 : decode cX3_readLine 15 = .ok (.if_icmp .ne 11, 3) := by decide +kernel
theorem dX3_readLine_18 : decode cX3_readLine 18 = .ok (.aload_n 0, 1) := by decide +kernel
theorem dX3_readLine_19 : decode cX3_readLine 19 = .ok (.getfield 81, 3) := by decide +kernel
theorem dX3_readLine_22 : decode cX3_readLine 22 = .ok (.iload_n 3, 1) := by decide +kernel
theorem dX3_readLine_23 : decode cX3_readLine 23 = .ok (.if_icmp .le 9, 3) := by decide +kernel
theorem dX3_readLine_26 : decode cX3_readLine 26 = .ok (.aload_n 0, 1) := by decide +kernel
theorem dX3_readLine_27 : decode cX3_readLine 27 = .ok (.iconst 1, 1) := by decide +kernel
theorem dX3_readLine_28 : decode cX3_readLine 28 = .ok (.invokevirtual 84, 3) := by decide +kernel
theorem dX3_readLine_31 : decode cX3_readLine 31 = .ok (.ireturn, 1) := by decide +kernel
theorem dX3_readLine_32 : decode cX3_readLine 32 = .ok (.iload_n 2, 1) := by decide +kernel
theorem dX3_readLine_33 : decode cX3_readLine 33 = .ok (.bipush 16, 2) := by decide +kernel
theorem dX3_readLine_35 : decode cX3_readLine 35 = .ok (.if_icmp .lt 9, 3) := by decide +kernel
theorem dX3_readLine_38 : decode cX3_readLine 38 = .ok (.aload_n 0, 1) := by decide +kernel
theorem dX3_readLine_39 : decode cX3_readLine 39 = .ok (.iconst 3, 1) := by decide +kernel
theorem dX3_readLine_40 : decode cX3_readLine 40 = .ok (.invokevirtual 84, 3) := by decide +kernel
theorem dX3_readLine_43 : decode cX3_readLine 43 = .ok (.ireturn, 1) := by decide +kernel
theorem dX3_readLine_44 : decode cX3_readLine 44 = .ok (.aload_n 0, 1) := by decide +kernel
theorem dX3_readLine_45 : decode cX3_readLine 45 = .ok (.getfield 81, 3) := by decide +kernel
theorem dX3_readLine_48 : decode cX3_readLine 48 = .ok (.istore 4, 2) := by decide +kernel
theorem dX3_readLine_50 : decode cX3_readLine 50 = .ok (.aload_n 0, 1) := by decide +kernel
theorem dX3_readLine_51 : decode cX3_readLine 51 = .ok (.invokevirtual 61, 3) := by decide +kernel
theorem dX3_readLine_54 : decode cX3_readLine 54 = .ok (.iload_n 1, 1) := by decide +kernel
theorem dX3_readLine_55 : decode cX3_readLine 55 = .ok (.tableswitch 93 0 2 #[25, 49, 71], 25) := by decide +kernel
theorem dX3_readLine_80 : decode cX3_readLine 80 = .ok (.aload_n 0, 1) := by decide +kernel
theorem dX3_readLine_81 : decode cX3_readLine 81 = .ok (.iload 4, 2) := by decide +kernel
theorem dX3_readLine_83 : decode cX3_readLine 83 = .ok (.invokevirtual 88, 3) := by decide +kernel
theorem dX3_readLine_86 : decode cX3_readLine 86 = .ok (.ifCond .eq 16, 3) := by decide +kernel
theorem dX3_readLine_89 : decode cX3_readLine 89 = .ok (.aload_n 0, 1) := by decide +kernel
theorem dX3_readLine_90 : decode cX3_readLine 90 = .ok (.bipush 59, 2) := by decide +kernel
theorem dX3_readLine_92 : decode cX3_readLine 92 = .ok (.invokevirtual 91, 3) := by decide +kernel
theorem dX3_readLine_95 : decode cX3_readLine 95 = .ok (.ifCond .eq 7, 3) := by decide +kernel
theorem dX3_readLine_98 : decode cX3_readLine 98 = .ok (.iconst 1, 1) := by decide +kernel
theorem dX3_readLine_99 : decode cX3_readLine 99 = .ok (.goto 4, 3) := by decide +kernel
theorem dX3_readLine_102 : decode cX3_readLine 102 = .ok (.iconst 0, 1) := by decide +kernel
theorem dX3_readLine_103 : decode cX3_readLine 103 = .ok (.ireturn, 1) := by decide +kernel
theorem dX3_readLine_104 : decode cX3_readLine 104 = .ok (.aload_n 0, 1) := by decide +kernel
theorem dX3_readLine_105 : decode cX3_readLine 105 = .ok (.invokevirtual 94, 3) := by decide +kernel
theorem dX3_readLine_108 : decode cX3_readLine 108 = .ok (.ifCond .eq 16, 3) := by decide +kernel
theorem dX3_readLine_111 : decode cX3_readLine 111 = .ok (.aload_n 0, 1) := by decide +kernel
theorem dX3_readLine_112 : decode cX3_readLine 112 = .ok (.bipush 59, 2) := by decide +kernel
theorem dX3_readLine_114 : decode cX3_readLine 114 = .ok (.invokevirtual 91, 3) := by decide +kernel
theorem dX3_readLine_117 : decode cX3_readLine 117 = .ok (.ifCond .eq 7, 3) := by decide +kernel
theorem dX3_readLine_120 : decode cX3_readLine 120 = .ok (.iconst 1, 1) := by decide +kernel
theorem dX3_readLine_121 : decode cX3_readLine 121 = .ok (.goto 4, 3) := by decide +kernel
theorem dX3_readLine_124 : decode cX3_readLine 124 = .ok (.iconst 0, 1) := by decide +kernel
theorem dX3_readLine_125 : decode cX3_readLine 125 = .ok (.ireturn, 1) := by decide +kernel
theorem dX3_readLine_126 : decode cX3_readLine 126 = .ok (.aload_n 0, 1) := by decide +kernel
theorem dX3_readLine_127 : decode cX3_readLine 127 = .ok (.invokevirtual 98, 3) := by decide +kernel
theorem dX3_readLine_130 : decode cX3_readLine 130 = .ok (.ifCond .eq 16, 3) := by decide +kernel
theorem dX3_readLine_133 : decode cX3_readLine 133 = .ok (.aload_n 0, 1) := by decide +kernel
theorem dX3_readLine_134 : decode cX3_readLine 134 = .ok (.bipush 59, 2) := by decide +kernel
theorem dX3_readLine_136 : decode cX3_readLine 136 = .ok (.invokevirtual 91, 3) := by decide +kernel
theorem dX3_readLine_139 : decode cX3_readLine 139 = .ok (.ifCond .eq 7, 3) := by decide +kernel
theorem dX3_readLine_142 : decode cX3_readLine 142 = .ok (.iconst 1, 1) := by decide +kernel
theorem dX3_readLine_143 : decode cX3_readLine 143 = .ok (.goto 4, 3) := by decide +kernel
theorem dX3_readLine_146 : decode cX3_readLine 146 = .ok (.iconst 0, 1) := by decide +kernel
theorem dX3_readLine_147 : decode cX3_readLine 147 = .ok (.ireturn, 1) := by decide +kernel
theorem dX3_readLine_148 : decode cX3_readLine 148 = .ok (.aload_n 0, 1) := by decide +kernel
theorem dX3_readLine_149 : decode cX3_readLine 149 = .ok (.invokevirtual 101, 3) := by decide +kernel
theorem dX3_readLine_152 : decode cX3_readLine 152 = .ok (.ifCond .eq 16, 3) := by decide +kernel
theorem dX3_readLine_155 : decode cX3_readLine 155 = .ok (.aload_n 0, 1) := by decide +kernel
theorem dX3_readLine_156 : decode cX3_readLine 156 = .ok (.bipush 59, 2) := by decide +kernel
theorem dX3_readLine_158 : decode cX3_readLine 158 = .ok (.invokevirtual 91, 3) := by decide +kernel
theorem dX3_readLine_161 : decode cX3_readLine 161 = .ok (.ifCond .eq 7, 3) := by decide +kernel
theorem dX3_readLine_164 : decode cX3_readLine 164 = .ok (.iconst 1, 1) := by decide +kernel
theorem dX3_readLine_165 : decode cX3_readLine 165 = .ok (.goto 4, 3) := by decide +kernel
theorem dX3_readLine_168 : decode cX3_readLine 168 = .ok (.iconst 0, 1) := by decide +kernel
theorem dX3_readLine_169 : decode cX3_readLine 169 = .ok (.ireturn, 1) := by decide +kernel
theorem dX3_readLaw_0 : decode cX3_readLaw 0 = .ok (.aload_n 0, 1) := by decide +kernel
theorem dX3_readLaw_1 : decode cX3_readLaw 1 = .ok (.getfield 12, 3) := by decide +kernel
theorem dX3_readLaw_4 : decode cX3_readLaw 4 = .ok (.getfield 104, 3) := by decide +kernel
theorem dX3_readLaw_7 : decode cX3_readLaw 7 = .ok (.getfield 108, 3) := by decide +kernel
theorem dX3_readLaw_10 : decode cX3_readLaw 10 = .ok (.istore_n 2, 1) := by decide +kernel
theorem dX3_readLaw_11 : decode cX3_readLaw 11 = .ok (.aload_n 0, 1) := by decide +kernel
theorem dX3_readLaw_12 : decode cX3_readLaw 12 = .ok (.invokevirtual 111, 3) := by decide +kernel
theorem dX3_readLaw_15 : decode cX3_readLaw 15 = .ok (.ifCond .ne 5, 3) := by decide +kernel
theorem dX3_readLaw_18 : decode cX3_readLaw 18 = .ok (.iconst 0, 1) := by decide +kernel
theorem dX3_readLaw_19 : decode cX3_readLaw 19 = .ok (.ireturn, 1) := by decide +kernel
theorem dX3_readLaw_20 : decode cX3_readLaw 20 = .ok (.aload_n 0, 1) := by decide +kernel
theorem dX3_readLaw_21 : decode cX3_readLaw 21 = .ok (.getfield 12, 3) := by decide +kernel
theorem dX3_readLaw_24 : decode cX3_readLaw 24 = .ok (.getfield 104, 3) := by decide +kernel
theorem dX3_readLaw_27 : decode cX3_readLaw 27 = .ok (.getfield 108, 3) := by decide +kernel
theorem dX3_readLaw_30 : decode cX3_readLaw 30 = .ok (.istore_n 3, 1) := by decide +kernel
theorem dX3_readLaw_31 : decode cX3_readLaw 31 = .ok (.aload_n 0, 1) := by decide +kernel
theorem dX3_readLaw_32 : decode cX3_readLaw 32 = .ok (.iconst 3, 1) := by decide +kernel
theorem dX3_readLaw_33 : decode cX3_readLaw 33 = .ok (.invokevirtual 114, 3) := by decide +kernel
theorem dX3_readLaw_36 : decode cX3_readLaw 36 = .ok (.ifCond .eq 17, 3) := by decide +kernel
theorem dX3_readLaw_39 : decode cX3_readLaw 39 = .ok (.aload_n 0, 1) := by decide +kernel
theorem dX3_readLaw_40 : decode cX3_readLaw 40 = .ok (.invokevirtual 61, 3) := by decide +kernel
theorem dX3_readLaw_43 : decode cX3_readLaw 43 = .ok (.aload_n 0, 1) := by decide +kernel
theorem dX3_readLaw_44 : decode cX3_readLaw 44 = .ok (.iconst 0, 1) := by decide +kernel
theorem dX3_readLaw_45 : decode cX3_readLaw 45 = .ok (.invokevirtual 117, 3) := by decide +kernel
theorem dX3_readLaw_48 : decode cX3_readLaw 48 = .ok (.ifCond .ne 5, 3) := by decide +kernel
theorem dX3_readLaw_51 : decode cX3_readLaw 51 = .ok (.iconst 0, 1) := by decide +kernel
theorem dX3_readLaw_52 : decode cX3_readLaw 52 = .ok (.ireturn, 1) := by decide +kernel
theorem dX3_readLaw_53 : decode cX3_readLaw 53 = .ok (.aload_n 0, 1) := by decide +kernel
theorem dX3_readLaw_54 : decode cX3_readLaw 54 = .ok (.getfield 12, 3) := by decide +kernel
theorem dX3_readLaw_57 : decode cX3_readLaw 57 = .ok (.iload_n 1, 1) := by decide +kernel
theorem dX3_readLaw_58 : decode cX3_readLaw 58 = .ok (.iload_n 2, 1) := by decide +kernel
theorem dX3_readLaw_59 : decode cX3_readLaw 59 = .ok (.iload_n 3, 1) := by decide +kernel
theorem dX3_readLaw_60 : decode cX3_readLaw 60 = .ok (.aload_n 0, 1) := by decide +kernel
theorem dX3_readLaw_61 : decode cX3_readLaw 61 = .ok (.getfield 12, 3) := by decide +kernel
theorem dX3_readLaw_64 : decode cX3_readLaw 64 = .ok (.getfield 104, 3) := by decide +kernel
theorem dX3_readLaw_67 : decode cX3_readLaw 67 = .ok (.getfield 108, 3) := by decide +kernel
theorem dX3_readLaw_70 : decode cX3_readLaw 70 = .ok (.invokevirtual 120, 3) := by decide +kernel
theorem dX3_readLaw_73 : decode cX3_readLaw 73 = .ok (.iconst 1, 1) := by decide +kernel
theorem dX3_readLaw_74 : decode cX3_readLaw 74 = .ok (.ireturn, 1) := by decide +kernel
theorem dX3_readPlan_0 : decode cX3_readPlan 0 = .ok (.aload_n 0, 1) := by decide +kernel
theorem dX3_readPlan_1 : decode cX3_readPlan 1 = .ok (.getfield 81, 3) := by decide +kernel
theorem dX3_readPlan_4 : decode cX3_readPlan 4 = .ok (.istore_n 1, 1) := by decide +kernel
theorem dX3_readPlan_5 : decode cX3_readPlan 5 = .ok (.aload_n 0, 1) := by decide +kernel
theorem dX3_readPlan_6 : decode cX3_readPlan 6 = .ok (.iconst 0, 1) := by decide +kernel
theorem dX3_readPlan_7 : decode cX3_readPlan 7 = .ok (.sipush 999, 3) := by decide +kernel
theorem dX3_readPlan_10 : decode cX3_readPlan 10 = .ok (.iconst (-1), 1) := by decide +kernel
theorem dX3_readPlan_11 : decode cX3_readPlan 11 = .ok (.invokevirtual 124, 3) := by decide +kernel
theorem dX3_readPlan_14 : decode cX3_readPlan 14 = .ok (.ifCond .ne 5, 3) := by decide +kernel
theorem dX3_readPlan_17 : decode cX3_readPlan 17 = .ok (.iconst 0, 1) := by decide +kernel
theorem dX3_readPlan_18 : decode cX3_readPlan 18 = .ok (.ireturn, 1) := by decide +kernel
theorem dX3_readPlan_19 : decode cX3_readPlan 19 = .ok (.aload_n 0, 1) := by decide +kernel
theorem dX3_readPlan_20 : decode cX3_readPlan 20 = .ok (.getfield 81, 3) := by decide +kernel
theorem dX3_readPlan_23 : decode cX3_readPlan 23 = .ok (.istore_n 2, 1) := by decide +kernel
theorem dX3_readPlan_24 : decode cX3_readPlan 24 = .ok (.aload_n 0, 1) := by decide +kernel
theorem dX3_readPlan_25 : decode cX3_readPlan 25 = .ok (.getfield 64, 3) := by decide +kernel
theorem dX3_readPlan_28 : decode cX3_readPlan 28 = .ok (.iconst 1, 1) := by decide +kernel
theorem dX3_readPlan_29 : decode cX3_readPlan 29 = .ok (.if_icmp .ne 7, 3) := by decide +kernel
theorem dX3_readPlan_32 : decode cX3_readPlan 32 = .ok (.iload_n 2, 1) := by decide +kernel
theorem dX3_readPlan_33 : decode cX3_readPlan 33 = .ok (.ifCond .ne 9, 3) := by decide +kernel
theorem dX3_readPlan_36 : decode cX3_readPlan 36 = .ok (.aload_n 0, 1) := by decide +kernel
theorem dX3_readPlan_37 : decode cX3_readPlan 37 = .ok (.iconst 1, 1) := by decide +kernel
theorem dX3_readPlan_38 : decode cX3_readPlan 38 = .ok (.invokevirtual 84, 3) := by decide +kernel
theorem dX3_readPlan_41 : decode cX3_readPlan 41 = .ok (.ireturn, 1) := by decide +kernel
theorem dX3_readPlan_42 : decode cX3_readPlan 42 = .ok (.aload_n 0, 1) := by decide +kernel
theorem dX3_readPlan_43 : decode cX3_readPlan 43 = .ok (.invokevirtual 61, 3) := by decide +kernel
theorem dX3_readPlan_46 : decode cX3_readPlan 46 = .ok (.aload_n 0, 1) := by decide +kernel
theorem dX3_readPlan_47 : decode cX3_readPlan 47 = .ok (.getfield 81, 3) := by decide +kernel
theorem dX3_readPlan_50 : decode cX3_readPlan 50 = .ok (.istore_n 3, 1) := by decide +kernel
theorem dX3_readPlan_51 : decode cX3_readPlan 51 = .ok (.aload_n 0, 1) := by decide +kernel
theorem dX3_readPlan_52 : decode cX3_readPlan 52 = .ok (.iconst 0, 1) := by decide +kernel
theorem dX3_readPlan_53 : decode cX3_readPlan 53 = .ok (.aload_n 0, 1) := by decide +kernel
theorem dX3_readPlan_54 : decode cX3_readPlan 54 = .ok (.getfield 51, 3) := by decide +kernel
theorem dX3_readPlan_57 : decode cX3_readPlan 57 = .ok (.iconst 1, 1) := by decide +kernel
theorem dX3_readPlan_58 : decode cX3_readPlan 58 = .ok (.isub, 1) := by decide +kernel
theorem dX3_readPlan_59 : decode cX3_readPlan 59 = .ok (.iconst (-1), 1) := by decide +kernel
theorem dX3_readPlan_60 : decode cX3_readPlan 60 = .ok (.invokevirtual 124, 3) := by decide +kernel
theorem dX3_readPlan_63 : decode cX3_readPlan 63 = .ok (.ifCond .ne 5, 3) := by decide +kernel
theorem dX3_readPlan_66 : decode cX3_readPlan 66 = .ok (.iconst 0, 1) := by decide +kernel
theorem dX3_readPlan_67 : decode cX3_readPlan 67 = .ok (.ireturn, 1) := by decide +kernel
theorem dX3_readPlan_68 : decode cX3_readPlan 68 = .ok (.aload_n 0, 1) := by decide +kernel
theorem dX3_readPlan_69 : decode cX3_readPlan 69 = .ok (.getfield 81, 3) := by decide +kernel
theorem dX3_readPlan_72 : decode cX3_readPlan 72 = .ok (.istore 4, 2) := by decide +kernel
theorem dX3_readPlan_74 : decode cX3_readPlan 74 = .ok (.iload_n 2, 1) := by decide +kernel
theorem dX3_readPlan_75 : decode cX3_readPlan 75 = .ok (.iconst 5, 1) := by decide +kernel
theorem dX3_readPlan_76 : decode cX3_readPlan 76 = .ok (.if_icmp .ne 17, 3) := by decide +kernel
theorem dX3_readPlan_79 : decode cX3_readPlan 79 = .ok (.aload_n 0, 1) := by decide +kernel
theorem dX3_readPlan_80 : decode cX3_readPlan 80 = .ok (.iconst 1, 1) := by decide +kernel
theorem dX3_readPlan_81 : decode cX3_readPlan 81 = .ok (.sipush 999, 3) := by decide +kernel
theorem dX3_readPlan_84 : decode cX3_readPlan 84 = .ok (.iconst (-1), 1) := by decide +kernel
theorem dX3_readPlan_85 : decode cX3_readPlan 85 = .ok (.invokevirtual 124, 3) := by decide +kernel
theorem dX3_readPlan_88 : decode cX3_readPlan 88 = .ok (.ifCond .ne 5, 3) := by decide +kernel
theorem dX3_readPlan_91 : decode cX3_readPlan 91 = .ok (.iconst 0, 1) := by decide +kernel
theorem dX3_readPlan_92 : decode cX3_readPlan 92 = .ok (.ireturn, 1) := by decide +kernel
theorem dX3_readPlan_93 : decode cX3_readPlan 93 = .ok (.aload_n 0, 1) := by decide +kernel
theorem dX3_readPlan_94 : decode cX3_readPlan 94 = .ok (.getfield 12, 3) := by decide +kernel
theorem dX3_readPlan_97 : decode cX3_readPlan 97 = .ok (.iload_n 1, 1) := by decide +kernel
theorem dX3_readPlan_98 : decode cX3_readPlan 98 = .ok (.iload_n 2, 1) := by decide +kernel
theorem dX3_readPlan_99 : decode cX3_readPlan 99 = .ok (.iload_n 3, 1) := by decide +kernel
theorem dX3_readPlan_100 : decode cX3_readPlan 100 = .ok (.iload 4, 2) := by decide +kernel
theorem dX3_readPlan_102 : decode cX3_readPlan 102 = .ok (.invokevirtual 128, 3) := by decide +kernel
theorem dX3_readPlan_105 : decode cX3_readPlan 105 = .ok (.iconst 1, 1) := by decide +kernel
theorem dX3_readPlan_106 : decode cX3_readPlan 106 = .ok (.ireturn, 1) := by decide +kernel
theorem dX3_readFeud_0 : decode cX3_readFeud 0 = .ok (.aload_n 0, 1) := by decide +kernel
theorem dX3_readFeud_1 : decode cX3_readFeud 1 = .ok (.getfield 81, 3) := by decide +kernel
theorem dX3_readFeud_4 : decode cX3_readFeud 4 = .ok (.istore_n 1, 1) := by decide +kernel
theorem dX3_readFeud_5 : decode cX3_readFeud 5 = .ok (.aload_n 0, 1) := by decide +kernel
theorem dX3_readFeud_6 : decode cX3_readFeud 6 = .ok (.iconst 0, 1) := by decide +kernel
theorem dX3_readFeud_7 : decode cX3_readFeud 7 = .ok (.aload_n 0, 1) := by decide +kernel
theorem dX3_readFeud_8 : decode cX3_readFeud 8 = .ok (.getfield 51, 3) := by decide +kernel
theorem dX3_readFeud_11 : decode cX3_readFeud 11 = .ok (.iconst 1, 1) := by decide +kernel
theorem dX3_readFeud_12 : decode cX3_readFeud 12 = .ok (.isub, 1) := by decide +kernel
theorem dX3_readFeud_13 : decode cX3_readFeud 13 = .ok (.iconst (-1), 1) := by decide +kernel
theorem dX3_readFeud_14 : decode cX3_readFeud 14 = .ok (.invokevirtual 124, 3) := by decide +kernel
theorem dX3_readFeud_17 : decode cX3_readFeud 17 = .ok (.ifCond .eq 10, 3) := by decide +kernel
theorem dX3_readFeud_20 : decode cX3_readFeud 20 = .ok (.aload_n 0, 1) := by decide +kernel
theorem dX3_readFeud_21 : decode cX3_readFeud 21 = .ok (.invokevirtual 131, 3) := by decide +kernel
theorem dX3_readFeud_24 : decode cX3_readFeud 24 = .ok (.ifCond .ne 5, 3) := by decide +kernel
theorem dX3_readFeud_27 : decode cX3_readFeud 27 = .ok (.iconst 0, 1) := by decide +kernel
theorem dX3_readFeud_28 : decode cX3_readFeud 28 = .ok (.ireturn, 1) := by decide +kernel
theorem dX3_readFeud_29 : decode cX3_readFeud 29 = .ok (.aload_n 0, 1) := by decide +kernel
theorem dX3_readFeud_30 : decode cX3_readFeud 30 = .ok (.getfield 81, 3) := by decide +kernel
theorem dX3_readFeud_33 : decode cX3_readFeud 33 = .ok (.istore_n 2, 1) := by decide +kernel
theorem dX3_readFeud_34 : decode cX3_readFeud 34 = .ok (.aload_n 0, 1) := by decide +kernel
theorem dX3_readFeud_35 : decode cX3_readFeud 35 = .ok (.iconst 0, 1) := by decide +kernel
theorem dX3_readFeud_36 : decode cX3_readFeud 36 = .ok (.aload_n 0, 1) := by decide +kernel
theorem dX3_readFeud_37 : decode cX3_readFeud 37 = .ok (.getfield 51, 3) := by decide +kernel
theorem dX3_readFeud_40 : decode cX3_readFeud 40 = .ok (.iconst 1, 1) := by decide +kernel
theorem dX3_readFeud_41 : decode cX3_readFeud 41 = .ok (.isub, 1) := by decide +kernel
theorem dX3_readFeud_42 : decode cX3_readFeud 42 = .ok (.iload_n 1, 1) := by decide +kernel
theorem dX3_readFeud_43 : decode cX3_readFeud 43 = .ok (.invokevirtual 124, 3) := by decide +kernel
theorem dX3_readFeud_46 : decode cX3_readFeud 46 = .ok (.ifCond .ne 5, 3) := by decide +kernel
theorem dX3_readFeud_49 : decode cX3_readFeud 49 = .ok (.iconst 0, 1) := by decide +kernel
theorem dX3_readFeud_50 : decode cX3_readFeud 50 = .ok (.ireturn, 1) := by decide +kernel
theorem dX3_readFeud_51 : decode cX3_readFeud 51 = .ok (.aload_n 0, 1) := by decide +kernel
theorem dX3_readFeud_52 : decode cX3_readFeud 52 = .ok (.getfield 12, 3) := by decide +kernel
theorem dX3_readFeud_55 : decode cX3_readFeud 55 = .ok (.iload_n 1, 1) := by decide +kernel
theorem dX3_readFeud_56 : decode cX3_readFeud 56 = .ok (.iload_n 2, 1) := by decide +kernel
theorem dX3_readFeud_57 : decode cX3_readFeud 57 = .ok (.invokevirtual 134, 3) := by decide +kernel
theorem dX3_readFeud_60 : decode cX3_readFeud 60 = .ok (.iconst 1, 1) := by decide +kernel
theorem dX3_readFeud_61 : decode cX3_readFeud 61 = .ok (.ireturn, 1) := by decide +kernel
theorem dX3_readSide_0 : decode cX3_readSide 0 = .ok (.aload_n 0, 1) := by decide +kernel
theorem dX3_readSide_1 : decode cX3_readSide 1 = .ok (.getfield 81, 3) := by decide +kernel
theorem dX3_readSide_4 : decode cX3_readSide 4 = .ok (.istore_n 1, 1) := by decide +kernel
theorem dX3_readSide_5 : decode cX3_readSide 5 = .ok (.aload_n 0, 1) := by decide +kernel
theorem dX3_readSide_6 : decode cX3_readSide 6 = .ok (.iconst 0, 1) := by decide +kernel
theorem dX3_readSide_7 : decode cX3_readSide 7 = .ok (.aload_n 0, 1) := by decide +kernel
theorem dX3_readSide_8 : decode cX3_readSide 8 = .ok (.getfield 51, 3) := by decide +kernel
theorem dX3_readSide_11 : decode cX3_readSide 11 = .ok (.iconst 1, 1) := by decide +kernel
theorem dX3_readSide_12 : decode cX3_readSide 12 = .ok (.isub, 1) := by decide +kernel
theorem dX3_readSide_13 : decode cX3_readSide 13 = .ok (.iconst (-1), 1) := by decide +kernel
theorem dX3_readSide_14 : decode cX3_readSide 14 = .ok (.invokevirtual 124, 3) := by decide +kernel
theorem dX3_readSide_17 : decode cX3_readSide 17 = .ok (.ifCond .eq 10, 3) := by decide +kernel
theorem dX3_readSide_20 : decode cX3_readSide 20 = .ok (.aload_n 0, 1) := by decide +kernel
theorem dX3_readSide_21 : decode cX3_readSide 21 = .ok (.invokevirtual 131, 3) := by decide +kernel
theorem dX3_readSide_24 : decode cX3_readSide 24 = .ok (.ifCond .ne 5, 3) := by decide +kernel
theorem dX3_readSide_27 : decode cX3_readSide 27 = .ok (.iconst 0, 1) := by decide +kernel
theorem dX3_readSide_28 : decode cX3_readSide 28 = .ok (.ireturn, 1) := by decide +kernel
theorem dX3_readSide_29 : decode cX3_readSide 29 = .ok (.aload_n 0, 1) := by decide +kernel
theorem dX3_readSide_30 : decode cX3_readSide 30 = .ok (.getfield 81, 3) := by decide +kernel
theorem dX3_readSide_33 : decode cX3_readSide 33 = .ok (.istore_n 2, 1) := by decide +kernel
theorem dX3_readSide_34 : decode cX3_readSide 34 = .ok (.aload_n 0, 1) := by decide +kernel
theorem dX3_readSide_35 : decode cX3_readSide 35 = .ok (.iconst 0, 1) := by decide +kernel
theorem dX3_readSide_36 : decode cX3_readSide 36 = .ok (.iconst 1, 1) := by decide +kernel
theorem dX3_readSide_37 : decode cX3_readSide 37 = .ok (.iconst (-1), 1) := by decide +kernel
theorem dX3_readSide_38 : decode cX3_readSide 38 = .ok (.invokevirtual 124, 3) := by decide +kernel
theorem dX3_readSide_41 : decode cX3_readSide 41 = .ok (.ifCond .ne 5, 3) := by decide +kernel
theorem dX3_readSide_44 : decode cX3_readSide 44 = .ok (.iconst 0, 1) := by decide +kernel
theorem dX3_readSide_45 : decode cX3_readSide 45 = .ok (.ireturn, 1) := by decide +kernel
theorem dX3_readSide_46 : decode cX3_readSide 46 = .ok (.aload_n 0, 1) := by decide +kernel
theorem dX3_readSide_47 : decode cX3_readSide 47 = .ok (.getfield 12, 3) := by decide +kernel
theorem dX3_readSide_50 : decode cX3_readSide 50 = .ok (.iload_n 1, 1) := by decide +kernel
theorem dX3_readSide_51 : decode cX3_readSide 51 = .ok (.iload_n 2, 1) := by decide +kernel
theorem dX3_readSide_52 : decode cX3_readSide 52 = .ok (.invokevirtual 138, 3) := by decide +kernel
theorem dX3_readSide_55 : decode cX3_readSide 55 = .ok (.iconst 1, 1) := by decide +kernel
theorem dX3_readSide_56 : decode cX3_readSide 56 = .ok (.ireturn, 1) := by decide +kernel
theorem dX3_readSecondWord_0 : decode cX3_readSecondWord 0 = .ok (.aload_n 0, 1) := by decide +kernel
theorem dX3_readSecondWord_1 : decode cX3_readSecondWord 1 = .ok (.iconst 1, 1) := by decide +kernel
theorem dX3_readSecondWord_2 : decode cX3_readSecondWord 2 = .ok (.invokevirtual 114, 3) := by decide +kernel
theorem dX3_readSecondWord_5 : decode cX3_readSecondWord 5 = .ok (.ifCond .ne 9, 3) := by decide +kernel
theorem dX3_readSecondWord_8 : decode cX3_readSecondWord 8 = .ok (.aload_n 0, 1) := by decide +kernel
theorem dX3_readSecondWord_9 : decode cX3_readSecondWord 9 = .ok (.iconst 1, 1) := by decide +kernel
theorem dX3_readSecondWord_10 : decode cX3_readSecondWord 10 = .ok (.invokevirtual 84, 3) := by decide +kernel
theorem dX3_readSecondWord_13 : decode cX3_readSecondWord 13 = .ok (.ireturn, 1) := by decide +kernel
theorem dX3_readSecondWord_14 : decode cX3_readSecondWord 14 = .ok (.aload_n 0, 1) := by decide +kernel
theorem dX3_readSecondWord_15 : decode cX3_readSecondWord 15 = .ok (.invokevirtual 61, 3) := by decide +kernel
theorem dX3_readSecondWord_18 : decode cX3_readSecondWord 18 = .ok (.iconst 1, 1) := by decide +kernel
theorem dX3_readSecondWord_19 : decode cX3_readSecondWord 19 = .ok (.ireturn, 1) := by decide +kernel
theorem dX3_readNumber_0 : decode cX3_readNumber 0 = .ok (.aload_n 0, 1) := by decide +kernel
theorem dX3_readNumber_1 : decode cX3_readNumber 1 = .ok (.getfield 64, 3) := by decide +kernel
theorem dX3_readNumber_4 : decode cX3_readNumber 4 = .ok (.iconst 2, 1) := by decide +kernel
theorem dX3_readNumber_5 : decode cX3_readNumber 5 = .ok (.if_icmp .eq 9, 3) := by decide +kernel
theorem dX3_readNumber_8 : decode cX3_readNumber 8 = .ok (.aload_n 0, 1) := by decide +kernel
theorem dX3_readNumber_9 : decode cX3_readNumber 9 = .ok (.iconst 1, 1) := by decide +kernel
theorem dX3_readNumber_10 : decode cX3_readNumber 10 = .ok (.invokevirtual 84, 3) := by decide +kernel
theorem dX3_readNumber_13 : decode cX3_readNumber 13 = .ok (.ireturn, 1) := by decide +kernel
theorem dX3_readNumber_14 : decode cX3_readNumber 14 = .ok (.aload_n 0, 1) := by decide +kernel
theorem dX3_readNumber_15 : decode cX3_readNumber 15 = .ok (.getfield 81, 3) := by decide +kernel
theorem dX3_readNumber_18 : decode cX3_readNumber 18 = .ok (.iload_n 1, 1) := by decide +kernel
theorem dX3_readNumber_19 : decode cX3_readNumber 19 = .ok (.if_icmp .lt 19, 3) := by decide +kernel
theorem dX3_readNumber_22 : decode cX3_readNumber 22 = .ok (.aload_n 0, 1) := by decide +kernel
theorem dX3_readNumber_23 : decode cX3_readNumber 23 = .ok (.getfield 81, 3) := by decide +kernel
theorem dX3_readNumber_26 : decode cX3_readNumber 26 = .ok (.iload_n 2, 1) := by decide +kernel
theorem dX3_readNumber_27 : decode cX3_readNumber 27 = .ok (.if_icmp .gt 11, 3) := by decide +kernel
theorem dX3_readNumber_30 : decode cX3_readNumber 30 = .ok (.aload_n 0, 1) := by decide +kernel
theorem dX3_readNumber_31 : decode cX3_readNumber 31 = .ok (.getfield 81, 3) := by decide +kernel
theorem dX3_readNumber_34 : decode cX3_readNumber 34 = .ok (.iload_n 3, 1) := by decide +kernel
theorem dX3_readNumber_35 : decode cX3_readNumber 35 = .ok (.if_icmp .ne 9, 3) := by decide +kernel
theorem dX3_readNumber_38 : decode cX3_readNumber 38 = .ok (.aload_n 0, 1) := by decide +kernel
theorem dX3_readNumber_39 : decode cX3_readNumber 39 = .ok (.iconst 2, 1) := by decide +kernel
theorem dX3_readNumber_40 : decode cX3_readNumber 40 = .ok (.invokevirtual 84, 3) := by decide +kernel
theorem dX3_readNumber_43 : decode cX3_readNumber 43 = .ok (.ireturn, 1) := by decide +kernel
theorem dX3_readNumber_44 : decode cX3_readNumber 44 = .ok (.aload_n 0, 1) := by decide +kernel
theorem dX3_readNumber_45 : decode cX3_readNumber 45 = .ok (.invokevirtual 61, 3) := by decide +kernel
theorem dX3_readNumber_48 : decode cX3_readNumber 48 = .ok (.iconst 1, 1) := by decide +kernel
theorem dX3_readNumber_49 : decode cX3_readNumber 49 = .ok (.ireturn, 1) := by decide +kernel
theorem dX3_readSign_0 : decode cX3_readSign 0 = .ok (.aload_n 0, 1) := by decide +kernel
theorem dX3_readSign_1 : decode cX3_readSign 1 = .ok (.iload_n 1, 1) := by decide +kernel
theorem dX3_readSign_2 : decode cX3_readSign 2 = .ok (.invokevirtual 141, 3) := by decide +kernel
theorem dX3_readSign_5 : decode cX3_readSign 5 = .ok (.ifCond .ne 9, 3) := by decide +kernel
theorem dX3_readSign_8 : decode cX3_readSign 8 = .ok (.aload_n 0, 1) := by decide +kernel
theorem dX3_readSign_9 : decode cX3_readSign 9 = .ok (.iconst 1, 1) := by decide +kernel
theorem dX3_readSign_10 : decode cX3_readSign 10 = .ok (.invokevirtual 84, 3) := by decide +kernel
theorem dX3_readSign_13 : decode cX3_readSign 13 = .ok (.ireturn, 1) := by decide +kernel
theorem dX3_readSign_14 : decode cX3_readSign 14 = .ok (.aload_n 0, 1) := by decide +kernel
theorem dX3_readSign_15 : decode cX3_readSign 15 = .ok (.invokevirtual 61, 3) := by decide +kernel
theorem dX3_readSign_18 : decode cX3_readSign 18 = .ok (.iconst 1, 1) := by decide +kernel
theorem dX3_readSign_19 : decode cX3_readSign 19 = .ok (.ireturn, 1) := by decide +kernel
theorem dX3_readEither_0 : decode cX3_readEither 0 = .ok (.iconst 0, 1) := by decide +kernel
theorem dX3_readEither_1 : decode cX3_readEither 1 = .ok (.istore_n 2, 1) := by decide +kernel
theorem dX3_readEither_2 : decode cX3_readEither 2 = .ok (.iconst 0, 1) := by decide +kernel
theorem dX3_readEither_3 : decode cX3_readEither 3 = .ok (.istore_n 3, 1) := by decide +kernel
theorem dX3_readEither_4 : decode cX3_readEither 4 = .ok (.iconst 0, 1) := by decide +kernel
theorem dX3_readEither_5 : decode cX3_readEither 5 = .ok (.istore 4, 2) := by decide +kernel
theorem dX3_readEither_7 : decode cX3_readEither 7 = .ok (.iload 4, 2) := by decide +kernel
theorem dX3_readEither_9 : decode cX3_readEither 9 = .ok (.sipush 400, 3) := by decide +kernel
theorem dX3_readEither_12 : decode cX3_readEither 12 = .ok (.if_icmp .ge 79, 3) := by decide +kernel
theorem dX3_readEither_15 : decode cX3_readEither 15 = .ok (.aload_n 0, 1) := by decide +kernel
theorem dX3_readEither_16 : decode cX3_readEither 16 = .ok (.iload_n 1, 1) := by decide +kernel
theorem dX3_readEither_17 : decode cX3_readEither 17 = .ok (.invokevirtual 144, 3) := by decide +kernel
theorem dX3_readEither_20 : decode cX3_readEither 20 = .ok (.ifCond .ne 5, 3) := by decide +kernel
theorem dX3_readEither_23 : decode cX3_readEither 23 = .ok (.iconst 0, 1) := by decide +kernel
theorem dX3_readEither_24 : decode cX3_readEither 24 = .ok (.ireturn, 1) := by decide +kernel
theorem dX3_readEither_25 : decode cX3_readEither 25 = .ok (.iload_n 3, 1) := by decide +kernel
theorem dX3_readEither_26 : decode cX3_readEither 26 = .ok (.ifCond .eq 16, 3) := by decide +kernel
theorem dX3_readEither_29 : decode cX3_readEither 29 = .ok (.aload_n 0, 1) := by decide +kernel
theorem dX3_readEither_30 : decode cX3_readEither 30 = .ok (.getfield 12, 3) := by decide +kernel
theorem dX3_readEither_33 : decode cX3_readEither 33 = .ok (.getfield 104, 3) := by decide +kernel
theorem dX3_readEither_36 : decode cX3_readEither 36 = .ok (.bipush (-3), 2) := by decide +kernel
theorem dX3_readEither_38 : decode cX3_readEither 38 = .ok (.invokevirtual 147, 3) := by decide +kernel
theorem dX3_readEither_41 : decode cX3_readEither 41 = .ok (.pop, 1) := by decide +kernel
theorem dX3_readEither_42 : decode cX3_readEither 42 = .ok (.aload_n 0, 1) := by decide +kernel
theorem dX3_readEither_43 : decode cX3_readEither 43 = .ok (.iconst 5, 1) := by decide +kernel
theorem dX3_readEither_44 : decode cX3_readEither 44 = .ok (.invokevirtual 114, 3) := by decide +kernel
theorem dX3_readEither_47 : decode cX3_readEither 47 = .ok (.istore_n 3, 1) := by decide +kernel
theorem dX3_readEither_48 : decode cX3_readEither 48 = .ok (.iload_n 3, 1) := by decide +kernel
theorem dX3_readEither_49 : decode cX3_readEither 49 = .ok (.ifCond .ne 32, 3) := by decide +kernel
theorem dX3_readEither_52 : decode cX3_readEither 52 = .ok (.iload_n 2, 1) := by decide +kernel
theorem dX3_readEither_53 : decode cX3_readEither 53 = .ok (.ifCond .eq 16, 3) := by decide +kernel
theorem dX3_readEither_56 : decode cX3_readEither 56 = .ok (.aload_n 0, 1) := by decide +kernel
theorem dX3_readEither_57 : decode cX3_readEither 57 = .ok (.getfield 12, 3) := by decide +kernel
theorem dX3_readEither_60 : decode cX3_readEither 60 = .ok (.getfield 104, 3) := by decide +kernel
theorem dX3_readEither_63 : decode cX3_readEither 63 = .ok (.bipush (-4), 2) := by decide +kernel
theorem dX3_readEither_65 : decode cX3_readEither 65 = .ok (.invokevirtual 147, 3) := by decide +kernel
theorem dX3_readEither_68 : decode cX3_readEither 68 = .ok (.pop, 1) := by decide +kernel
theorem dX3_readEither_69 : decode cX3_readEither 69 = .ok (.aload_n 0, 1) := by decide +kernel
theorem dX3_readEither_70 : decode cX3_readEither 70 = .ok (.iconst 4, 1) := by decide +kernel
theorem dX3_readEither_71 : decode cX3_readEither 71 = .ok (.invokevirtual 114, 3) := by decide +kernel
theorem dX3_readEither_74 : decode cX3_readEither 74 = .ok (.istore_n 2, 1) := by decide +kernel
theorem dX3_readEither_75 : decode cX3_readEither 75 = .ok (.iload_n 2, 1) := by decide +kernel
theorem dX3_readEither_76 : decode cX3_readEither 76 = .ok (.ifCond .ne 5, 3) := by decide +kernel
theorem dX3_readEither_79 : decode cX3_readEither 79 = .ok (.iconst 1, 1) := by decide +kernel
theorem dX3_readEither_80 : decode cX3_readEither 80 = .ok (.ireturn, 1) := by decide +kernel
theorem dX3_readEither_81 : decode cX3_readEither 81 = .ok (.aload_n 0, 1) := by decide +kernel
theorem dX3_readEither_82 : decode cX3_readEither 82 = .ok (.invokevirtual 61, 3) := by decide +kernel
theorem dX3_readEither_85 : decode cX3_readEither 85 = .ok (.iinc 4 1, 3) := by decide +kernel
theorem dX3_readEither_88 : decode cX3_readEither 88 = .ok (.goto (-81), 3) := by decide +kernel
theorem dX3_readEither_91 : decode cX3_readEither 91 = .ok (.aload_n 0, 1) := by decide +kernel
theorem dX3_readEither_92 : decode cX3_readEither 92 = .ok (.iconst 1, 1) := by decide +kernel
theorem dX3_readEither_93 : decode cX3_readEither 93 = .ok (.invokevirtual 84, 3) := by decide +kernel
theorem dX3_readEither_96 : decode cX3_readEither 96 = .ok (.ireturn, 1) := by decide +kernel
theorem dX3_readCondition_0 : decode cX3_readCondition 0 = .ok (.aload_n 0, 1) := by decide +kernel
theorem dX3_readCondition_1 : decode cX3_readCondition 1 = .ok (.bipush 40, 2) := by decide +kernel
theorem dX3_readCondition_3 : decode cX3_readCondition 3 = .ok (.invokevirtual 141, 3) := by decide +kernel
theorem dX3_readCondition_6 : decode cX3_readCondition 6 = .ok (.ifCond .eq 36, 3) := by decide +kernel
theorem dX3_readCondition_9 : decode cX3_readCondition 9 = .ok (.aload_n 0, 1) := by decide +kernel
theorem dX3_readCondition_10 : decode cX3_readCondition 10 = .ok (.iload_n 1, 1) := by decide +kernel
theorem dX3_readCondition_11 : decode cX3_readCondition 11 = .ok (.invokevirtual 150, 3) := by decide +kernel
theorem dX3_readCondition_14 : decode cX3_readCondition 14 = .ok (.ifCond .eq 26, 3) := by decide +kernel
theorem dX3_readCondition_17 : decode cX3_readCondition 17 = .ok (.aload_n 0, 1) := by decide +kernel
theorem dX3_readCondition_18 : decode cX3_readCondition 18 = .ok (.iload_n 1, 1) := by decide +kernel
theorem dX3_readCondition_19 : decode cX3_readCondition 19 = .ok (.iconst 1, 1) := by decide +kernel
theorem dX3_readCondition_20 : decode cX3_readCondition 20 = .ok (.iadd, 1) := by decide +kernel
theorem dX3_readCondition_21 : decode cX3_readCondition 21 = .ok (.invokevirtual 117, 3) := by decide +kernel
theorem dX3_readCondition_24 : decode cX3_readCondition 24 = .ok (.ifCond .eq 16, 3) := by decide +kernel
theorem dX3_readCondition_27 : decode cX3_readCondition 27 = .ok (.aload_n 0, 1) := by decide +kernel
theorem dX3_readCondition_28 : decode cX3_readCondition 28 = .ok (.bipush 41, 2) := by decide +kernel
theorem dX3_readCondition_30 : decode cX3_readCondition 30 = .ok (.invokevirtual 91, 3) := by decide +kernel
theorem dX3_readCondition_33 : decode cX3_readCondition 33 = .ok (.ifCond .eq 7, 3) := by decide +kernel
theorem dX3_readCondition_36 : decode cX3_readCondition 36 = .ok (.iconst 1, 1) := by decide +kernel
theorem dX3_readCondition_37 : decode cX3_readCondition 37 = .ok (.goto 4, 3) := by decide +kernel
theorem dX3_readCondition_40 : decode cX3_readCondition 40 = .ok (.iconst 0, 1) := by decide +kernel
theorem dX3_readCondition_41 : decode cX3_readCondition 41 = .ok (.ireturn, 1) := by decide +kernel
theorem dX3_readCondition_42 : decode cX3_readCondition 42 = .ok (.aload_n 0, 1) := by decide +kernel
theorem dX3_readCondition_43 : decode cX3_readCondition 43 = .ok (.bipush 6, 2) := by decide +kernel
theorem dX3_readCondition_45 : decode cX3_readCondition 45 = .ok (.invokevirtual 114, 3) := by decide +kernel
theorem dX3_readCondition_48 : decode cX3_readCondition 48 = .ok (.ifCond .eq 42, 3) := by decide +kernel
theorem dX3_readCondition_51 : decode cX3_readCondition 51 = .ok (.aload_n 0, 1) := by decide +kernel
theorem dX3_readCondition_52 : decode cX3_readCondition 52 = .ok (.iload_n 1, 1) := by decide +kernel
theorem dX3_readCondition_53 : decode cX3_readCondition 53 = .ok (.invokevirtual 150, 3) := by decide +kernel
theorem dX3_readCondition_56 : decode cX3_readCondition 56 = .ok (.ifCond .eq 17, 3) := by decide +kernel
theorem dX3_readCondition_59 : decode cX3_readCondition 59 = .ok (.aload_n 0, 1) := by decide +kernel
theorem dX3_readCondition_60 : decode cX3_readCondition 60 = .ok (.iload_n 1, 1) := by decide +kernel
theorem dX3_readCondition_61 : decode cX3_readCondition 61 = .ok (.iconst 1, 1) := by decide +kernel
theorem dX3_readCondition_62 : decode cX3_readCondition 62 = .ok (.iadd, 1) := by decide +kernel
theorem dX3_readCondition_63 : decode cX3_readCondition 63 = .ok (.invokevirtual 144, 3) := by decide +kernel
theorem dX3_readCondition_66 : decode cX3_readCondition 66 = .ok (.ifCond .eq 7, 3) := by decide +kernel
theorem dX3_readCondition_69 : decode cX3_readCondition 69 = .ok (.iconst 1, 1) := by decide +kernel
theorem dX3_readCondition_70 : decode cX3_readCondition 70 = .ok (.goto 4, 3) := by decide +kernel
theorem dX3_readCondition_73 : decode cX3_readCondition 73 = .ok (.iconst 0, 1) := by decide +kernel
theorem dX3_readCondition_74 : decode cX3_readCondition 74 = .ok (.istore_n 2, 1) := by decide +kernel
theorem dX3_readCondition_75 : decode cX3_readCondition 75 = .ok (.aload_n 0, 1) := by decide +kernel
theorem dX3_readCondition_76 : decode cX3_readCondition 76 = .ok (.getfield 12, 3) := by decide +kernel
theorem dX3_readCondition_79 : decode cX3_readCondition 79 = .ok (.getfield 104, 3) := by decide +kernel
theorem dX3_readCondition_82 : decode cX3_readCondition 82 = .ok (.bipush (-2), 2) := by decide +kernel
theorem dX3_readCondition_84 : decode cX3_readCondition 84 = .ok (.invokevirtual 147, 3) := by decide +kernel
theorem dX3_readCondition_87 : decode cX3_readCondition 87 = .ok (.pop, 1) := by decide +kernel
theorem dX3_readCondition_88 : decode cX3_readCondition 88 = .ok (.iload_n 2, 1) := by decide +kernel
theorem dX3_readCondition_89 : decode cX3_readCondition 89 = .ok (.ireturn, 1) := by decide +kernel
theorem dX3_readCondition_90 : decode cX3_readCondition 90 = .ok (.aload_n 0, 1) := by decide +kernel
theorem dX3_readCondition_91 : decode cX3_readCondition 91 = .ok (.invokevirtual 111, 3) := by decide +kernel
theorem dX3_readCondition_94 : decode cX3_readCondition 94 = .ok (.ifCond .ne 5, 3) := by decide +kernel
theorem dX3_readCondition_97 : decode cX3_readCondition 97 = .ok (.iconst 0, 1) := by decide +kernel
theorem dX3_readCondition_98 : decode cX3_readCondition 98 = .ok (.ireturn, 1) := by decide +kernel
theorem dX3_readCondition_99 : decode cX3_readCondition 99 = .ok (.aload_n 0, 1) := by decide +kernel
theorem dX3_readCondition_100 : decode cX3_readCondition 100 = .ok (.getfield 81, 3) := by decide +kernel
theorem dX3_readCondition_103 : decode cX3_readCondition 103 = .ok (.istore_n 2, 1) := by decide +kernel
theorem dX3_readCondition_104 : decode cX3_readCondition 104 = .ok (.aload_n 0, 1) := by decide +kernel
theorem dX3_readCondition_105 : decode cX3_readCondition 105 = .ok (.bipush 60, 2) := by decide +kernel
theorem dX3_readCondition_107 : decode cX3_readCondition 107 = .ok (.invokevirtual 141, 3) := by decide +kernel
theorem dX3_readCondition_110 : decode cX3_readCondition 110 = .ok (.ifCond .ne 27, 3) := by decide +kernel
theorem dX3_readCondition_113 : decode cX3_readCondition 113 = .ok (.aload_n 0, 1) := by decide +kernel
theorem dX3_readCondition_114 : decode cX3_readCondition 114 = .ok (.bipush 61, 2) := by decide +kernel
theorem dX3_readCondition_116 : decode cX3_readCondition 116 = .ok (.invokevirtual 141, 3) := by decide +kernel
theorem dX3_readCondition_119 : decode cX3_readCondition 119 = .ok (.ifCond .ne 18, 3) := by decide +kernel
theorem dX3_readCondition_122 : decode cX3_readCondition 122 = .ok (.aload_n 0, 1) := by decide +kernel
theorem dX3_readCondition_123 : decode cX3_readCondition 123 = .ok (.bipush 62, 2) := by decide +kernel
theorem dX3_readCondition_125 : decode cX3_readCondition 125 = .ok (.invokevirtual 141, 3) := by decide +kernel
theorem dX3_readCondition_128 : decode cX3_readCondition 128 = .ok (.ifCond .ne 9, 3) := by decide +kernel
theorem dX3_readCondition_131 : decode cX3_readCondition 131 = .ok (.aload_n 0, 1) := by decide +kernel
theorem dX3_readCondition_132 : decode cX3_readCondition 132 = .ok (.iconst 1, 1) := by decide +kernel
theorem dX3_readCondition_133 : decode cX3_readCondition 133 = .ok (.invokevirtual 84, 3) := by decide +kernel
theorem dX3_readCondition_136 : decode cX3_readCondition 136 = .ok (.ireturn, 1) := by decide +kernel
theorem dX3_readCondition_137 : decode cX3_readCondition 137 = .ok (.aload_n 0, 1) := by decide +kernel
theorem dX3_readCondition_138 : decode cX3_readCondition 138 = .ok (.invokevirtual 61, 3) := by decide +kernel
theorem dX3_readCondition_141 : decode cX3_readCondition 141 = .ok (.aload_n 0, 1) := by decide +kernel
theorem dX3_readCondition_142 : decode cX3_readCondition 142 = .ok (.invokevirtual 111, 3) := by decide +kernel
theorem dX3_readCondition_145 : decode cX3_readCondition 145 = .ok (.istore_n 3, 1) := by decide +kernel
theorem dX3_readCondition_146 : decode cX3_readCondition 146 = .ok (.aload_n 0, 1) := by decide +kernel
theorem dX3_readCondition_147 : decode cX3_readCondition 147 = .ok (.getfield 12, 3) := by decide +kernel
theorem dX3_readCondition_150 : decode cX3_readCondition 150 = .ok (.getfield 104, 3) := by decide +kernel
theorem dX3_readCondition_153 : decode cX3_readCondition 153 = .ok (.iload_n 2, 1) := by decide +kernel
theorem dX3_readCondition_154 : decode cX3_readCondition 154 = .ok (.ineg, 1) := by decide +kernel
theorem dX3_readCondition_155 : decode cX3_readCondition 155 = .ok (.invokevirtual 147, 3) := by decide +kernel
theorem dX3_readCondition_158 : decode cX3_readCondition 158 = .ok (.pop, 1) := by decide +kernel
theorem dX3_readCondition_159 : decode cX3_readCondition 159 = .ok (.iload_n 3, 1) := by decide +kernel
theorem dX3_readCondition_160 : decode cX3_readCondition 160 = .ok (.ireturn, 1) := by decide +kernel
theorem dX3_mayOpen_0 : decode cX3_mayOpen 0 = .ok (.iload_n 1, 1) := by decide +kernel
theorem dX3_mayOpen_1 : decode cX3_mayOpen 1 = .ok (.bipush 8, 2) := by decide +kernel
theorem dX3_mayOpen_3 : decode cX3_mayOpen 3 = .ok (.if_icmp .lt 9, 3) := by decide +kernel
theorem dX3_mayOpen_6 : decode cX3_mayOpen 6 = .ok (.aload_n 0, 1) := by decide +kernel
theorem dX3_mayOpen_7 : decode cX3_mayOpen 7 = .ok (.iconst 3, 1) := by decide +kernel
theorem dX3_mayOpen_8 : decode cX3_mayOpen 8 = .ok (.invokevirtual 84, 3) := by decide +kernel
theorem dX3_mayOpen_11 : decode cX3_mayOpen 11 = .ok (.ireturn, 1) := by decide +kernel
theorem dX3_mayOpen_12 : decode cX3_mayOpen 12 = .ok (.aload_n 0, 1) := by decide +kernel
theorem dX3_mayOpen_13 : decode cX3_mayOpen 13 = .ok (.invokevirtual 61, 3) := by decide +kernel
theorem dX3_mayOpen_16 : decode cX3_mayOpen 16 = .ok (.iconst 1, 1) := by decide +kernel
theorem dX3_mayOpen_17 : decode cX3_mayOpen 17 = .ok (.ireturn, 1) := by decide +kernel
theorem dX3_readSum_0 : decode cX3_readSum 0 = .ok (.iconst 0, 1) := by decide +kernel
theorem dX3_readSum_1 : decode cX3_readSum 1 = .ok (.istore_n 1, 1) := by decide +kernel
theorem dX3_readSum_2 : decode cX3_readSum 2 = .ok (.iconst 0, 1) := by decide +kernel
theorem dX3_readSum_3 : decode cX3_readSum 3 = .ok (.istore_n 2, 1) := by decide +kernel
theorem dX3_readSum_4 : decode cX3_readSum 4 = .ok (.iconst 0, 1) := by decide +kernel
theorem dX3_readSum_5 : decode cX3_readSum 5 = .ok (.istore_n 3, 1) := by decide +kernel
theorem dX3_readSum_6 : decode cX3_readSum 6 = .ok (.iload_n 3, 1) := by decide +kernel
theorem dX3_readSum_7 : decode cX3_readSum 7 = .ok (.sipush 400, 3) := by decide +kernel
theorem dX3_readSum_10 : decode cX3_readSum 10 = .ok (.if_icmp .ge 213, 3) := by decide +kernel
theorem dX3_readSum_13 : decode cX3_readSum 13 = .ok (.aload_n 0, 1) := by decide +kernel
theorem dX3_readSum_14 : decode cX3_readSum 14 = .ok (.getfield 64, 3) := by decide +kernel
theorem dX3_readSum_17 : decode cX3_readSum 17 = .ok (.iconst 1, 1) := by decide +kernel
theorem dX3_readSum_18 : decode cX3_readSum 18 = .ok (.if_icmp .ne 22, 3) := by decide +kernel
theorem dX3_readSum_21 : decode cX3_readSum 21 = .ok (.aload_n 0, 1) := by decide +kernel
theorem dX3_readSum_22 : decode cX3_readSum 22 = .ok (.getfield 81, 3) := by decide +kernel
theorem dX3_readSum_25 : decode cX3_readSum 25 = .ok (.bipush 7, 2) := by decide +kernel
theorem dX3_readSum_27 : decode cX3_readSum 27 = .ok (.if_icmp .lt 13, 3) := by decide +kernel
theorem dX3_readSum_30 : decode cX3_readSum 30 = .ok (.iload_n 2, 1) := by decide +kernel
theorem dX3_readSum_31 : decode cX3_readSum 31 = .ok (.bipush 47, 2) := by decide +kernel
theorem dX3_readSum_33 : decode cX3_readSum 33 = .ok (.if_icmp .eq 7, 3) := by decide +kernel
theorem dX3_readSum_36 : decode cX3_readSum 36 = .ok (.iconst 1, 1) := by decide +kernel
theorem dX3_readSum_37 : decode cX3_readSum 37 = .ok (.goto 4, 3) := by decide +kernel
theorem dX3_readSum_40 : decode cX3_readSum 40 = .ok (.iconst 0, 1) := by decide +kernel
theorem dX3_readSum_41 : decode cX3_readSum 41 = .ok (.istore 4, 2) := by decide +kernel
theorem dX3_readSum_43 : decode cX3_readSum 43 = .ok (.aload_n 0, 1) := by decide +kernel
theorem dX3_readSum_44 : decode cX3_readSum 44 = .ok (.getfield 64, 3) := by decide +kernel
theorem dX3_readSum_47 : decode cX3_readSum 47 = .ok (.iconst 2, 1) := by decide +kernel
theorem dX3_readSum_48 : decode cX3_readSum 48 = .ok (.if_icmp .eq 14, 3) := by decide +kernel
theorem dX3_readSum_51 : decode cX3_readSum 51 = .ok (.iload 4, 2) := by decide +kernel
theorem dX3_readSum_53 : decode cX3_readSum 53 = .ok (.ifCond .ne 9, 3) := by decide +kernel
theorem dX3_readSum_56 : decode cX3_readSum 56 = .ok (.aload_n 0, 1) := by decide +kernel
theorem dX3_readSum_57 : decode cX3_readSum 57 = .ok (.iconst 1, 1) := by decide +kernel
theorem dX3_readSum_58 : decode cX3_readSum 58 = .ok (.invokevirtual 84, 3) := by decide +kernel
theorem dX3_readSum_61 : decode cX3_readSum 61 = .ok (.ireturn, 1) := by decide +kernel
theorem dX3_readSum_62 : decode cX3_readSum 62 = .ok (.iload_n 2, 1) := by decide +kernel
theorem dX3_readSum_63 : decode cX3_readSum 63 = .ok (.bipush 47, 2) := by decide +kernel
theorem dX3_readSum_65 : decode cX3_readSum 65 = .ok (.if_icmp .ne 16, 3) := by decide +kernel
theorem dX3_readSum_68 : decode cX3_readSum 68 = .ok (.aload_n 0, 1) := by decide +kernel
theorem dX3_readSum_69 : decode cX3_readSum 69 = .ok (.getfield 81, 3) := by decide +kernel
theorem dX3_readSum_72 : decode cX3_readSum 72 = .ok (.ifCond .ne 9, 3) := by decide +kernel
theorem dX3_readSum_75 : decode cX3_readSum 75 = .ok (.aload_n 0, 1) := by decide +kernel
theorem dX3_readSum_76 : decode cX3_readSum 76 = .ok (.iconst 2, 1) := by decide +kernel
theorem dX3_readSum_77 : decode cX3_readSum 77 = .ok (.invokevirtual 84, 3) := by decide +kernel
theorem dX3_readSum_80 : decode cX3_readSum 80 = .ok (.ireturn, 1) := by decide +kernel
theorem dX3_readSum_81 : decode cX3_readSum 81 = .ok (.aload_n 0, 1) := by decide +kernel
theorem dX3_readSum_82 : decode cX3_readSum 82 = .ok (.getfield 12, 3) := by decide +kernel
theorem dX3_readSum_85 : decode cX3_readSum 85 = .ok (.getfield 104, 3) := by decide +kernel
theorem dX3_readSum_88 : decode cX3_readSum 88 = .ok (.iload 4, 2) := by decide +kernel
theorem dX3_readSum_90 : decode cX3_readSum 90 = .ok (.ifCond .eq 13, 3) := by decide +kernel
theorem dX3_readSum_93 : decode cX3_readSum 93 = .ok (.bipush (-100), 2) := by decide +kernel
theorem dX3_readSum_95 : decode cX3_readSum 95 = .ok (.aload_n 0, 1) := by decide +kernel
theorem dX3_readSum_96 : decode cX3_readSum 96 = .ok (.getfield 81, 3) := by decide +kernel
theorem dX3_readSum_99 : decode cX3_readSum 99 = .ok (.isub, 1) := by decide +kernel
theorem dX3_readSum_100 : decode cX3_readSum 100 = .ok (.goto 7, 3) := by decide +kernel
theorem dX3_readSum_103 : decode cX3_readSum 103 = .ok (.aload_n 0, 1) := by decide +kernel
theorem dX3_readSum_104 : decode cX3_readSum 104 = .ok (.getfield 81, 3) := by decide +kernel
theorem dX3_readSum_107 : decode cX3_readSum 107 = .ok (.invokevirtual 147, 3) := by decide +kernel
theorem dX3_readSum_110 : decode cX3_readSum 110 = .ok (.pop, 1) := by decide +kernel
theorem dX3_readSum_111 : decode cX3_readSum 111 = .ok (.aload_n 0, 1) := by decide +kernel
theorem dX3_readSum_112 : decode cX3_readSum 112 = .ok (.invokevirtual 61, 3) := by decide +kernel
theorem dX3_readSum_115 : decode cX3_readSum 115 = .ok (.iload_n 2, 1) := by decide +kernel
theorem dX3_readSum_116 : decode cX3_readSum 116 = .ok (.ifCond .eq 16, 3) := by decide +kernel
theorem dX3_readSum_119 : decode cX3_readSum 119 = .ok (.aload_n 0, 1) := by decide +kernel
theorem dX3_readSum_120 : decode cX3_readSum 120 = .ok (.getfield 12, 3) := by decide +kernel
theorem dX3_readSum_123 : decode cX3_readSum 123 = .ok (.getfield 104, 3) := by decide +kernel
theorem dX3_readSum_126 : decode cX3_readSum 126 = .ok (.iload_n 2, 1) := by decide +kernel
theorem dX3_readSum_127 : decode cX3_readSum 127 = .ok (.ineg, 1) := by decide +kernel
theorem dX3_readSum_128 : decode cX3_readSum 128 = .ok (.invokevirtual 147, 3) := by decide +kernel
theorem dX3_readSum_131 : decode cX3_readSum 131 = .ok (.pop, 1) := by decide +kernel
theorem dX3_readSum_132 : decode cX3_readSum 132 = .ok (.aload_n 0, 1) := by decide +kernel
theorem dX3_readSum_133 : decode cX3_readSum 133 = .ok (.bipush 42, 2) := by decide +kernel
theorem dX3_readSum_135 : decode cX3_readSum 135 = .ok (.invokevirtual 141, 3) := by decide +kernel
theorem dX3_readSum_138 : decode cX3_readSum 138 = .ok (.ifCond .ne 12, 3) := by decide +kernel
theorem dX3_readSum_141 : decode cX3_readSum 141 = .ok (.aload_n 0, 1) := by decide +kernel
theorem dX3_readSum_142 : decode cX3_readSum 142 = .ok (.bipush 47, 2) := by decide +kernel
theorem dX3_readSum_144 : decode cX3_readSum 144 = .ok (.invokevirtual 141, 3) := by decide +kernel
theorem dX3_readSum_147 : decode cX3_readSum 147 = .ok (.ifCond .eq 10, 3) := by decide +kernel
theorem dX3_readSum_150 : decode cX3_readSum 150 = .ok (.aload_n 0, 1) := by decide +kernel
theorem dX3_readSum_151 : decode cX3_readSum 151 = .ok (.getfield 81, 3) := by decide +kernel
theorem dX3_readSum_154 : decode cX3_readSum 154 = .ok (.goto 4, 3) := by decide +kernel
theorem dX3_readSum_157 : decode cX3_readSum 157 = .ok (.iconst 0, 1) := by decide +kernel
theorem dX3_readSum_158 : decode cX3_readSum 158 = .ok (.istore_n 2, 1) := by decide +kernel
theorem dX3_readSum_159 : decode cX3_readSum 159 = .ok (.iload_n 2, 1) := by decide +kernel
theorem dX3_readSum_160 : decode cX3_readSum 160 = .ok (.ifCond .ne 53, 3) := by decide +kernel
theorem dX3_readSum_163 : decode cX3_readSum 163 = .ok (.iload_n 1, 1) := by decide +kernel
theorem dX3_readSum_164 : decode cX3_readSum 164 = .ok (.ifCond .eq 16, 3) := by decide +kernel
theorem dX3_readSum_167 : decode cX3_readSum 167 = .ok (.aload_n 0, 1) := by decide +kernel
theorem dX3_readSum_168 : decode cX3_readSum 168 = .ok (.getfield 12, 3) := by decide +kernel
theorem dX3_readSum_171 : decode cX3_readSum 171 = .ok (.getfield 104, 3) := by decide +kernel
theorem dX3_readSum_174 : decode cX3_readSum 174 = .ok (.iload_n 1, 1) := by decide +kernel
theorem dX3_readSum_175 : decode cX3_readSum 175 = .ok (.ineg, 1) := by decide +kernel
theorem dX3_readSum_176 : decode cX3_readSum 176 = .ok (.invokevirtual 147, 3) := by decide +kernel
theorem dX3_readSum_179 : decode cX3_readSum 179 = .ok (.pop, 1) := by decide +kernel
theorem dX3_readSum_180 : decode cX3_readSum 180 = .ok (.aload_n 0, 1) := by decide +kernel
theorem dX3_readSum_181 : decode cX3_readSum 181 = .ok (.bipush 43, 2) := by decide +kernel
theorem dX3_readSum_183 : decode cX3_readSum 183 = .ok (.invokevirtual 141, 3) := by decide +kernel
theorem dX3_readSum_186 : decode cX3_readSum 186 = .ok (.ifCond .ne 12, 3) := by decide +kernel
theorem dX3_readSum_189 : decode cX3_readSum 189 = .ok (.aload_n 0, 1) := by decide +kernel
theorem dX3_readSum_190 : decode cX3_readSum 190 = .ok (.bipush 45, 2) := by decide +kernel
theorem dX3_readSum_192 : decode cX3_readSum 192 = .ok (.invokevirtual 141, 3) := by decide +kernel
theorem dX3_readSum_195 : decode cX3_readSum 195 = .ok (.ifCond .eq 10, 3) := by decide +kernel
theorem dX3_readSum_198 : decode cX3_readSum 198 = .ok (.aload_n 0, 1) := by decide +kernel
theorem dX3_readSum_199 : decode cX3_readSum 199 = .ok (.getfield 81, 3) := by decide +kernel
theorem dX3_readSum_202 : decode cX3_readSum 202 = .ok (.goto 4, 3) := by decide +kernel
theorem dX3_readSum_205 : decode cX3_readSum 205 = .ok (.iconst 0, 1) := by decide +kernel
theorem dX3_readSum_206 : decode cX3_readSum 206 = .ok (.istore_n 1, 1) := by decide +kernel
theorem dX3_readSum_207 : decode cX3_readSum 207 = .ok (.iload_n 1, 1) := by decide +kernel
theorem dX3_readSum_208 : decode cX3_readSum 208 = .ok (.ifCond .ne 5, 3) := by decide +kernel
theorem dX3_readSum_211 : decode cX3_readSum 211 = .ok (.iconst 1, 1) := by decide +kernel
theorem dX3_readSum_212 : decode cX3_readSum 212 = .ok (.ireturn, 1) := by decide +kernel
theorem dX3_readSum_213 : decode cX3_readSum 213 = .ok (.aload_n 0, 1) := by decide +kernel
theorem dX3_readSum_214 : decode cX3_readSum 214 = .ok (.invokevirtual 61, 3) := by decide +kernel
theorem dX3_readSum_217 : decode cX3_readSum 217 = .ok (.iinc 3 1, 3) := by decide +kernel
theorem dX3_readSum_220 : decode cX3_readSum 220 = .ok (.goto (-214), 3) := by decide +kernel
theorem dX3_readSum_223 : decode cX3_readSum 223 = .ok (.aload_n 0, 1) := by decide +kernel
theorem dX3_readSum_224 : decode cX3_readSum 224 = .ok (.iconst 1, 1) := by decide +kernel
theorem dX3_readSum_225 : decode cX3_readSum 225 = .ok (.invokevirtual 84, 3) := by decide +kernel
theorem dX3_readSum_228 : decode cX3_readSum 228 = .ok (.ireturn, 1) := by decide +kernel
theorem dX3_isWord_0 : decode cX3_isWord 0 = .ok (.aload_n 0, 1) := by decide +kernel
theorem dX3_isWord_1 : decode cX3_isWord 1 = .ok (.getfield 64, 3) := by decide +kernel
theorem dX3_isWord_4 : decode cX3_isWord 4 = .ok (.iconst 1, 1) := by decide +kernel
theorem dX3_isWord_5 : decode cX3_isWord 5 = .ok (.if_icmp .ne 15, 3) := by decide +kernel
theorem dX3_isWord_8 : decode cX3_isWord 8 = .ok (.aload_n 0, 1) := by decide +kernel
theorem dX3_isWord_9 : decode cX3_isWord 9 = .ok (.getfield 81, 3) := by decide +kernel
theorem dX3_isWord_12 : decode cX3_isWord 12 = .ok (.iload_n 1, 1) := by decide +kernel
theorem dX3_isWord_13 : decode cX3_isWord 13 = .ok (.if_icmp .ne 7, 3) := by decide +kernel
theorem dX3_isWord_16 : decode cX3_isWord 16 = .ok (.iconst 1, 1) := by decide +kernel
theorem dX3_isWord_17 : decode cX3_isWord 17 = .ok (.goto 4, 3) := by decide +kernel
theorem dX3_isWord_20 : decode cX3_isWord 20 = .ok (.iconst 0, 1) := by decide +kernel
theorem dX3_isWord_21 : decode cX3_isWord 21 = .ok (.ireturn, 1) := by decide +kernel
theorem dX3_isSign_0 : decode cX3_isSign 0 = .ok (.aload_n 0, 1) := by decide +kernel
theorem dX3_isSign_1 : decode cX3_isSign 1 = .ok (.getfield 64, 3) := by decide +kernel
theorem dX3_isSign_4 : decode cX3_isSign 4 = .ok (.iconst 3, 1) := by decide +kernel
theorem dX3_isSign_5 : decode cX3_isSign 5 = .ok (.if_icmp .ne 15, 3) := by decide +kernel
theorem dX3_isSign_8 : decode cX3_isSign 8 = .ok (.aload_n 0, 1) := by decide +kernel
theorem dX3_isSign_9 : decode cX3_isSign 9 = .ok (.getfield 81, 3) := by decide +kernel
theorem dX3_isSign_12 : decode cX3_isSign 12 = .ok (.iload_n 1, 1) := by decide +kernel
theorem dX3_isSign_13 : decode cX3_isSign 13 = .ok (.if_icmp .ne 7, 3) := by decide +kernel
theorem dX3_isSign_16 : decode cX3_isSign 16 = .ok (.iconst 1, 1) := by decide +kernel
theorem dX3_isSign_17 : decode cX3_isSign 17 = .ok (.goto 4, 3) := by decide +kernel
theorem dX3_isSign_20 : decode cX3_isSign 20 = .ok (.iconst 0, 1) := by decide +kernel
theorem dX3_isSign_21 : decode cX3_isSign 21 = .ok (.ireturn, 1) := by decide +kernel
theorem dX3_refuse_0 : decode cX3_refuse 0 = .ok (.aload_n 0, 1) := by decide +kernel
theorem dX3_refuse_1 : decode cX3_refuse 1 = .ok (.iload_n 1, 1) := by decide +kernel
theorem dX3_refuse_2 : decode cX3_refuse 2 = .ok (.putfield 44, 3) := by decide +kernel
theorem dX3_refuse_5 : decode cX3_refuse 5 = .ok (.aload_n 0, 1) := by decide +kernel
theorem dX3_refuse_6 : decode cX3_refuse 6 = .ok (.aload_n 0, 1) := by decide +kernel
theorem dX3_refuse_7 : decode cX3_refuse 7 = .ok (.getfield 153, 3) := by decide +kernel
theorem dX3_refuse_10 : decode cX3_refuse 10 = .ok (.putfield 31, 3) := by decide +kernel
theorem dX3_refuse_13 : decode cX3_refuse 13 = .ok (.iconst 0, 1) := by decide +kernel
theorem dX3_refuse_14 : decode cX3_refuse 14 = .ok (.ireturn, 1) := by decide +kernel
theorem dX3_advance_0 : decode cX3_advance 0 = .ok (.aload_n 0, 1) := by decide +kernel
theorem dX3_advance_1 : decode cX3_advance 1 = .ok (.getfield 156, 3) := by decide +kernel
theorem dX3_advance_4 : decode cX3_advance 4 = .ok (.aload_n 0, 1) := by decide +kernel
theorem dX3_advance_5 : decode cX3_advance 5 = .ok (.getfield 159, 3) := by decide +kernel
theorem dX3_advance_8 : decode cX3_advance 8 = .ok (.if_icmp .ge 64, 3) := by decide +kernel
theorem dX3_advance_11 : decode cX3_advance 11 = .ok (.aload_n 0, 1) := by decide +kernel
theorem dX3_advance_12 : decode cX3_advance 12 = .ok (.getfield 156, 3) := by decide +kernel
theorem dX3_advance_15 : decode cX3_advance 15 = .ok (.aload_n 0, 1) := by decide +kernel
theorem dX3_advance_16 : decode cX3_advance 16 = .ok (.getfield 22, 3) := by decide +kernel
theorem dX3_advance_19 : decode cX3_advance 19 = .ok (.arraylength, 1) := by decide +kernel
theorem dX3_advance_20 : decode cX3_advance 20 = .ok (.if_icmp .ge 52, 3) := by decide +kernel
theorem dX3_advance_23 : decode cX3_advance 23 = .ok (.aload_n 0, 1) := by decide +kernel
theorem dX3_advance_24 : decode cX3_advance 24 = .ok (.aload_n 0, 1) := by decide +kernel
theorem dX3_advance_25 : decode cX3_advance 25 = .ok (.getfield 22, 3) := by decide +kernel
theorem dX3_advance_28 : decode cX3_advance 28 = .ok (.aload_n 0, 1) := by decide +kernel
theorem dX3_advance_29 : decode cX3_advance 29 = .ok (.getfield 156, 3) := by decide +kernel
theorem dX3_advance_32 : decode cX3_advance 32 = .ok (.iaload, 1) := by decide +kernel
theorem dX3_advance_33 : decode cX3_advance 33 = .ok (.putfield 64, 3) := by decide +kernel
theorem dX3_advance_36 : decode cX3_advance 36 = .ok (.aload_n 0, 1) := by decide +kernel
theorem dX3_advance_37 : decode cX3_advance 37 = .ok (.aload_n 0, 1) := by decide +kernel
theorem dX3_advance_38 : decode cX3_advance 38 = .ok (.getfield 25, 3) := by decide +kernel
theorem dX3_advance_41 : decode cX3_advance 41 = .ok (.aload_n 0, 1) := by decide +kernel
theorem dX3_advance_42 : decode cX3_advance 42 = .ok (.getfield 156, 3) := by decide +kernel
theorem dX3_advance_45 : decode cX3_advance 45 = .ok (.iaload, 1) := by decide +kernel
theorem dX3_advance_46 : decode cX3_advance 46 = .ok (.putfield 81, 3) := by decide +kernel
theorem dX3_advance_49 : decode cX3_advance 49 = .ok (.aload_n 0, 1) := by decide +kernel
theorem dX3_advance_50 : decode cX3_advance 50 = .ok (.aload_n 0, 1) := by decide +kernel
theorem dX3_advance_51 : decode cX3_advance 51 = .ok (.getfield 28, 3) := by decide +kernel
theorem dX3_advance_54 : decode cX3_advance 54 = .ok (.aload_n 0, 1) := by decide +kernel
theorem dX3_advance_55 : decode cX3_advance 55 = .ok (.getfield 156, 3) := by decide +kernel
theorem dX3_advance_58 : decode cX3_advance 58 = .ok (.iaload, 1) := by decide +kernel
theorem dX3_advance_59 : decode cX3_advance 59 = .ok (.putfield 153, 3) := by decide +kernel
theorem dX3_advance_62 : decode cX3_advance 62 = .ok (.aload_n 0, 1) := by decide +kernel
theorem dX3_advance_63 : decode cX3_advance 63 = .ok (.dup, 1) := by decide +kernel
theorem dX3_advance_64 : decode cX3_advance 64 = .ok (.getfield 156, 3) := by decide +kernel
theorem dX3_advance_67 : decode cX3_advance 67 = .ok (.iconst 1, 1) := by decide +kernel
theorem dX3_advance_68 : decode cX3_advance 68 = .ok (.iadd, 1) := by decide +kernel
theorem dX3_advance_69 : decode cX3_advance 69 = .ok (.putfield 156, 3) := by decide +kernel
theorem dX3_advance_72 : decode cX3_advance 72 = .ok (.return_, 1) := by decide +kernel
theorem dX3_findTokens_0 : decode cX3_findTokens 0 = .ok (.aload_n 0, 1) := by decide +kernel
theorem dX3_findTokens_1 : decode cX3_findTokens 1 = .ok (.iconst 0, 1) := by decide +kernel
theorem dX3_findTokens_2 : decode cX3_findTokens 2 = .ok (.putfield 159, 3) := by decide +kernel
theorem dX3_findTokens_5 : decode cX3_findTokens 5 = .ok (.aload_n 0, 1) := by decide +kernel
theorem dX3_findTokens_6 : decode cX3_findTokens 6 = .ok (.iconst 0, 1) := by decide +kernel
theorem dX3_findTokens_7 : decode cX3_findTokens 7 = .ok (.putfield 156, 3) := by decide +kernel
theorem dX3_findTokens_10 : decode cX3_findTokens 10 = .ok (.iconst 0, 1) := by decide +kernel
theorem dX3_findTokens_11 : decode cX3_findTokens 11 = .ok (.istore_n 1, 1) := by decide +kernel
theorem dX3_findTokens_12 : decode cX3_findTokens 12 = .ok (.iload_n 1, 1) := by decide +kernel
theorem dX3_findTokens_13 : decode cX3_findTokens 13 = .ok (.aload_n 0, 1) := by decide +kernel
theorem dX3_findTokens_14 : decode cX3_findTokens 14 = .ok (.getfield 41, 3) := by decide +kernel
theorem dX3_findTokens_17 : decode cX3_findTokens 17 = .ok (.if_icmp .ge 66, 3) := by decide +kernel
theorem dX3_findTokens_20 : decode cX3_findTokens 20 = .ok (.aload_n 0, 1) := by decide +kernel
theorem dX3_findTokens_21 : decode cX3_findTokens 21 = .ok (.getfield 18, 3) := by decide +kernel
theorem dX3_findTokens_24 : decode cX3_findTokens 24 = .ok (.iload_n 1, 1) := by decide +kernel
theorem dX3_findTokens_25 : decode cX3_findTokens 25 = .ok (.iaload, 1) := by decide +kernel
theorem dX3_findTokens_26 : decode cX3_findTokens 26 = .ok (.invokestatic 162, 3) := by decide +kernel
theorem dX3_findTokens_29 : decode cX3_findTokens 29 = .ok (.istore_n 2, 1) := by decide +kernel
theorem dX3_findTokens_30 : decode cX3_findTokens 30 = .ok (.iload_n 2, 1) := by decide +kernel
theorem dX3_findTokens_31 : decode cX3_findTokens 31 = .ok (.invokestatic 165, 3) := by decide +kernel
theorem dX3_findTokens_34 : decode cX3_findTokens 34 = .ok (.ifCond .eq 26, 3) := by decide +kernel
theorem dX3_findTokens_37 : decode cX3_findTokens 37 = .ok (.iload_n 1, 1) := by decide +kernel
theorem dX3_findTokens_38 : decode cX3_findTokens 38 = .ok (.ifCond .le 22, 3) := by decide +kernel
theorem dX3_findTokens_41 : decode cX3_findTokens 41 = .ok (.aload_n 0, 1) := by decide +kernel
theorem dX3_findTokens_42 : decode cX3_findTokens 42 = .ok (.getfield 18, 3) := by decide +kernel
theorem dX3_findTokens_45 : decode cX3_findTokens 45 = .ok (.iload_n 1, 1) := by decide +kernel
theorem dX3_findTokens_46 : decode cX3_findTokens 46 = .ok (.iconst 1, 1) := by decide +kernel
theorem dX3_findTokens_47 : decode cX3_findTokens 47 = .ok (.isub, 1) := by decide +kernel
theorem dX3_findTokens_48 : decode cX3_findTokens 48 = .ok (.iaload, 1) := by decide +kernel
theorem dX3_findTokens_49 : decode cX3_findTokens 49 = .ok (.invokestatic 162, 3) := by decide +kernel
theorem dX3_findTokens_52 : decode cX3_findTokens 52 = .ok (.iload_n 2, 1) := by decide +kernel
theorem dX3_findTokens_53 : decode cX3_findTokens 53 = .ok (.if_icmp .ne 7, 3) := by decide +kernel
theorem dX3_findTokens_56 : decode cX3_findTokens 56 = .ok (.iconst 1, 1) := by decide +kernel
theorem dX3_findTokens_57 : decode cX3_findTokens 57 = .ok (.goto 4, 3) := by decide +kernel
theorem dX3_findTokens_60 : decode cX3_findTokens 60 = .ok (.iconst 0, 1) := by decide +kernel
theorem dX3_findTokens_61 : decode cX3_findTokens 61 = .ok (.istore_n 3, 1) := by decide +kernel
theorem dX3_findTokens_62 : decode cX3_findTokens 62 = .ok (.iload_n 2, 1) := by decide +kernel
theorem dX3_findTokens_63 : decode cX3_findTokens 63 = .ok (.iconst 5, 1) := by decide +kernel
theorem dX3_findTokens_64 : decode cX3_findTokens 64 = .ok (.if_icmp .eq 13, 3) := by decide +kernel
theorem dX3_findTokens_67 : decode cX3_findTokens 67 = .ok (.iload_n 3, 1) := by decide +kernel
theorem dX3_findTokens_68 : decode cX3_findTokens 68 = .ok (.ifCond .ne 9, 3) := by decide +kernel
theorem dX3_findTokens_71 : decode cX3_findTokens 71 = .ok (.aload_n 0, 1) := by decide +kernel
theorem dX3_findTokens_72 : decode cX3_findTokens 72 = .ok (.iload_n 1, 1) := by decide +kernel
theorem dX3_findTokens_73 : decode cX3_findTokens 73 = .ok (.iload_n 2, 1) := by decide +kernel
theorem dX3_findTokens_74 : decode cX3_findTokens 74 = .ok (.invokevirtual 168, 3) := by decide +kernel
theorem dX3_findTokens_77 : decode cX3_findTokens 77 = .ok (.iinc 1 1, 3) := by decide +kernel
theorem dX3_findTokens_80 : decode cX3_findTokens 80 = .ok (.goto (-68), 3) := by decide +kernel
theorem dX3_findTokens_83 : decode cX3_findTokens 83 = .ok (.aload_n 0, 1) := by decide +kernel
theorem dX3_findTokens_84 : decode cX3_findTokens 84 = .ok (.iconst 0, 1) := by decide +kernel
theorem dX3_findTokens_85 : decode cX3_findTokens 85 = .ok (.iconst 0, 1) := by decide +kernel
theorem dX3_findTokens_86 : decode cX3_findTokens 86 = .ok (.aload_n 0, 1) := by decide +kernel
theorem dX3_findTokens_87 : decode cX3_findTokens 87 = .ok (.getfield 41, 3) := by decide +kernel
theorem dX3_findTokens_90 : decode cX3_findTokens 90 = .ok (.invokevirtual 171, 3) := by decide +kernel
theorem dX3_findTokens_93 : decode cX3_findTokens 93 = .ok (.return_, 1) := by decide +kernel
theorem dX3_findToken_0 : decode cX3_findToken 0 = .ok (.iload_n 1, 1) := by decide +kernel
theorem dX3_findToken_1 : decode cX3_findToken 1 = .ok (.iconst 1, 1) := by decide +kernel
theorem dX3_findToken_2 : decode cX3_findToken 2 = .ok (.iadd, 1) := by decide +kernel
theorem dX3_findToken_3 : decode cX3_findToken 3 = .ok (.istore_n 3, 1) := by decide +kernel
theorem dX3_findToken_4 : decode cX3_findToken 4 = .ok (.iload_n 3, 1) := by decide +kernel
theorem dX3_findToken_5 : decode cX3_findToken 5 = .ok (.aload_n 0, 1) := by decide +kernel
theorem dX3_findToken_6 : decode cX3_findToken 6 = .ok (.getfield 41, 3) := by decide +kernel
theorem dX3_findToken_9 : decode cX3_findToken 9 = .ok (.if_icmp .ge 29, 3) := by decide +kernel
theorem dX3_findToken_12 : decode cX3_findToken 12 = .ok (.iload_n 2, 1) := by decide +kernel
theorem dX3_findToken_13 : decode cX3_findToken 13 = .ok (.invokestatic 165, 3) := by decide +kernel
theorem dX3_findToken_16 : decode cX3_findToken 16 = .ok (.ifCond .eq 22, 3) := by decide +kernel
theorem dX3_findToken_19 : decode cX3_findToken 19 = .ok (.aload_n 0, 1) := by decide +kernel
theorem dX3_findToken_20 : decode cX3_findToken 20 = .ok (.getfield 18, 3) := by decide +kernel
theorem dX3_findToken_23 : decode cX3_findToken 23 = .ok (.iload_n 3, 1) := by decide +kernel
theorem dX3_findToken_24 : decode cX3_findToken 24 = .ok (.iaload, 1) := by decide +kernel
theorem dX3_findToken_25 : decode cX3_findToken 25 = .ok (.invokestatic 162, 3) := by decide +kernel
theorem dX3_findToken_28 : decode cX3_findToken 28 = .ok (.iload_n 2, 1) := by decide +kernel
theorem dX3_findToken_29 : decode cX3_findToken 29 = .ok (.if_icmp .ne 9, 3) := by decide +kernel
theorem dX3_findToken_32 : decode cX3_findToken 32 = .ok (.iinc 3 1, 3) := by decide +kernel
theorem dX3_findToken_35 : decode cX3_findToken 35 = .ok (.goto (-31), 3) := by decide +kernel
theorem dX3_findToken_38 : decode cX3_findToken 38 = .ok (.aload_n 0, 1) := by decide +kernel
theorem dX3_findToken_39 : decode cX3_findToken 39 = .ok (.getfield 18, 3) := by decide +kernel
theorem dX3_findToken_42 : decode cX3_findToken 42 = .ok (.iload_n 1, 1) := by decide +kernel
theorem dX3_findToken_43 : decode cX3_findToken 43 = .ok (.iaload, 1) := by decide +kernel
theorem dX3_findToken_44 : decode cX3_findToken 44 = .ok (.istore 4, 2) := by decide +kernel
theorem dX3_findToken_46 : decode cX3_findToken 46 = .ok (.iload_n 2, 1) := by decide +kernel
theorem dX3_findToken_47 : decode cX3_findToken 47 = .ok (.iconst 1, 1) := by decide +kernel
theorem dX3_findToken_48 : decode cX3_findToken 48 = .ok (.if_icmp .ne 14, 3) := by decide +kernel
theorem dX3_findToken_51 : decode cX3_findToken 51 = .ok (.aload_n 0, 1) := by decide +kernel
theorem dX3_findToken_52 : decode cX3_findToken 52 = .ok (.iload_n 1, 1) := by decide +kernel
theorem dX3_findToken_53 : decode cX3_findToken 53 = .ok (.iload_n 3, 1) := by decide +kernel
theorem dX3_findToken_54 : decode cX3_findToken 54 = .ok (.invokevirtual 175, 3) := by decide +kernel
theorem dX3_findToken_57 : decode cX3_findToken 57 = .ok (.istore 4, 2) := by decide +kernel
theorem dX3_findToken_59 : decode cX3_findToken 59 = .ok (.goto 16, 3) := by decide +kernel
theorem dX3_findToken_62 : decode cX3_findToken 62 = .ok (.iload_n 2, 1) := by decide +kernel
theorem dX3_findToken_63 : decode cX3_findToken 63 = .ok (.iconst 2, 1) := by decide +kernel
theorem dX3_findToken_64 : decode cX3_findToken 64 = .ok (.if_icmp .ne 11, 3) := by decide +kernel
theorem dX3_findToken_67 : decode cX3_findToken 67 = .ok (.aload_n 0, 1) := by decide +kernel
theorem dX3_findToken_68 : decode cX3_findToken 68 = .ok (.iload_n 1, 1) := by decide +kernel
theorem dX3_findToken_69 : decode cX3_findToken 69 = .ok (.iload_n 3, 1) := by decide +kernel
theorem dX3_findToken_70 : decode cX3_findToken 70 = .ok (.invokevirtual 179, 3) := by decide +kernel
theorem dX3_findToken_73 : decode cX3_findToken 73 = .ok (.istore 4, 2) := by decide +kernel
theorem dX3_findToken_75 : decode cX3_findToken 75 = .ok (.aload_n 0, 1) := by decide +kernel
theorem dX3_findToken_76 : decode cX3_findToken 76 = .ok (.iload 4, 2) := by decide +kernel
theorem dX3_findToken_78 : decode cX3_findToken 78 = .ok (.iconst (-1), 1) := by decide +kernel
theorem dX3_findToken_79 : decode cX3_findToken 79 = .ok (.if_icmp .ne 7, 3) := by decide +kernel
theorem dX3_findToken_82 : decode cX3_findToken 82 = .ok (.iconst 4, 1) := by decide +kernel
theorem dX3_findToken_83 : decode cX3_findToken 83 = .ok (.goto 4, 3) := by decide +kernel
theorem dX3_findToken_86 : decode cX3_findToken 86 = .ok (.iload_n 2, 1) := by decide +kernel
theorem dX3_findToken_87 : decode cX3_findToken 87 = .ok (.iload 4, 2) := by decide +kernel
theorem dX3_findToken_89 : decode cX3_findToken 89 = .ok (.iload_n 1, 1) := by decide +kernel
theorem dX3_findToken_90 : decode cX3_findToken 90 = .ok (.invokevirtual 171, 3) := by decide +kernel
theorem dX3_findToken_93 : decode cX3_findToken 93 = .ok (.return_, 1) := by decide +kernel
theorem dX3_addToken_0 : decode cX3_addToken 0 = .ok (.aload_n 0, 1) := by decide +kernel
theorem dX3_addToken_1 : decode cX3_addToken 1 = .ok (.getfield 159, 3) := by decide +kernel
theorem dX3_addToken_4 : decode cX3_addToken 4 = .ok (.aload_n 0, 1) := by decide +kernel
theorem dX3_addToken_5 : decode cX3_addToken 5 = .ok (.getfield 22, 3) := by decide +kernel
theorem dX3_addToken_8 : decode cX3_addToken 8 = .ok (.arraylength, 1) := by decide +kernel
theorem dX3_addToken_9 : decode cX3_addToken 9 = .ok (.if_icmp .ge 43, 3) := by decide +kernel
theorem dX3_addToken_12 : decode cX3_addToken 12 = .ok (.aload_n 0, 1) := by decide +kernel
theorem dX3_addToken_13 : decode cX3_addToken 13 = .ok (.getfield 22, 3) := by decide +kernel
theorem dX3_addToken_16 : decode cX3_addToken 16 = .ok (.aload_n 0, 1) := by decide +kernel
theorem dX3_addToken_17 : decode cX3_addToken 17 = .ok (.getfield 159, 3) := by decide +kernel
theorem dX3_addToken_20 : decode cX3_addToken 20 = .ok (.iload_n 1, 1) := by decide +kernel
theorem dX3_addToken_21 : decode cX3_addToken 21 = .ok (.iastore, 1) := by decide +kernel
theorem dX3_addToken_22 : decode cX3_addToken 22 = .ok (.aload_n 0, 1) := by decide +kernel
theorem dX3_addToken_23 : decode cX3_addToken 23 = .ok (.getfield 25, 3) := by decide +kernel
theorem dX3_addToken_26 : decode cX3_addToken 26 = .ok (.aload_n 0, 1) := by decide +kernel
theorem dX3_addToken_27 : decode cX3_addToken 27 = .ok (.getfield 159, 3) := by decide +kernel
theorem dX3_addToken_30 : decode cX3_addToken 30 = .ok (.iload_n 2, 1) := by decide +kernel
theorem dX3_addToken_31 : decode cX3_addToken 31 = .ok (.iastore, 1) := by decide +kernel
theorem dX3_addToken_32 : decode cX3_addToken 32 = .ok (.aload_n 0, 1) := by decide +kernel
theorem dX3_addToken_33 : decode cX3_addToken 33 = .ok (.getfield 28, 3) := by decide +kernel
theorem dX3_addToken_36 : decode cX3_addToken 36 = .ok (.aload_n 0, 1) := by decide +kernel
theorem dX3_addToken_37 : decode cX3_addToken 37 = .ok (.getfield 159, 3) := by decide +kernel
theorem dX3_addToken_40 : decode cX3_addToken 40 = .ok (.iload_n 3, 1) := by decide +kernel
theorem dX3_addToken_41 : decode cX3_addToken 41 = .ok (.iastore, 1) := by decide +kernel
theorem dX3_addToken_42 : decode cX3_addToken 42 = .ok (.aload_n 0, 1) := by decide +kernel
theorem dX3_addToken_43 : decode cX3_addToken 43 = .ok (.dup, 1) := by decide +kernel
theorem dX3_addToken_44 : decode cX3_addToken 44 = .ok (.getfield 159, 3) := by decide +kernel
theorem dX3_addToken_47 : decode cX3_addToken 47 = .ok (.iconst 1, 1) := by decide +kernel
theorem dX3_addToken_48 : decode cX3_addToken 48 = .ok (.iadd, 1) := by decide +kernel
theorem dX3_addToken_49 : decode cX3_addToken 49 = .ok (.putfield 159, 3) := by decide +kernel
theorem dX3_addToken_52 : decode cX3_addToken 52 = .ok (.return_, 1) := by decide +kernel
theorem dX3_wordNumber_0 : decode cX3_wordNumber 0 = .ok (.iconst 0, 1) := by decide +kernel
theorem dX3_wordNumber_1 : decode cX3_wordNumber 1 = .ok (.istore_n 3, 1) := by decide +kernel
theorem dX3_wordNumber_2 : decode cX3_wordNumber 2 = .ok (.iload_n 1, 1) := by decide +kernel
theorem dX3_wordNumber_3 : decode cX3_wordNumber 3 = .ok (.istore 4, 2) := by decide +kernel
theorem dX3_wordNumber_5 : decode cX3_wordNumber 5 = .ok (.iconst 1, 1) := by decide +kernel
theorem dX3_wordNumber_6 : decode cX3_wordNumber 6 = .ok (.istore 5, 2) := by decide +kernel
theorem dX3_wordNumber_8 : decode cX3_wordNumber 8 = .ok (.iconst 0, 1) := by decide +kernel
theorem dX3_wordNumber_9 : decode cX3_wordNumber 9 = .ok (.istore 6, 2) := by decide +kernel
theorem dX3_wordNumber_11 : decode cX3_wordNumber 11 = .ok (.iload 6, 2) := by decide +kernel
theorem dX3_wordNumber_13 : decode cX3_wordNumber 13 = .ok (.aload_n 0, 1) := by decide +kernel
theorem dX3_wordNumber_14 : decode cX3_wordNumber 14 = .ok (.getfield 37, 3) := by decide +kernel
theorem dX3_wordNumber_17 : decode cX3_wordNumber 17 = .ok (.invokevirtual 182, 3) := by decide +kernel
theorem dX3_wordNumber_20 : decode cX3_wordNumber 20 = .ok (.if_icmp .ge 88, 3) := by decide +kernel
theorem dX3_wordNumber_23 : decode cX3_wordNumber 23 = .ok (.aload_n 0, 1) := by decide +kernel
theorem dX3_wordNumber_24 : decode cX3_wordNumber 24 = .ok (.getfield 37, 3) := by decide +kernel
theorem dX3_wordNumber_27 : decode cX3_wordNumber 27 = .ok (.iload 6, 2) := by decide +kernel
theorem dX3_wordNumber_29 : decode cX3_wordNumber 29 = .ok (.invokevirtual 188, 3) := by decide +kernel
theorem dX3_wordNumber_32 : decode cX3_wordNumber 32 = .ok (.bipush 32, 2) := by decide +kernel
theorem dX3_wordNumber_34 : decode cX3_wordNumber 34 = .ok (.if_icmp .eq 46, 3) := by decide +kernel
theorem dX3_wordNumber_37 : decode cX3_wordNumber 37 = .ok (.iload 5, 2) := by decide +kernel
theorem dX3_wordNumber_39 : decode cX3_wordNumber 39 = .ok (.ifCond .eq 32, 3) := by decide +kernel
theorem dX3_wordNumber_42 : decode cX3_wordNumber 42 = .ok (.iload 4, 2) := by decide +kernel
theorem dX3_wordNumber_44 : decode cX3_wordNumber 44 = .ok (.iload_n 2, 1) := by decide +kernel
theorem dX3_wordNumber_45 : decode cX3_wordNumber 45 = .ok (.if_icmp .ge 26, 3) := by decide +kernel
theorem dX3_wordNumber_48 : decode cX3_wordNumber 48 = .ok (.aload_n 0, 1) := by decide +kernel
theorem dX3_wordNumber_49 : decode cX3_wordNumber 49 = .ok (.getfield 18, 3) := by decide +kernel
theorem dX3_wordNumber_52 : decode cX3_wordNumber 52 = .ok (.iload 4, 2) := by decide +kernel
theorem dX3_wordNumber_54 : decode cX3_wordNumber 54 = .ok (.iaload, 1) := by decide +kernel
theorem dX3_wordNumber_55 : decode cX3_wordNumber 55 = .ok (.aload_n 0, 1) := by decide +kernel
theorem dX3_wordNumber_56 : decode cX3_wordNumber 56 = .ok (.getfield 37, 3) := by decide +kernel
theorem dX3_wordNumber_59 : decode cX3_wordNumber 59 = .ok (.iload 6, 2) := by decide +kernel
theorem dX3_wordNumber_61 : decode cX3_wordNumber 61 = .ok (.invokevirtual 188, 3) := by decide +kernel
theorem dX3_wordNumber_64 : decode cX3_wordNumber 64 = .ok (.if_icmp .ne 7, 3) := by decide +kernel
theorem dX3_wordNumber_67 : decode cX3_wordNumber 67 = .ok (.iconst 1, 1) := by decide +kernel
theorem dX3_wordNumber_68 : decode cX3_wordNumber 68 = .ok (.goto 4, 3) := by decide +kernel
theorem dX3_wordNumber_71 : decode cX3_wordNumber 71 = .ok (.iconst 0, 1) := by decide +kernel
theorem dX3_wordNumber_72 : decode cX3_wordNumber 72 = .ok (.istore 5, 2) := by decide +kernel
theorem dX3_wordNumber_74 : decode cX3_wordNumber 74 = .ok (.iinc 4 1, 3) := by decide +kernel
theorem dX3_wordNumber_77 : decode cX3_wordNumber 77 = .ok (.goto 25, 3) := by decide +kernel
theorem dX3_wordNumber_80 : decode cX3_wordNumber 80 = .ok (.iload 5, 2) := by decide +kernel
theorem dX3_wordNumber_82 : decode cX3_wordNumber 82 = .ok (.ifCond .eq 11, 3) := by decide +kernel
theorem dX3_wordNumber_85 : decode cX3_wordNumber 85 = .ok (.iload 4, 2) := by decide +kernel
theorem dX3_wordNumber_87 : decode cX3_wordNumber 87 = .ok (.iload_n 2, 1) := by decide +kernel
theorem dX3_wordNumber_88 : decode cX3_wordNumber 88 = .ok (.if_icmp .ne 5, 3) := by decide +kernel
theorem dX3_wordNumber_91 : decode cX3_wordNumber 91 = .ok (.iload_n 3, 1) := by decide +kernel
theorem dX3_wordNumber_92 : decode cX3_wordNumber 92 = .ok (.ireturn, 1) := by decide +kernel
theorem dX3_wordNumber_93 : decode cX3_wordNumber 93 = .ok (.iinc 3 1, 3) := by decide +kernel
theorem dX3_wordNumber_96 : decode cX3_wordNumber 96 = .ok (.iload_n 1, 1) := by decide +kernel
theorem dX3_wordNumber_97 : decode cX3_wordNumber 97 = .ok (.istore 4, 2) := by decide +kernel
theorem dX3_wordNumber_99 : decode cX3_wordNumber 99 = .ok (.iconst 1, 1) := by decide +kernel
theorem dX3_wordNumber_100 : decode cX3_wordNumber 100 = .ok (.istore 5, 2) := by decide +kernel
theorem dX3_wordNumber_102 : decode cX3_wordNumber 102 = .ok (.iinc 6 1, 3) := by decide +kernel
theorem dX3_wordNumber_105 : decode cX3_wordNumber 105 = .ok (.goto (-94), 3) := by decide +kernel
theorem dX3_wordNumber_108 : decode cX3_wordNumber 108 = .ok (.iload 5, 2) := by decide +kernel
theorem dX3_wordNumber_110 : decode cX3_wordNumber 110 = .ok (.ifCond .eq 13, 3) := by decide +kernel
theorem dX3_wordNumber_113 : decode cX3_wordNumber 113 = .ok (.iload 4, 2) := by decide +kernel
theorem dX3_wordNumber_115 : decode cX3_wordNumber 115 = .ok (.iload_n 2, 1) := by decide +kernel
theorem dX3_wordNumber_116 : decode cX3_wordNumber 116 = .ok (.if_icmp .ne 7, 3) := by decide +kernel
theorem dX3_wordNumber_119 : decode cX3_wordNumber 119 = .ok (.iload_n 3, 1) := by decide +kernel
theorem dX3_wordNumber_120 : decode cX3_wordNumber 120 = .ok (.goto 4, 3) := by decide +kernel
theorem dX3_wordNumber_123 : decode cX3_wordNumber 123 = .ok (.iconst (-1), 1) := by decide +kernel
theorem dX3_wordNumber_124 : decode cX3_wordNumber 124 = .ok (.ireturn, 1) := by decide +kernel
theorem dX3_numberOf_0 : decode cX3_numberOf 0 = .ok (.iload_n 2, 1) := by decide +kernel
theorem dX3_numberOf_1 : decode cX3_numberOf 1 = .ok (.iload_n 1, 1) := by decide +kernel
theorem dX3_numberOf_2 : decode cX3_numberOf 2 = .ok (.isub, 1) := by decide +kernel
theorem dX3_numberOf_3 : decode cX3_numberOf 3 = .ok (.iconst 4, 1) := by decide +kernel
theorem dX3_numberOf_4 : decode cX3_numberOf 4 = .ok (.if_icmp .le 5, 3) := by decide +kernel
theorem dX3_numberOf_7 : decode cX3_numberOf 7 = .ok (.iconst (-1), 1) := by decide +kernel
theorem dX3_numberOf_8 : decode cX3_numberOf 8 = .ok (.ireturn, 1) := by decide +kernel
theorem dX3_numberOf_9 : decode cX3_numberOf 9 = .ok (.iconst 0, 1) := by decide +kernel
theorem dX3_numberOf_10 : decode cX3_numberOf 10 = .ok (.istore_n 3, 1) := by decide +kernel
theorem dX3_numberOf_11 : decode cX3_numberOf 11 = .ok (.iload_n 1, 1) := by decide +kernel
theorem dX3_numberOf_12 : decode cX3_numberOf 12 = .ok (.istore 4, 2) := by decide +kernel
theorem dX3_numberOf_14 : decode cX3_numberOf 14 = .ok (.iload 4, 2) := by decide +kernel
theorem dX3_numberOf_16 : decode cX3_numberOf 16 = .ok (.iload_n 2, 1) := by decide +kernel
theorem dX3_numberOf_17 : decode cX3_numberOf 17 = .ok (.if_icmp .ge 25, 3) := by decide +kernel
theorem dX3_numberOf_20 : decode cX3_numberOf 20 = .ok (.iload_n 3, 1) := by decide +kernel
theorem dX3_numberOf_21 : decode cX3_numberOf 21 = .ok (.bipush 10, 2) := by decide +kernel
theorem dX3_numberOf_23 : decode cX3_numberOf 23 = .ok (.imul, 1) := by decide +kernel
theorem dX3_numberOf_24 : decode cX3_numberOf 24 = .ok (.aload_n 0, 1) := by decide +kernel
theorem dX3_numberOf_25 : decode cX3_numberOf 25 = .ok (.getfield 18, 3) := by decide +kernel
theorem dX3_numberOf_28 : decode cX3_numberOf 28 = .ok (.iload 4, 2) := by decide +kernel
theorem dX3_numberOf_30 : decode cX3_numberOf 30 = .ok (.iaload, 1) := by decide +kernel
theorem dX3_numberOf_31 : decode cX3_numberOf 31 = .ok (.iadd, 1) := by decide +kernel
theorem dX3_numberOf_32 : decode cX3_numberOf 32 = .ok (.bipush 48, 2) := by decide +kernel
theorem dX3_numberOf_34 : decode cX3_numberOf 34 = .ok (.isub, 1) := by decide +kernel
theorem dX3_numberOf_35 : decode cX3_numberOf 35 = .ok (.istore_n 3, 1) := by decide +kernel
theorem dX3_numberOf_36 : decode cX3_numberOf 36 = .ok (.iinc 4 1, 3) := by decide +kernel
theorem dX3_numberOf_39 : decode cX3_numberOf 39 = .ok (.goto (-25), 3) := by decide +kernel
theorem dX3_numberOf_42 : decode cX3_numberOf 42 = .ok (.iload_n 3, 1) := by decide +kernel
theorem dX3_numberOf_43 : decode cX3_numberOf 43 = .ok (.ireturn, 1) := by decide +kernel
theorem dX3_standsTogether_0 : decode cX3_standsTogether 0 = .ok (.iload_n 0, 1) := by decide +kernel
theorem dX3_standsTogether_1 : decode cX3_standsTogether 1 = .ok (.iconst 1, 1) := by decide +kernel
theorem dX3_standsTogether_2 : decode cX3_standsTogether 2 = .ok (.if_icmp .eq 8, 3) := by decide +kernel
theorem dX3_standsTogether_5 : decode cX3_standsTogether 5 = .ok (.iload_n 0, 1) := by decide +kernel
theorem dX3_standsTogether_6 : decode cX3_standsTogether 6 = .ok (.iconst 2, 1) := by decide +kernel
theorem dX3_standsTogether_7 : decode cX3_standsTogether 7 = .ok (.if_icmp .ne 7, 3) := by decide +kernel
theorem dX3_standsTogether_10 : decode cX3_standsTogether 10 = .ok (.iconst 1, 1) := by decide +kernel
theorem dX3_standsTogether_11 : decode cX3_standsTogether 11 = .ok (.goto 4, 3) := by decide +kernel
theorem dX3_standsTogether_14 : decode cX3_standsTogether 14 = .ok (.iconst 0, 1) := by decide +kernel
theorem dX3_standsTogether_15 : decode cX3_standsTogether 15 = .ok (.ireturn, 1) := by decide +kernel
theorem dX3_sortOf_0 : decode cX3_sortOf 0 = .ok (.iload_n 0, 1) := by decide +kernel
theorem dX3_sortOf_1 : decode cX3_sortOf 1 = .ok (.bipush 97, 2) := by decide +kernel
theorem dX3_sortOf_3 : decode cX3_sortOf 3 = .ok (.if_icmp .lt 9, 3) := by decide +kernel
theorem dX3_sortOf_6 : decode cX3_sortOf 6 = .ok (.iload_n 0, 1) := by decide +kernel
theorem dX3_sortOf_7 : decode cX3_sortOf 7 = .ok (.bipush 122, 2) := by decide +kernel
theorem dX3_sortOf_9 : decode cX3_sortOf 9 = .ok (.if_icmp .le 15, 3) := by decide +kernel
theorem dX3_sortOf_12 : decode cX3_sortOf 12 = .ok (.iload_n 0, 1) := by decide +kernel
theorem dX3_sortOf_13 : decode cX3_sortOf 13 = .ok (.bipush 65, 2) := by decide +kernel
theorem dX3_sortOf_15 : decode cX3_sortOf 15 = .ok (.if_icmp .lt 11, 3) := by decide +kernel
theorem dX3_sortOf_18 : decode cX3_sortOf 18 = .ok (.iload_n 0, 1) := by decide +kernel
theorem dX3_sortOf_19 : decode cX3_sortOf 19 = .ok (.bipush 90, 2) := by decide +kernel
theorem dX3_sortOf_21 : decode cX3_sortOf 21 = .ok (.if_icmp .gt 5, 3) := by decide +kernel
theorem dX3_sortOf_24 : decode cX3_sortOf 24 = .ok (.iconst 1, 1) := by decide +kernel
theorem dX3_sortOf_25 : decode cX3_sortOf 25 = .ok (.ireturn, 1) := by decide +kernel
theorem dX3_sortOf_26 : decode cX3_sortOf 26 = .ok (.iload_n 0, 1) := by decide +kernel
theorem dX3_sortOf_27 : decode cX3_sortOf 27 = .ok (.bipush 48, 2) := by decide +kernel
theorem dX3_sortOf_29 : decode cX3_sortOf 29 = .ok (.if_icmp .lt 11, 3) := by decide +kernel
theorem dX3_sortOf_32 : decode cX3_sortOf 32 = .ok (.iload_n 0, 1) := by decide +kernel
theorem dX3_sortOf_33 : decode cX3_sortOf 33 = .ok (.bipush 57, 2) := by decide +kernel
theorem dX3_sortOf_35 : decode cX3_sortOf 35 = .ok (.if_icmp .gt 5, 3) := by decide +kernel
theorem dX3_sortOf_38 : decode cX3_sortOf 38 = .ok (.iconst 2, 1) := by decide +kernel
theorem dX3_sortOf_39 : decode cX3_sortOf 39 = .ok (.ireturn, 1) := by decide +kernel
theorem dX3_sortOf_40 : decode cX3_sortOf 40 = .ok (.iload_n 0, 1) := by decide +kernel
theorem dX3_sortOf_41 : decode cX3_sortOf 41 = .ok (.bipush 32, 2) := by decide +kernel
theorem dX3_sortOf_43 : decode cX3_sortOf 43 = .ok (.if_icmp .eq 9, 3) := by decide +kernel
theorem dX3_sortOf_46 : decode cX3_sortOf 46 = .ok (.iload_n 0, 1) := by decide +kernel
theorem dX3_sortOf_47 : decode cX3_sortOf 47 = .ok (.bipush 10, 2) := by decide +kernel
theorem dX3_sortOf_49 : decode cX3_sortOf 49 = .ok (.if_icmp .ne 5, 3) := by decide +kernel
theorem dX3_sortOf_52 : decode cX3_sortOf 52 = .ok (.iconst 5, 1) := by decide +kernel
theorem dX3_sortOf_53 : decode cX3_sortOf 53 = .ok (.ireturn, 1) := by decide +kernel
theorem dX3_sortOf_54 : decode cX3_sortOf 54 = .ok (.ldc 192, 2) := by decide +kernel
theorem dX3_sortOf_56 : decode cX3_sortOf 56 = .ok (.iload_n 0, 1) := by decide +kernel
theorem dX3_sortOf_57 : decode cX3_sortOf 57 = .ok (.i2c, 1) := by decide +kernel
theorem dX3_sortOf_58 : decode cX3_sortOf 58 = .ok (.invokevirtual 194, 3) := by decide +kernel
theorem dX3_sortOf_61 : decode cX3_sortOf 61 = .ok (.ifCond .ge 7, 3) := by decide +kernel
theorem dX3_sortOf_64 : decode cX3_sortOf 64 = .ok (.iconst 4, 1) := by decide +kernel
theorem dX3_sortOf_65 : decode cX3_sortOf 65 = .ok (.goto 4, 3) := by decide +kernel
theorem dX3_sortOf_68 : decode cX3_sortOf 68 = .ok (.iconst 3, 1) := by decide +kernel
theorem dX3_sortOf_69 : decode cX3_sortOf 69 = .ok (.ireturn, 1) := by decide +kernel
theorem dX4_init_0 : decode cX4_init 0 = .ok (.aload_n 0, 1) := by decide +kernel
theorem dX4_init_1 : decode cX4_init 1 = .ok (.invokespecial 3, 3) := by decide +kernel
theorem dX4_init_4 : decode cX4_init 4 = .ok (.aload_n 0, 1) := by decide +kernel
theorem dX4_init_5 : decode cX4_init 5 = .ok (.iload_n 1, 1) := by decide +kernel
theorem dX4_init_6 : decode cX4_init 6 = .ok (.iconst 0, 1) := by decide +kernel
theorem dX4_init_7 : decode cX4_init 7 = .ok (.invokestatic 9, 3) := by decide +kernel
theorem dX4_init_10 : decode cX4_init 10 = .ok (.newarray .int, 2) := by decide +kernel
theorem dX4_init_12 : decode cX4_init 12 = .ok (.putfield 15, 3) := by decide +kernel
theorem dX4_init_15 : decode cX4_init 15 = .ok (.aload_n 0, 1) := by decide +kernel
theorem dX4_init_16 : decode cX4_init 16 = .ok (.iconst 0, 1) := by decide +kernel
theorem dX4_init_17 : decode cX4_init 17 = .ok (.putfield 21, 3) := by decide +kernel
theorem dX4_init_20 : decode cX4_init 20 = .ok (.return_, 1) := by decide +kernel
theorem dX4_add_0 : decode cX4_add 0 = .ok (.aload_n 0, 1) := by decide +kernel
theorem dX4_add_1 : decode cX4_add 1 = .ok (.getfield 21, 3) := by decide +kernel
theorem dX4_add_4 : decode cX4_add 4 = .ok (.aload_n 0, 1) := by decide +kernel
theorem dX4_add_5 : decode cX4_add 5 = .ok (.getfield 15, 3) := by decide +kernel
theorem dX4_add_8 : decode cX4_add 8 = .ok (.arraylength, 1) := by decide +kernel
theorem dX4_add_9 : decode cX4_add 9 = .ok (.if_icmp .lt 5, 3) := by decide +kernel
theorem dX4_add_12 : decode cX4_add 12 = .ok (.iconst (-1), 1) := by decide +kernel
theorem dX4_add_13 : decode cX4_add 13 = .ok (.ireturn, 1) := by decide +kernel
theorem dX4_add_14 : decode cX4_add 14 = .ok (.aload_n 0, 1) := by decide +kernel
theorem dX4_add_15 : decode cX4_add 15 = .ok (.getfield 15, 3) := by decide +kernel
theorem dX4_add_18 : decode cX4_add 18 = .ok (.aload_n 0, 1) := by decide +kernel
theorem dX4_add_19 : decode cX4_add 19 = .ok (.getfield 21, 3) := by decide +kernel
theorem dX4_add_22 : decode cX4_add 22 = .ok (.iload_n 1, 1) := by decide +kernel
theorem dX4_add_23 : decode cX4_add 23 = .ok (.iastore, 1) := by decide +kernel
theorem dX4_add_24 : decode cX4_add 24 = .ok (.aload_n 0, 1) := by decide +kernel
theorem dX4_add_25 : decode cX4_add 25 = .ok (.dup, 1) := by decide +kernel
theorem dX4_add_26 : decode cX4_add 26 = .ok (.getfield 21, 3) := by decide +kernel
theorem dX4_add_29 : decode cX4_add 29 = .ok (.iconst 1, 1) := by decide +kernel
theorem dX4_add_30 : decode cX4_add 30 = .ok (.iadd, 1) := by decide +kernel
theorem dX4_add_31 : decode cX4_add 31 = .ok (.putfield 21, 3) := by decide +kernel
theorem dX4_add_34 : decode cX4_add 34 = .ok (.aload_n 0, 1) := by decide +kernel
theorem dX4_add_35 : decode cX4_add 35 = .ok (.getfield 21, 3) := by decide +kernel
theorem dX4_add_38 : decode cX4_add 38 = .ok (.ireturn, 1) := by decide +kernel
theorem dX4_clear_0 : decode cX4_clear 0 = .ok (.aload_n 0, 1) := by decide +kernel
theorem dX4_clear_1 : decode cX4_clear 1 = .ok (.iconst 0, 1) := by decide +kernel
theorem dX4_clear_2 : decode cX4_clear 2 = .ok (.putfield 21, 3) := by decide +kernel
theorem dX4_clear_5 : decode cX4_clear 5 = .ok (.aload_n 0, 1) := by decide +kernel
theorem dX4_clear_6 : decode cX4_clear 6 = .ok (.getfield 21, 3) := by decide +kernel
theorem dX4_clear_9 : decode cX4_clear 9 = .ok (.ireturn, 1) := by decide +kernel
theorem dX4_tell_0 : decode cX4_tell 0 = .ok (.iload_n 1, 1) := by decide +kernel
theorem dX4_tell_1 : decode cX4_tell 1 = .ok (.iconst (-1), 1) := by decide +kernel
theorem dX4_tell_2 : decode cX4_tell 2 = .ok (.if_icmp .ne 8, 3) := by decide +kernel
theorem dX4_tell_5 : decode cX4_tell 5 = .ok (.aload_n 0, 1) := by decide +kernel
theorem dX4_tell_6 : decode cX4_tell 6 = .ok (.invokevirtual 25, 3) := by decide +kernel
theorem dX4_tell_9 : decode cX4_tell 9 = .ok (.ireturn, 1) := by decide +kernel
theorem dX4_tell_10 : decode cX4_tell 10 = .ok (.iload_n 1, 1) := by decide +kernel
theorem dX4_tell_11 : decode cX4_tell 11 = .ok (.iload_n 2, 1) := by decide +kernel
theorem dX4_tell_12 : decode cX4_tell 12 = .ok (.if_icmp .lt 8, 3) := by decide +kernel
theorem dX4_tell_15 : decode cX4_tell 15 = .ok (.iload_n 1, 1) := by decide +kernel
theorem dX4_tell_16 : decode cX4_tell 16 = .ok (.iload_n 3, 1) := by decide +kernel
theorem dX4_tell_17 : decode cX4_tell 17 = .ok (.if_icmp .le 7, 3) := by decide +kernel
theorem dX4_tell_20 : decode cX4_tell 20 = .ok (.iconst (-1), 1) := by decide +kernel
theorem dX4_tell_21 : decode cX4_tell 21 = .ok (.goto 8, 3) := by decide +kernel
theorem dX4_tell_24 : decode cX4_tell 24 = .ok (.aload_n 0, 1) := by decide +kernel
theorem dX4_tell_25 : decode cX4_tell 25 = .ok (.iload_n 1, 1) := by decide +kernel
theorem dX4_tell_26 : decode cX4_tell 26 = .ok (.invokevirtual 29, 3) := by decide +kernel
theorem dX4_tell_29 : decode cX4_tell 29 = .ok (.ireturn, 1) := by decide +kernel
theorem dX4_at_0 : decode cX4_at 0 = .ok (.iload_n 1, 1) := by decide +kernel
theorem dX4_at_1 : decode cX4_at 1 = .ok (.ifCond .lt 20, 3) := by decide +kernel
theorem dX4_at_4 : decode cX4_at 4 = .ok (.iload_n 1, 1) := by decide +kernel
theorem dX4_at_5 : decode cX4_at 5 = .ok (.aload_n 0, 1) := by decide +kernel
theorem dX4_at_6 : decode cX4_at 6 = .ok (.getfield 21, 3) := by decide +kernel
theorem dX4_at_9 : decode cX4_at 9 = .ok (.if_icmp .ge 12, 3) := by decide +kernel
theorem dX4_at_12 : decode cX4_at 12 = .ok (.aload_n 0, 1) := by decide +kernel
theorem dX4_at_13 : decode cX4_at 13 = .ok (.getfield 15, 3) := by decide +kernel
theorem dX4_at_16 : decode cX4_at 16 = .ok (.iload_n 1, 1) := by decide +kernel
theorem dX4_at_17 : decode cX4_at 17 = .ok (.iaload, 1) := by decide +kernel
theorem dX4_at_18 : decode cX4_at 18 = .ok (.goto 4, 3) := by decide +kernel
theorem dX4_at_21 : decode cX4_at 21 = .ok (.iconst (-1), 1) := by decide +kernel
theorem dX4_at_22 : decode cX4_at 22 = .ok (.ireturn, 1) := by decide +kernel
theorem dX4_copy_0 : decode cX4_copy 0 = .ok (.aload_n 0, 1) := by decide +kernel
theorem dX4_copy_1 : decode cX4_copy 1 = .ok (.aload_n 1, 1) := by decide +kernel
theorem dX4_copy_2 : decode cX4_copy 2 = .ok (.getfield 21, 3) := by decide +kernel
theorem dX4_copy_5 : decode cX4_copy 5 = .ok (.aload_n 0, 1) := by decide +kernel
theorem dX4_copy_6 : decode cX4_copy 6 = .ok (.getfield 15, 3) := by decide +kernel
theorem dX4_copy_9 : decode cX4_copy 9 = .ok (.arraylength, 1) := by decide +kernel
theorem dX4_copy_10 : decode cX4_copy 10 = .ok (.invokestatic 33, 3) := by decide +kernel
theorem dX4_copy_13 : decode cX4_copy 13 = .ok (.putfield 21, 3) := by decide +kernel
theorem dX4_copy_16 : decode cX4_copy 16 = .ok (.aload_n 1, 1) := by decide +kernel
theorem dX4_copy_17 : decode cX4_copy 17 = .ok (.getfield 15, 3) := by decide +kernel
theorem dX4_copy_20 : decode cX4_copy 20 = .ok (.iconst 0, 1) := by decide +kernel
theorem dX4_copy_21 : decode cX4_copy 21 = .ok (.aload_n 0, 1) := by decide +kernel
theorem dX4_copy_22 : decode cX4_copy 22 = .ok (.getfield 15, 3) := by decide +kernel
theorem dX4_copy_25 : decode cX4_copy 25 = .ok (.iconst 0, 1) := by decide +kernel
theorem dX4_copy_26 : decode cX4_copy 26 = .ok (.aload_n 0, 1) := by decide +kernel
theorem dX4_copy_27 : decode cX4_copy 27 = .ok (.getfield 21, 3) := by decide +kernel
theorem dX4_copy_30 : decode cX4_copy 30 = .ok (.invokestatic 36, 3) := by decide +kernel
theorem dX4_copy_33 : decode cX4_copy 33 = .ok (.return_, 1) := by decide +kernel
theorem dX5_init_0 : decode cX5_init 0 = .ok (.aload_n 0, 1) := by decide +kernel
theorem dX5_init_1 : decode cX5_init 1 = .ok (.invokespecial 3, 3) := by decide +kernel
theorem dX5_init_4 : decode cX5_init 4 = .ok (.aload_n 0, 1) := by decide +kernel
theorem dX5_init_5 : decode cX5_init 5 = .ok (.new 9, 3) := by decide +kernel
theorem dX5_init_8 : decode cX5_init 8 = .ok (.dup, 1) := by decide +kernel
theorem dX5_init_9 : decode cX5_init 9 = .ok (.bipush 64, 2) := by decide +kernel
theorem dX5_init_11 : decode cX5_init 11 = .ok (.invokespecial 11, 3) := by decide +kernel
theorem dX5_init_14 : decode cX5_init 14 = .ok (.putfield 14, 3) := by decide +kernel
theorem dX5_init_17 : decode cX5_init 17 = .ok (.aload_n 0, 1) := by decide +kernel
theorem dX5_init_18 : decode cX5_init 18 = .ok (.new 9, 3) := by decide +kernel
theorem dX5_init_21 : decode cX5_init 21 = .ok (.dup, 1) := by decide +kernel
theorem dX5_init_22 : decode cX5_init 22 = .ok (.sipush 400, 3) := by decide +kernel
theorem dX5_init_25 : decode cX5_init 25 = .ok (.invokespecial 11, 3) := by decide +kernel
theorem dX5_init_28 : decode cX5_init 28 = .ok (.putfield 20, 3) := by decide +kernel
theorem dX5_init_31 : decode cX5_init 31 = .ok (.aload_n 0, 1) := by decide +kernel
theorem dX5_init_32 : decode cX5_init 32 = .ok (.new 9, 3) := by decide +kernel
theorem dX5_init_35 : decode cX5_init 35 = .ok (.dup, 1) := by decide +kernel
theorem dX5_init_36 : decode cX5_init 36 = .ok (.bipush 64, 2) := by decide +kernel
theorem dX5_init_38 : decode cX5_init 38 = .ok (.invokespecial 11, 3) := by decide +kernel
theorem dX5_init_41 : decode cX5_init 41 = .ok (.putfield 23, 3) := by decide +kernel
theorem dX5_init_44 : decode cX5_init 44 = .ok (.aload_n 0, 1) := by decide +kernel
theorem dX5_init_45 : decode cX5_init 45 = .ok (.bipush 16, 2) := by decide +kernel
theorem dX5_init_47 : decode cX5_init 47 = .ok (.newarray .int, 2) := by decide +kernel
theorem dX5_init_49 : decode cX5_init 49 = .ok (.putfield 26, 3) := by decide +kernel
theorem dX5_init_52 : decode cX5_init 52 = .ok (.return_, 1) := by decide +kernel
theorem dX5_empty_0 : decode cX5_empty 0 = .ok (.iload_n 1, 1) := by decide +kernel
theorem dX5_empty_1 : decode cX5_empty 1 = .ok (.tableswitch 73 0 2 #[27, 46, 57], 27) := by decide +kernel
theorem dX5_empty_28 : decode cX5_empty 28 = .ok (.aload_n 0, 1) := by decide +kernel
theorem dX5_empty_29 : decode cX5_empty 29 = .ok (.getfield 14, 3) := by decide +kernel
theorem dX5_empty_32 : decode cX5_empty 32 = .ok (.invokevirtual 30, 3) := by decide +kernel
theorem dX5_empty_35 : decode cX5_empty 35 = .ok (.pop, 1) := by decide +kernel
theorem dX5_empty_36 : decode cX5_empty 36 = .ok (.aload_n 0, 1) := by decide +kernel
theorem dX5_empty_37 : decode cX5_empty 37 = .ok (.getfield 20, 3) := by decide +kernel
theorem dX5_empty_40 : decode cX5_empty 40 = .ok (.invokevirtual 30, 3) := by decide +kernel
theorem dX5_empty_43 : decode cX5_empty 43 = .ok (.pop, 1) := by decide +kernel
theorem dX5_empty_44 : decode cX5_empty 44 = .ok (.goto 40, 3) := by decide +kernel
theorem dX5_empty_47 : decode cX5_empty 47 = .ok (.aload_n 0, 1) := by decide +kernel
theorem dX5_empty_48 : decode cX5_empty 48 = .ok (.getfield 23, 3) := by decide +kernel
theorem dX5_empty_51 : decode cX5_empty 51 = .ok (.invokevirtual 30, 3) := by decide +kernel
theorem dX5_empty_54 : decode cX5_empty 54 = .ok (.pop, 1) := by decide +kernel
theorem dX5_empty_55 : decode cX5_empty 55 = .ok (.goto 29, 3) := by decide +kernel
theorem dX5_empty_58 : decode cX5_empty 58 = .ok (.aload_n 0, 1) := by decide +kernel
theorem dX5_empty_59 : decode cX5_empty 59 = .ok (.getfield 26, 3) := by decide +kernel
theorem dX5_empty_62 : decode cX5_empty 62 = .ok (.iconst 0, 1) := by decide +kernel
theorem dX5_empty_63 : decode cX5_empty 63 = .ok (.invokestatic 34, 3) := by decide +kernel
theorem dX5_empty_66 : decode cX5_empty 66 = .ok (.aload_n 0, 1) := by decide +kernel
theorem dX5_empty_67 : decode cX5_empty 67 = .ok (.iconst 0, 1) := by decide +kernel
theorem dX5_empty_68 : decode cX5_empty 68 = .ok (.putfield 40, 3) := by decide +kernel
theorem dX5_empty_71 : decode cX5_empty 71 = .ok (.goto 13, 3) := by decide +kernel
theorem dX5_empty_74 : decode cX5_empty 74 = .ok (.aload_n 0, 1) := by decide +kernel
theorem dX5_empty_75 : decode cX5_empty 75 = .ok (.iconst 0, 1) := by decide +kernel
theorem dX5_empty_76 : decode cX5_empty 76 = .ok (.putfield 44, 3) := by decide +kernel
theorem dX5_empty_79 : decode cX5_empty 79 = .ok (.aload_n 0, 1) := by decide +kernel
theorem dX5_empty_80 : decode cX5_empty 80 = .ok (.iconst 0, 1) := by decide +kernel
theorem dX5_empty_81 : decode cX5_empty 81 = .ok (.putfield 47, 3) := by decide +kernel
theorem dX5_empty_84 : decode cX5_empty 84 = .ok (.return_, 1) := by decide +kernel
theorem dX5_take_0 : decode cX5_take 0 = .ok (.iload_n 1, 1) := by decide +kernel
theorem dX5_take_1 : decode cX5_take 1 = .ok (.tableswitch 95 0 2 #[27, 52, 66], 27) := by decide +kernel
theorem dX5_take_28 : decode cX5_take 28 = .ok (.aload_n 0, 1) := by decide +kernel
theorem dX5_take_29 : decode cX5_take 29 = .ok (.getfield 14, 3) := by decide +kernel
theorem dX5_take_32 : decode cX5_take 32 = .ok (.aload_n 2, 1) := by decide +kernel
theorem dX5_take_33 : decode cX5_take 33 = .ok (.getfield 14, 3) := by decide +kernel
theorem dX5_take_36 : decode cX5_take 36 = .ok (.invokevirtual 50, 3) := by decide +kernel
theorem dX5_take_39 : decode cX5_take 39 = .ok (.aload_n 0, 1) := by decide +kernel
theorem dX5_take_40 : decode cX5_take 40 = .ok (.getfield 20, 3) := by decide +kernel
theorem dX5_take_43 : decode cX5_take 43 = .ok (.aload_n 2, 1) := by decide +kernel
theorem dX5_take_44 : decode cX5_take 44 = .ok (.getfield 20, 3) := by decide +kernel
theorem dX5_take_47 : decode cX5_take 47 = .ok (.invokevirtual 50, 3) := by decide +kernel
theorem dX5_take_50 : decode cX5_take 50 = .ok (.goto 62, 3) := by decide +kernel
theorem dX5_take_53 : decode cX5_take 53 = .ok (.aload_n 0, 1) := by decide +kernel
theorem dX5_take_54 : decode cX5_take 54 = .ok (.getfield 23, 3) := by decide +kernel
theorem dX5_take_57 : decode cX5_take 57 = .ok (.aload_n 2, 1) := by decide +kernel
theorem dX5_take_58 : decode cX5_take 58 = .ok (.getfield 23, 3) := by decide +kernel
theorem dX5_take_61 : decode cX5_take 61 = .ok (.invokevirtual 50, 3) := by decide +kernel
theorem dX5_take_64 : decode cX5_take 64 = .ok (.goto 48, 3) := by decide +kernel
theorem dX5_take_67 : decode cX5_take 67 = .ok (.aload_n 2, 1) := by decide +kernel
theorem dX5_take_68 : decode cX5_take 68 = .ok (.getfield 26, 3) := by decide +kernel
theorem dX5_take_71 : decode cX5_take 71 = .ok (.iconst 0, 1) := by decide +kernel
theorem dX5_take_72 : decode cX5_take 72 = .ok (.aload_n 0, 1) := by decide +kernel
theorem dX5_take_73 : decode cX5_take 73 = .ok (.getfield 26, 3) := by decide +kernel
theorem dX5_take_76 : decode cX5_take 76 = .ok (.iconst 0, 1) := by decide +kernel
theorem dX5_take_77 : decode cX5_take 77 = .ok (.aload_n 0, 1) := by decide +kernel
theorem dX5_take_78 : decode cX5_take 78 = .ok (.getfield 26, 3) := by decide +kernel
theorem dX5_take_81 : decode cX5_take 81 = .ok (.arraylength, 1) := by decide +kernel
theorem dX5_take_82 : decode cX5_take 82 = .ok (.invokestatic 54, 3) := by decide +kernel
theorem dX5_take_85 : decode cX5_take 85 = .ok (.aload_n 0, 1) := by decide +kernel
theorem dX5_take_86 : decode cX5_take 86 = .ok (.aload_n 2, 1) := by decide +kernel
theorem dX5_take_87 : decode cX5_take 87 = .ok (.getfield 40, 3) := by decide +kernel
theorem dX5_take_90 : decode cX5_take 90 = .ok (.putfield 40, 3) := by decide +kernel
theorem dX5_take_93 : decode cX5_take 93 = .ok (.goto 19, 3) := by decide +kernel
theorem dX5_take_96 : decode cX5_take 96 = .ok (.aload_n 0, 1) := by decide +kernel
theorem dX5_take_97 : decode cX5_take 97 = .ok (.aload_n 2, 1) := by decide +kernel
theorem dX5_take_98 : decode cX5_take 98 = .ok (.getfield 44, 3) := by decide +kernel
theorem dX5_take_101 : decode cX5_take 101 = .ok (.putfield 44, 3) := by decide +kernel
theorem dX5_take_104 : decode cX5_take 104 = .ok (.aload_n 0, 1) := by decide +kernel
theorem dX5_take_105 : decode cX5_take 105 = .ok (.aload_n 2, 1) := by decide +kernel
theorem dX5_take_106 : decode cX5_take 106 = .ok (.getfield 47, 3) := by decide +kernel
theorem dX5_take_109 : decode cX5_take 109 = .ok (.putfield 47, 3) := by decide +kernel
theorem dX5_take_112 : decode cX5_take 112 = .ok (.return_, 1) := by decide +kernel
theorem dX5_copy_0 : decode cX5_copy 0 = .ok (.iconst 0, 1) := by decide +kernel
theorem dX5_copy_1 : decode cX5_copy 1 = .ok (.istore_n 2, 1) := by decide +kernel
theorem dX5_copy_2 : decode cX5_copy 2 = .ok (.iload_n 2, 1) := by decide +kernel
theorem dX5_copy_3 : decode cX5_copy 3 = .ok (.iconst 3, 1) := by decide +kernel
theorem dX5_copy_4 : decode cX5_copy 4 = .ok (.if_icmp .gt 15, 3) := by decide +kernel
theorem dX5_copy_7 : decode cX5_copy 7 = .ok (.aload_n 0, 1) := by decide +kernel
theorem dX5_copy_8 : decode cX5_copy 8 = .ok (.iload_n 2, 1) := by decide +kernel
theorem dX5_copy_9 : decode cX5_copy 9 = .ok (.aload_n 1, 1) := by decide +kernel
theorem dX5_copy_10 : decode cX5_copy 10 = .ok (.invokevirtual 60, 3) := by decide +kernel
theorem dX5_copy_13 : decode cX5_copy 13 = .ok (.iinc 2 1, 3) := by decide +kernel
theorem dX5_copy_16 : decode cX5_copy 16 = .ok (.goto (-14), 3) := by decide +kernel
theorem dX5_copy_19 : decode cX5_copy 19 = .ok (.return_, 1) := by decide +kernel
theorem dX5_linesOf_0 : decode cX5_linesOf 0 = .ok (.iload_n 1, 1) := by decide +kernel
theorem dX5_linesOf_1 : decode cX5_linesOf 1 = .ok (.tableswitch 52 0 2 #[27, 37, 47], 27) := by decide +kernel
theorem dX5_linesOf_28 : decode cX5_linesOf 28 = .ok (.aload_n 0, 1) := by decide +kernel
theorem dX5_linesOf_29 : decode cX5_linesOf 29 = .ok (.getfield 14, 3) := by decide +kernel
theorem dX5_linesOf_32 : decode cX5_linesOf 32 = .ok (.getfield 64, 3) := by decide +kernel
theorem dX5_linesOf_35 : decode cX5_linesOf 35 = .ok (.iconst 4, 1) := by decide +kernel
theorem dX5_linesOf_36 : decode cX5_linesOf 36 = .ok (.idiv, 1) := by decide +kernel
theorem dX5_linesOf_37 : decode cX5_linesOf 37 = .ok (.ireturn, 1) := by decide +kernel
theorem dX5_linesOf_38 : decode cX5_linesOf 38 = .ok (.aload_n 0, 1) := by decide +kernel
theorem dX5_linesOf_39 : decode cX5_linesOf 39 = .ok (.getfield 23, 3) := by decide +kernel
theorem dX5_linesOf_42 : decode cX5_linesOf 42 = .ok (.getfield 64, 3) := by decide +kernel
theorem dX5_linesOf_45 : decode cX5_linesOf 45 = .ok (.iconst 4, 1) := by decide +kernel
theorem dX5_linesOf_46 : decode cX5_linesOf 46 = .ok (.idiv, 1) := by decide +kernel
theorem dX5_linesOf_47 : decode cX5_linesOf 47 = .ok (.ireturn, 1) := by decide +kernel
theorem dX5_linesOf_48 : decode cX5_linesOf 48 = .ok (.aload_n 0, 1) := by decide +kernel
theorem dX5_linesOf_49 : decode cX5_linesOf 49 = .ok (.getfield 40, 3) := by decide +kernel
theorem dX5_linesOf_52 : decode cX5_linesOf 52 = .ok (.ireturn, 1) := by decide +kernel
theorem dX5_linesOf_53 : decode cX5_linesOf 53 = .ok (.aload_n 0, 1) := by decide +kernel
theorem dX5_linesOf_54 : decode cX5_linesOf 54 = .ok (.getfield 47, 3) := by decide +kernel
theorem dX5_linesOf_57 : decode cX5_linesOf 57 = .ok (.ireturn, 1) := by decide +kernel
theorem dX5_addLaw_0 : decode cX5_addLaw 0 = .ok (.aload_n 0, 1) := by decide +kernel
theorem dX5_addLaw_1 : decode cX5_addLaw 1 = .ok (.getfield 14, 3) := by decide +kernel
theorem dX5_addLaw_4 : decode cX5_addLaw 4 = .ok (.iload_n 1, 1) := by decide +kernel
theorem dX5_addLaw_5 : decode cX5_addLaw 5 = .ok (.invokevirtual 67, 3) := by decide +kernel
theorem dX5_addLaw_8 : decode cX5_addLaw 8 = .ok (.pop, 1) := by decide +kernel
theorem dX5_addLaw_9 : decode cX5_addLaw 9 = .ok (.aload_n 0, 1) := by decide +kernel
theorem dX5_addLaw_10 : decode cX5_addLaw 10 = .ok (.getfield 14, 3) := by decide +kernel
theorem dX5_addLaw_13 : decode cX5_addLaw 13 = .ok (.iload_n 2, 1) := by decide +kernel
theorem dX5_addLaw_14 : decode cX5_addLaw 14 = .ok (.invokevirtual 67, 3) := by decide +kernel
theorem dX5_addLaw_17 : decode cX5_addLaw 17 = .ok (.pop, 1) := by decide +kernel
theorem dX5_addLaw_18 : decode cX5_addLaw 18 = .ok (.aload_n 0, 1) := by decide +kernel
theorem dX5_addLaw_19 : decode cX5_addLaw 19 = .ok (.getfield 14, 3) := by decide +kernel
theorem dX5_addLaw_22 : decode cX5_addLaw 22 = .ok (.iload_n 3, 1) := by decide +kernel
theorem dX5_addLaw_23 : decode cX5_addLaw 23 = .ok (.invokevirtual 67, 3) := by decide +kernel
theorem dX5_addLaw_26 : decode cX5_addLaw 26 = .ok (.pop, 1) := by decide +kernel
theorem dX5_addLaw_27 : decode cX5_addLaw 27 = .ok (.aload_n 0, 1) := by decide +kernel
theorem dX5_addLaw_28 : decode cX5_addLaw 28 = .ok (.getfield 14, 3) := by decide +kernel
theorem dX5_addLaw_31 : decode cX5_addLaw 31 = .ok (.iload 4, 2) := by decide +kernel
theorem dX5_addLaw_33 : decode cX5_addLaw 33 = .ok (.invokevirtual 67, 3) := by decide +kernel
theorem dX5_addLaw_36 : decode cX5_addLaw 36 = .ok (.pop, 1) := by decide +kernel
theorem dX5_addLaw_37 : decode cX5_addLaw 37 = .ok (.return_, 1) := by decide +kernel
theorem dX5_addPlan_0 : decode cX5_addPlan 0 = .ok (.aload_n 0, 1) := by decide +kernel
theorem dX5_addPlan_1 : decode cX5_addPlan 1 = .ok (.getfield 23, 3) := by decide +kernel
theorem dX5_addPlan_4 : decode cX5_addPlan 4 = .ok (.iload_n 1, 1) := by decide +kernel
theorem dX5_addPlan_5 : decode cX5_addPlan 5 = .ok (.invokevirtual 67, 3) := by decide +kernel
theorem dX5_addPlan_8 : decode cX5_addPlan 8 = .ok (.pop, 1) := by decide +kernel
theorem dX5_addPlan_9 : decode cX5_addPlan 9 = .ok (.aload_n 0, 1) := by decide +kernel
theorem dX5_addPlan_10 : decode cX5_addPlan 10 = .ok (.getfield 23, 3) := by decide +kernel
theorem dX5_addPlan_13 : decode cX5_addPlan 13 = .ok (.iload_n 2, 1) := by decide +kernel
theorem dX5_addPlan_14 : decode cX5_addPlan 14 = .ok (.invokevirtual 67, 3) := by decide +kernel
theorem dX5_addPlan_17 : decode cX5_addPlan 17 = .ok (.pop, 1) := by decide +kernel
theorem dX5_addPlan_18 : decode cX5_addPlan 18 = .ok (.aload_n 0, 1) := by decide +kernel
theorem dX5_addPlan_19 : decode cX5_addPlan 19 = .ok (.getfield 23, 3) := by decide +kernel
theorem dX5_addPlan_22 : decode cX5_addPlan 22 = .ok (.iload_n 3, 1) := by decide +kernel
theorem dX5_addPlan_23 : decode cX5_addPlan 23 = .ok (.invokevirtual 67, 3) := by decide +kernel
theorem dX5_addPlan_26 : decode cX5_addPlan 26 = .ok (.pop, 1) := by decide +kernel
theorem dX5_addPlan_27 : decode cX5_addPlan 27 = .ok (.aload_n 0, 1) := by decide +kernel
theorem dX5_addPlan_28 : decode cX5_addPlan 28 = .ok (.getfield 23, 3) := by decide +kernel
theorem dX5_addPlan_31 : decode cX5_addPlan 31 = .ok (.iload 4, 2) := by decide +kernel
theorem dX5_addPlan_33 : decode cX5_addPlan 33 = .ok (.invokevirtual 67, 3) := by decide +kernel
theorem dX5_addPlan_36 : decode cX5_addPlan 36 = .ok (.pop, 1) := by decide +kernel
theorem dX5_addPlan_37 : decode cX5_addPlan 37 = .ok (.return_, 1) := by decide +kernel
theorem dX5_addFeud_0 : decode cX5_addFeud 0 = .ok (.iload_n 1, 1) := by decide +kernel
theorem dX5_addFeud_1 : decode cX5_addFeud 1 = .ok (.ifCond .lt 31, 3) := by decide +kernel
theorem dX5_addFeud_4 : decode cX5_addFeud 4 = .ok (.iload_n 1, 1) := by decide +kernel
theorem dX5_addFeud_5 : decode cX5_addFeud 5 = .ok (.bipush 16, 2) := by decide +kernel
theorem dX5_addFeud_7 : decode cX5_addFeud 7 = .ok (.if_icmp .ge 25, 3) := by decide +kernel
theorem dX5_addFeud_10 : decode cX5_addFeud 10 = .ok (.aload_n 0, 1) := by decide +kernel
theorem dX5_addFeud_11 : decode cX5_addFeud 11 = .ok (.getfield 26, 3) := by decide +kernel
theorem dX5_addFeud_14 : decode cX5_addFeud 14 = .ok (.iload_n 1, 1) := by decide +kernel
theorem dX5_addFeud_15 : decode cX5_addFeud 15 = .ok (.dup2, 1) := by decide +kernel
theorem dX5_addFeud_16 : decode cX5_addFeud 16 = .ok (.iaload, 1) := by decide +kernel
theorem dX5_addFeud_17 : decode cX5_addFeud 17 = .ok (.iconst 1, 1) := by decide +kernel
theorem dX5_addFeud_18 : decode cX5_addFeud 18 = .ok (.iload_n 2, 1) := by decide +kernel
theorem dX5_addFeud_19 : decode cX5_addFeud 19 = .ok (.ishl, 1) := by decide +kernel
theorem dX5_addFeud_20 : decode cX5_addFeud 20 = .ok (.ior, 1) := by decide +kernel
theorem dX5_addFeud_21 : decode cX5_addFeud 21 = .ok (.iastore, 1) := by decide +kernel
theorem dX5_addFeud_22 : decode cX5_addFeud 22 = .ok (.aload_n 0, 1) := by decide +kernel
theorem dX5_addFeud_23 : decode cX5_addFeud 23 = .ok (.dup, 1) := by decide +kernel
theorem dX5_addFeud_24 : decode cX5_addFeud 24 = .ok (.getfield 40, 3) := by decide +kernel
theorem dX5_addFeud_27 : decode cX5_addFeud 27 = .ok (.iconst 1, 1) := by decide +kernel
theorem dX5_addFeud_28 : decode cX5_addFeud 28 = .ok (.iadd, 1) := by decide +kernel
theorem dX5_addFeud_29 : decode cX5_addFeud 29 = .ok (.putfield 40, 3) := by decide +kernel
theorem dX5_addFeud_32 : decode cX5_addFeud 32 = .ok (.return_, 1) := by decide +kernel
theorem dX5_addSide_0 : decode cX5_addSide 0 = .ok (.aload_n 0, 1) := by decide +kernel
theorem dX5_addSide_1 : decode cX5_addSide 1 = .ok (.dup, 1) := by decide +kernel
theorem dX5_addSide_2 : decode cX5_addSide 2 = .ok (.getfield 44, 3) := by decide +kernel
theorem dX5_addSide_5 : decode cX5_addSide 5 = .ok (.iconst 1, 1) := by decide +kernel
theorem dX5_addSide_6 : decode cX5_addSide 6 = .ok (.iload_n 1, 1) := by decide +kernel
theorem dX5_addSide_7 : decode cX5_addSide 7 = .ok (.ishl, 1) := by decide +kernel
theorem dX5_addSide_8 : decode cX5_addSide 8 = .ok (.iconst (-1), 1) := by decide +kernel
theorem dX5_addSide_9 : decode cX5_addSide 9 = .ok (.ixor, 1) := by decide +kernel
theorem dX5_addSide_10 : decode cX5_addSide 10 = .ok (.iand, 1) := by decide +kernel
theorem dX5_addSide_11 : decode cX5_addSide 11 = .ok (.putfield 44, 3) := by decide +kernel
theorem dX5_addSide_14 : decode cX5_addSide 14 = .ok (.aload_n 0, 1) := by decide +kernel
theorem dX5_addSide_15 : decode cX5_addSide 15 = .ok (.dup, 1) := by decide +kernel
theorem dX5_addSide_16 : decode cX5_addSide 16 = .ok (.getfield 44, 3) := by decide +kernel
theorem dX5_addSide_19 : decode cX5_addSide 19 = .ok (.iload_n 2, 1) := by decide +kernel
theorem dX5_addSide_20 : decode cX5_addSide 20 = .ok (.iload_n 1, 1) := by decide +kernel
theorem dX5_addSide_21 : decode cX5_addSide 21 = .ok (.ishl, 1) := by decide +kernel
theorem dX5_addSide_22 : decode cX5_addSide 22 = .ok (.ior, 1) := by decide +kernel
theorem dX5_addSide_23 : decode cX5_addSide 23 = .ok (.putfield 44, 3) := by decide +kernel
theorem dX5_addSide_26 : decode cX5_addSide 26 = .ok (.aload_n 0, 1) := by decide +kernel
theorem dX5_addSide_27 : decode cX5_addSide 27 = .ok (.dup, 1) := by decide +kernel
theorem dX5_addSide_28 : decode cX5_addSide 28 = .ok (.getfield 47, 3) := by decide +kernel
theorem dX5_addSide_31 : decode cX5_addSide 31 = .ok (.iconst 1, 1) := by decide +kernel
theorem dX5_addSide_32 : decode cX5_addSide 32 = .ok (.iadd, 1) := by decide +kernel
theorem dX5_addSide_33 : decode cX5_addSide 33 = .ok (.putfield 47, 3) := by decide +kernel
theorem dX5_addSide_36 : decode cX5_addSide 36 = .ok (.return_, 1) := by decide +kernel
theorem dX5_sideOf_0 : decode cX5_sideOf 0 = .ok (.aload_n 0, 1) := by decide +kernel
theorem dX5_sideOf_1 : decode cX5_sideOf 1 = .ok (.getfield 44, 3) := by decide +kernel
theorem dX5_sideOf_4 : decode cX5_sideOf 4 = .ok (.iload_n 1, 1) := by decide +kernel
theorem dX5_sideOf_5 : decode cX5_sideOf 5 = .ok (.ishr, 1) := by decide +kernel
theorem dX5_sideOf_6 : decode cX5_sideOf 6 = .ok (.iconst 1, 1) := by decide +kernel
theorem dX5_sideOf_7 : decode cX5_sideOf 7 = .ok (.iand, 1) := by decide +kernel
theorem dX5_sideOf_8 : decode cX5_sideOf 8 = .ok (.ireturn, 1) := by decide +kernel
theorem dX5_feudsOf_0 : decode cX5_feudsOf 0 = .ok (.iload_n 1, 1) := by decide +kernel
theorem dX5_feudsOf_1 : decode cX5_feudsOf 1 = .ok (.ifCond .lt 18, 3) := by decide +kernel
theorem dX5_feudsOf_4 : decode cX5_feudsOf 4 = .ok (.iload_n 1, 1) := by decide +kernel
theorem dX5_feudsOf_5 : decode cX5_feudsOf 5 = .ok (.bipush 16, 2) := by decide +kernel
theorem dX5_feudsOf_7 : decode cX5_feudsOf 7 = .ok (.if_icmp .ge 12, 3) := by decide +kernel
theorem dX5_feudsOf_10 : decode cX5_feudsOf 10 = .ok (.aload_n 0, 1) := by decide +kernel
theorem dX5_feudsOf_11 : decode cX5_feudsOf 11 = .ok (.getfield 26, 3) := by decide +kernel
theorem dX5_feudsOf_14 : decode cX5_feudsOf 14 = .ok (.iload_n 1, 1) := by decide +kernel
theorem dX5_feudsOf_15 : decode cX5_feudsOf 15 = .ok (.iaload, 1) := by decide +kernel
theorem dX5_feudsOf_16 : decode cX5_feudsOf 16 = .ok (.goto 4, 3) := by decide +kernel
theorem dX5_feudsOf_19 : decode cX5_feudsOf 19 = .ok (.iconst 0, 1) := by decide +kernel
theorem dX5_feudsOf_20 : decode cX5_feudsOf 20 = .ok (.ireturn, 1) := by decide +kernel
theorem dX5_feud_0 : decode cX5_feud 0 = .ok (.aload_n 0, 1) := by decide +kernel
theorem dX5_feud_1 : decode cX5_feud 1 = .ok (.iload_n 1, 1) := by decide +kernel
theorem dX5_feud_2 : decode cX5_feud 2 = .ok (.invokevirtual 71, 3) := by decide +kernel
theorem dX5_feud_5 : decode cX5_feud 5 = .ok (.iload_n 2, 1) := by decide +kernel
theorem dX5_feud_6 : decode cX5_feud 6 = .ok (.ishr, 1) := by decide +kernel
theorem dX5_feud_7 : decode cX5_feud 7 = .ok (.iconst 1, 1) := by decide +kernel
theorem dX5_feud_8 : decode cX5_feud 8 = .ok (.iand, 1) := by decide +kernel
theorem dX5_feud_9 : decode cX5_feud 9 = .ok (.iconst 1, 1) := by decide +kernel
theorem dX5_feud_10 : decode cX5_feud 10 = .ok (.if_icmp .eq 16, 3) := by decide +kernel
theorem dX5_feud_13 : decode cX5_feud 13 = .ok (.aload_n 0, 1) := by decide +kernel
theorem dX5_feud_14 : decode cX5_feud 14 = .ok (.iload_n 2, 1) := by decide +kernel
theorem dX5_feud_15 : decode cX5_feud 15 = .ok (.invokevirtual 71, 3) := by decide +kernel
theorem dX5_feud_18 : decode cX5_feud 18 = .ok (.iload_n 1, 1) := by decide +kernel
theorem dX5_feud_19 : decode cX5_feud 19 = .ok (.ishr, 1) := by decide +kernel
theorem dX5_feud_20 : decode cX5_feud 20 = .ok (.iconst 1, 1) := by decide +kernel
theorem dX5_feud_21 : decode cX5_feud 21 = .ok (.iand, 1) := by decide +kernel
theorem dX5_feud_22 : decode cX5_feud 22 = .ok (.iconst 1, 1) := by decide +kernel
theorem dX5_feud_23 : decode cX5_feud 23 = .ok (.if_icmp .ne 7, 3) := by decide +kernel
theorem dX5_feud_26 : decode cX5_feud 26 = .ok (.iconst 1, 1) := by decide +kernel
theorem dX5_feud_27 : decode cX5_feud 27 = .ok (.goto 4, 3) := by decide +kernel
theorem dX5_feud_30 : decode cX5_feud 30 = .ok (.iconst 0, 1) := by decide +kernel
theorem dX5_feud_31 : decode cX5_feud 31 = .ok (.ireturn, 1) := by decide +kernel
theorem dX5_below_0 : decode cX5_below 0 = .ok (.iconst 0, 1) := by decide +kernel
theorem dX5_below_1 : decode cX5_below 1 = .ok (.istore_n 2, 1) := by decide +kernel
theorem dX5_below_2 : decode cX5_below 2 = .ok (.iconst 0, 1) := by decide +kernel
theorem dX5_below_3 : decode cX5_below 3 = .ok (.istore_n 3, 1) := by decide +kernel
theorem dX5_below_4 : decode cX5_below 4 = .ok (.iload_n 3, 1) := by decide +kernel
theorem dX5_below_5 : decode cX5_below 5 = .ok (.bipush 16, 2) := by decide +kernel
theorem dX5_below_7 : decode cX5_below 7 = .ok (.if_icmp .ge 40, 3) := by decide +kernel
theorem dX5_below_10 : decode cX5_below 10 = .ok (.aload_n 0, 1) := by decide +kernel
theorem dX5_below_11 : decode cX5_below 11 = .ok (.iload_n 1, 1) := by decide +kernel
theorem dX5_below_12 : decode cX5_below 12 = .ok (.invokevirtual 71, 3) := by decide +kernel
theorem dX5_below_15 : decode cX5_below 15 = .ok (.iload_n 3, 1) := by decide +kernel
theorem dX5_below_16 : decode cX5_below 16 = .ok (.ishr, 1) := by decide +kernel
theorem dX5_below_17 : decode cX5_below 17 = .ok (.iconst 1, 1) := by decide +kernel
theorem dX5_below_18 : decode cX5_below 18 = .ok (.iand, 1) := by decide +kernel
theorem dX5_below_19 : decode cX5_below 19 = .ok (.iconst 1, 1) := by decide +kernel
theorem dX5_below_20 : decode cX5_below 20 = .ok (.if_icmp .ne 21, 3) := by decide +kernel
theorem dX5_below_23 : decode cX5_below 23 = .ok (.aload_n 0, 1) := by decide +kernel
theorem dX5_below_24 : decode cX5_below 24 = .ok (.iload_n 3, 1) := by decide +kernel
theorem dX5_below_25 : decode cX5_below 25 = .ok (.invokevirtual 71, 3) := by decide +kernel
theorem dX5_below_28 : decode cX5_below 28 = .ok (.iload_n 1, 1) := by decide +kernel
theorem dX5_below_29 : decode cX5_below 29 = .ok (.ishr, 1) := by decide +kernel
theorem dX5_below_30 : decode cX5_below 30 = .ok (.iconst 1, 1) := by decide +kernel
theorem dX5_below_31 : decode cX5_below 31 = .ok (.iand, 1) := by decide +kernel
theorem dX5_below_32 : decode cX5_below 32 = .ok (.ifCond .ne 9, 3) := by decide +kernel
theorem dX5_below_35 : decode cX5_below 35 = .ok (.iload_n 2, 1) := by decide +kernel
theorem dX5_below_36 : decode cX5_below 36 = .ok (.iconst 1, 1) := by decide +kernel
theorem dX5_below_37 : decode cX5_below 37 = .ok (.iload_n 3, 1) := by decide +kernel
theorem dX5_below_38 : decode cX5_below 38 = .ok (.ishl, 1) := by decide +kernel
theorem dX5_below_39 : decode cX5_below 39 = .ok (.ior, 1) := by decide +kernel
theorem dX5_below_40 : decode cX5_below 40 = .ok (.istore_n 2, 1) := by decide +kernel
theorem dX5_below_41 : decode cX5_below 41 = .ok (.iinc 3 1, 3) := by decide +kernel
theorem dX5_below_44 : decode cX5_below 44 = .ok (.goto (-40), 3) := by decide +kernel
theorem dX5_below_47 : decode cX5_below 47 = .ok (.iload_n 2, 1) := by decide +kernel
theorem dX5_below_48 : decode cX5_below 48 = .ok (.ireturn, 1) := by decide +kernel
theorem dX5_kings_0 : decode cX5_kings 0 = .ok (.iconst 0, 1) := by decide +kernel
theorem dX5_kings_1 : decode cX5_kings 1 = .ok (.istore_n 2, 1) := by decide +kernel
theorem dX5_kings_2 : decode cX5_kings 2 = .ok (.iconst 0, 1) := by decide +kernel
theorem dX5_kings_3 : decode cX5_kings 3 = .ok (.istore_n 3, 1) := by decide +kernel
theorem dX5_kings_4 : decode cX5_kings 4 = .ok (.iload_n 3, 1) := by decide +kernel
theorem dX5_kings_5 : decode cX5_kings 5 = .ok (.iload_n 1, 1) := by decide +kernel
theorem dX5_kings_6 : decode cX5_kings 6 = .ok (.if_icmp .ge 77, 3) := by decide +kernel
theorem dX5_kings_9 : decode cX5_kings 9 = .ok (.aload_n 0, 1) := by decide +kernel
theorem dX5_kings_10 : decode cX5_kings 10 = .ok (.iload_n 3, 1) := by decide +kernel
theorem dX5_kings_11 : decode cX5_kings 11 = .ok (.invokevirtual 74, 3) := by decide +kernel
theorem dX5_kings_14 : decode cX5_kings 14 = .ok (.istore 4, 2) := by decide +kernel
theorem dX5_kings_16 : decode cX5_kings 16 = .ok (.iload 4, 2) := by decide +kernel
theorem dX5_kings_18 : decode cX5_kings 18 = .ok (.iconst 1, 1) := by decide +kernel
theorem dX5_kings_19 : decode cX5_kings 19 = .ok (.iload_n 3, 1) := by decide +kernel
theorem dX5_kings_20 : decode cX5_kings 20 = .ok (.ishl, 1) := by decide +kernel
theorem dX5_kings_21 : decode cX5_kings 21 = .ok (.ior, 1) := by decide +kernel
theorem dX5_kings_22 : decode cX5_kings 22 = .ok (.istore 5, 2) := by decide +kernel
theorem dX5_kings_24 : decode cX5_kings 24 = .ok (.iconst 0, 1) := by decide +kernel
theorem dX5_kings_25 : decode cX5_kings 25 = .ok (.istore 6, 2) := by decide +kernel
theorem dX5_kings_27 : decode cX5_kings 27 = .ok (.iload 6, 2) := by decide +kernel
theorem dX5_kings_29 : decode cX5_kings 29 = .ok (.iload_n 1, 1) := by decide +kernel
theorem dX5_kings_30 : decode cX5_kings 30 = .ok (.if_icmp .ge 31, 3) := by decide +kernel
theorem dX5_kings_33 : decode cX5_kings 33 = .ok (.iload 4, 2) := by decide +kernel
theorem dX5_kings_35 : decode cX5_kings 35 = .ok (.iload 6, 2) := by decide +kernel
theorem dX5_kings_37 : decode cX5_kings 37 = .ok (.ishr, 1) := by decide +kernel
theorem dX5_kings_38 : decode cX5_kings 38 = .ok (.iconst 1, 1) := by decide +kernel
theorem dX5_kings_39 : decode cX5_kings 39 = .ok (.iand, 1) := by decide +kernel
theorem dX5_kings_40 : decode cX5_kings 40 = .ok (.iconst 1, 1) := by decide +kernel
theorem dX5_kings_41 : decode cX5_kings 41 = .ok (.if_icmp .ne 14, 3) := by decide +kernel
theorem dX5_kings_44 : decode cX5_kings 44 = .ok (.iload 5, 2) := by decide +kernel
theorem dX5_kings_46 : decode cX5_kings 46 = .ok (.aload_n 0, 1) := by decide +kernel
theorem dX5_kings_47 : decode cX5_kings 47 = .ok (.iload 6, 2) := by decide +kernel
theorem dX5_kings_49 : decode cX5_kings 49 = .ok (.invokevirtual 74, 3) := by decide +kernel
theorem dX5_kings_52 : decode cX5_kings 52 = .ok (.ior, 1) := by decide +kernel
theorem dX5_kings_53 : decode cX5_kings 53 = .ok (.istore 5, 2) := by decide +kernel
theorem dX5_kings_55 : decode cX5_kings 55 = .ok (.iinc 6 1, 3) := by decide +kernel
theorem dX5_kings_58 : decode cX5_kings 58 = .ok (.goto (-31), 3) := by decide +kernel
theorem dX5_kings_61 : decode cX5_kings 61 = .ok (.iload 5, 2) := by decide +kernel
theorem dX5_kings_63 : decode cX5_kings 63 = .ok (.iconst 1, 1) := by decide +kernel
theorem dX5_kings_64 : decode cX5_kings 64 = .ok (.iload_n 1, 1) := by decide +kernel
theorem dX5_kings_65 : decode cX5_kings 65 = .ok (.ishl, 1) := by decide +kernel
theorem dX5_kings_66 : decode cX5_kings 66 = .ok (.iconst 1, 1) := by decide +kernel
theorem dX5_kings_67 : decode cX5_kings 67 = .ok (.isub, 1) := by decide +kernel
theorem dX5_kings_68 : decode cX5_kings 68 = .ok (.if_icmp .ne 9, 3) := by decide +kernel
theorem dX5_kings_71 : decode cX5_kings 71 = .ok (.iload_n 2, 1) := by decide +kernel
theorem dX5_kings_72 : decode cX5_kings 72 = .ok (.iconst 1, 1) := by decide +kernel
theorem dX5_kings_73 : decode cX5_kings 73 = .ok (.iload_n 3, 1) := by decide +kernel
theorem dX5_kings_74 : decode cX5_kings 74 = .ok (.ishl, 1) := by decide +kernel
theorem dX5_kings_75 : decode cX5_kings 75 = .ok (.ior, 1) := by decide +kernel
theorem dX5_kings_76 : decode cX5_kings 76 = .ok (.istore_n 2, 1) := by decide +kernel
theorem dX5_kings_77 : decode cX5_kings 77 = .ok (.iinc 3 1, 3) := by decide +kernel
theorem dX5_kings_80 : decode cX5_kings 80 = .ok (.goto (-76), 3) := by decide +kernel
theorem dX5_kings_83 : decode cX5_kings 83 = .ok (.iload_n 2, 1) := by decide +kernel
theorem dX5_kings_84 : decode cX5_kings 84 = .ok (.ireturn, 1) := by decide +kernel
theorem dX5_longestRow_0 : decode cX5_longestRow 0 = .ok (.iload_n 1, 1) := by decide +kernel
theorem dX5_longestRow_1 : decode cX5_longestRow 1 = .ok (.bipush 12, 2) := by decide +kernel
theorem dX5_longestRow_3 : decode cX5_longestRow 3 = .ok (.invokestatic 77, 3) := by decide +kernel
theorem dX5_longestRow_6 : decode cX5_longestRow 6 = .ok (.istore_n 2, 1) := by decide +kernel
theorem dX5_longestRow_7 : decode cX5_longestRow 7 = .ok (.iconst 0, 1) := by decide +kernel
theorem dX5_longestRow_8 : decode cX5_longestRow 8 = .ok (.istore_n 3, 1) := by decide +kernel
theorem dX5_longestRow_9 : decode cX5_longestRow 9 = .ok (.iconst 0, 1) := by decide +kernel
theorem dX5_longestRow_10 : decode cX5_longestRow 10 = .ok (.istore 4, 2) := by decide +kernel
theorem dX5_longestRow_12 : decode cX5_longestRow 12 = .ok (.iload 4, 2) := by decide +kernel
theorem dX5_longestRow_14 : decode cX5_longestRow 14 = .ok (.iload_n 2, 1) := by decide +kernel
theorem dX5_longestRow_15 : decode cX5_longestRow 15 = .ok (.if_icmp .ge 25, 3) := by decide +kernel
theorem dX5_longestRow_18 : decode cX5_longestRow 18 = .ok (.iload_n 3, 1) := by decide +kernel
theorem dX5_longestRow_19 : decode cX5_longestRow 19 = .ok (.aload_n 0, 1) := by decide +kernel
theorem dX5_longestRow_20 : decode cX5_longestRow 20 = .ok (.iload 4, 2) := by decide +kernel
theorem dX5_longestRow_22 : decode cX5_longestRow 22 = .ok (.iconst 1, 1) := by decide +kernel
theorem dX5_longestRow_23 : decode cX5_longestRow 23 = .ok (.iload 4, 2) := by decide +kernel
theorem dX5_longestRow_25 : decode cX5_longestRow 25 = .ok (.ishl, 1) := by decide +kernel
theorem dX5_longestRow_26 : decode cX5_longestRow 26 = .ok (.iconst 1, 1) := by decide +kernel
theorem dX5_longestRow_27 : decode cX5_longestRow 27 = .ok (.invokestatic 83, 3) := by decide +kernel
theorem dX5_longestRow_30 : decode cX5_longestRow 30 = .ok (.invokestatic 87, 3) := by decide +kernel
theorem dX5_longestRow_33 : decode cX5_longestRow 33 = .ok (.istore_n 3, 1) := by decide +kernel
theorem dX5_longestRow_34 : decode cX5_longestRow 34 = .ok (.iinc 4 1, 3) := by decide +kernel
theorem dX5_longestRow_37 : decode cX5_longestRow 37 = .ok (.goto (-25), 3) := by decide +kernel
theorem dX5_longestRow_40 : decode cX5_longestRow 40 = .ok (.iload_n 3, 1) := by decide +kernel
theorem dX5_longestRow_41 : decode cX5_longestRow 41 = .ok (.ireturn, 1) := by decide +kernel
theorem dX5_longestFrom_0 : decode cX5_longestFrom 0 = .ok (.iload_n 3, 1) := by decide +kernel
theorem dX5_longestFrom_1 : decode cX5_longestFrom 1 = .ok (.istore 4, 2) := by decide +kernel
theorem dX5_longestFrom_3 : decode cX5_longestFrom 3 = .ok (.iload_n 3, 1) := by decide +kernel
theorem dX5_longestFrom_4 : decode cX5_longestFrom 4 = .ok (.bipush 12, 2) := by decide +kernel
theorem dX5_longestFrom_6 : decode cX5_longestFrom 6 = .ok (.if_icmp .lt 6, 3) := by decide +kernel
theorem dX5_longestFrom_9 : decode cX5_longestFrom 9 = .ok (.iload 4, 2) := by decide +kernel
theorem dX5_longestFrom_11 : decode cX5_longestFrom 11 = .ok (.ireturn, 1) := by decide +kernel
theorem dX5_longestFrom_12 : decode cX5_longestFrom 12 = .ok (.aload_n 0, 1) := by decide +kernel
theorem dX5_longestFrom_13 : decode cX5_longestFrom 13 = .ok (.iload_n 1, 1) := by decide +kernel
theorem dX5_longestFrom_14 : decode cX5_longestFrom 14 = .ok (.invokevirtual 74, 3) := by decide +kernel
theorem dX5_longestFrom_17 : decode cX5_longestFrom 17 = .ok (.iload_n 2, 1) := by decide +kernel
theorem dX5_longestFrom_18 : decode cX5_longestFrom 18 = .ok (.iconst (-1), 1) := by decide +kernel
theorem dX5_longestFrom_19 : decode cX5_longestFrom 19 = .ok (.ixor, 1) := by decide +kernel
theorem dX5_longestFrom_20 : decode cX5_longestFrom 20 = .ok (.iand, 1) := by decide +kernel
theorem dX5_longestFrom_21 : decode cX5_longestFrom 21 = .ok (.istore 5, 2) := by decide +kernel
theorem dX5_longestFrom_23 : decode cX5_longestFrom 23 = .ok (.iconst 0, 1) := by decide +kernel
theorem dX5_longestFrom_24 : decode cX5_longestFrom 24 = .ok (.istore 6, 2) := by decide +kernel
theorem dX5_longestFrom_26 : decode cX5_longestFrom 26 = .ok (.iload 6, 2) := by decide +kernel
theorem dX5_longestFrom_28 : decode cX5_longestFrom 28 = .ok (.bipush 12, 2) := by decide +kernel
theorem dX5_longestFrom_30 : decode cX5_longestFrom 30 = .ok (.if_icmp .ge 42, 3) := by decide +kernel
theorem dX5_longestFrom_33 : decode cX5_longestFrom 33 = .ok (.iload 5, 2) := by decide +kernel
theorem dX5_longestFrom_35 : decode cX5_longestFrom 35 = .ok (.iload 6, 2) := by decide +kernel
theorem dX5_longestFrom_37 : decode cX5_longestFrom 37 = .ok (.ishr, 1) := by decide +kernel
theorem dX5_longestFrom_38 : decode cX5_longestFrom 38 = .ok (.iconst 1, 1) := by decide +kernel
theorem dX5_longestFrom_39 : decode cX5_longestFrom 39 = .ok (.iand, 1) := by decide +kernel
theorem dX5_longestFrom_40 : decode cX5_longestFrom 40 = .ok (.iconst 1, 1) := by decide +kernel
theorem dX5_longestFrom_41 : decode cX5_longestFrom 41 = .ok (.if_icmp .ne 25, 3) := by decide +kernel
theorem dX5_longestFrom_44 : decode cX5_longestFrom 44 = .ok (.iload 4, 2) := by decide +kernel
theorem dX5_longestFrom_46 : decode cX5_longestFrom 46 = .ok (.aload_n 0, 1) := by decide +kernel
theorem dX5_longestFrom_47 : decode cX5_longestFrom 47 = .ok (.iload 6, 2) := by decide +kernel
theorem dX5_longestFrom_49 : decode cX5_longestFrom 49 = .ok (.iload_n 2, 1) := by decide +kernel
theorem dX5_longestFrom_50 : decode cX5_longestFrom 50 = .ok (.iconst 1, 1) := by decide +kernel
theorem dX5_longestFrom_51 : decode cX5_longestFrom 51 = .ok (.iload 6, 2) := by decide +kernel
theorem dX5_longestFrom_53 : decode cX5_longestFrom 53 = .ok (.ishl, 1) := by decide +kernel
theorem dX5_longestFrom_54 : decode cX5_longestFrom 54 = .ok (.ior, 1) := by decide +kernel
theorem dX5_longestFrom_55 : decode cX5_longestFrom 55 = .ok (.iload_n 3, 1) := by decide +kernel
theorem dX5_longestFrom_56 : decode cX5_longestFrom 56 = .ok (.iconst 1, 1) := by decide +kernel
theorem dX5_longestFrom_57 : decode cX5_longestFrom 57 = .ok (.iadd, 1) := by decide +kernel
theorem dX5_longestFrom_58 : decode cX5_longestFrom 58 = .ok (.invokestatic 83, 3) := by decide +kernel
theorem dX5_longestFrom_61 : decode cX5_longestFrom 61 = .ok (.invokestatic 87, 3) := by decide +kernel
theorem dX5_longestFrom_64 : decode cX5_longestFrom 64 = .ok (.istore 4, 2) := by decide +kernel
theorem dX5_longestFrom_66 : decode cX5_longestFrom 66 = .ok (.iinc 6 1, 3) := by decide +kernel
theorem dX5_longestFrom_69 : decode cX5_longestFrom 69 = .ok (.goto (-43), 3) := by decide +kernel
theorem dX5_longestFrom_72 : decode cX5_longestFrom 72 = .ok (.iload 4, 2) := by decide +kernel
theorem dX5_longestFrom_74 : decode cX5_longestFrom 74 = .ok (.ireturn, 1) := by decide +kernel
theorem dX6_init_0 : decode cX6_init 0 = .ok (.aload_n 0, 1) := by decide +kernel
theorem dX6_init_1 : decode cX6_init 1 = .ok (.invokespecial 3, 3) := by decide +kernel
theorem dX6_init_4 : decode cX6_init 4 = .ok (.aload_n 0, 1) := by decide +kernel
theorem dX6_init_5 : decode cX6_init 5 = .ok (.bipush 96, 2) := by decide +kernel
theorem dX6_init_7 : decode cX6_init 7 = .ok (.newarray .int, 2) := by decide +kernel
theorem dX6_init_9 : decode cX6_init 9 = .ok (.putfield 9, 3) := by decide +kernel
theorem dX6_init_12 : decode cX6_init 12 = .ok (.aload_n 0, 1) := by decide +kernel
theorem dX6_init_13 : decode cX6_init 13 = .ok (.iconst (-1), 1) := by decide +kernel
theorem dX6_init_14 : decode cX6_init 14 = .ok (.putfield 15, 3) := by decide +kernel
theorem dX6_init_17 : decode cX6_init 17 = .ok (.return_, 1) := by decide +kernel
theorem dX6_has_0 : decode cX6_has 0 = .ok (.iload_n 1, 1) := by decide +kernel
theorem dX6_has_1 : decode cX6_has 1 = .ok (.ifCond .lt 15, 3) := by decide +kernel
theorem dX6_has_4 : decode cX6_has 4 = .ok (.iload_n 1, 1) := by decide +kernel
theorem dX6_has_5 : decode cX6_has 5 = .ok (.aload_n 0, 1) := by decide +kernel
theorem dX6_has_6 : decode cX6_has 6 = .ok (.getfield 19, 3) := by decide +kernel
theorem dX6_has_9 : decode cX6_has 9 = .ok (.if_icmp .ge 7, 3) := by decide +kernel
theorem dX6_has_12 : decode cX6_has 12 = .ok (.iconst 1, 1) := by decide +kernel
theorem dX6_has_13 : decode cX6_has 13 = .ok (.goto 4, 3) := by decide +kernel
theorem dX6_has_16 : decode cX6_has 16 = .ok (.iconst 0, 1) := by decide +kernel
theorem dX6_has_17 : decode cX6_has 17 = .ok (.ireturn, 1) := by decide +kernel
theorem dX6_build_0 : decode cX6_build 0 = .ok (.aload_n 0, 1) := by decide +kernel
theorem dX6_build_1 : decode cX6_build 1 = .ok (.getfield 19, 3) := by decide +kernel
theorem dX6_build_4 : decode cX6_build 4 = .ok (.bipush 16, 2) := by decide +kernel
theorem dX6_build_6 : decode cX6_build 6 = .ok (.if_icmp .ge 27, 3) := by decide +kernel
theorem dX6_build_9 : decode cX6_build 9 = .ok (.iconst 0, 1) := by decide +kernel
theorem dX6_build_10 : decode cX6_build 10 = .ok (.iload_n 1, 1) := by decide +kernel
theorem dX6_build_11 : decode cX6_build 11 = .ok (.invokestatic 22, 3) := by decide +kernel
theorem dX6_build_14 : decode cX6_build 14 = .ok (.ifCond .eq 19, 3) := by decide +kernel
theorem dX6_build_17 : decode cX6_build 17 = .ok (.iconst 1, 1) := by decide +kernel
theorem dX6_build_18 : decode cX6_build 18 = .ok (.iload_n 2, 1) := by decide +kernel
theorem dX6_build_19 : decode cX6_build 19 = .ok (.invokestatic 22, 3) := by decide +kernel
theorem dX6_build_22 : decode cX6_build 22 = .ok (.ifCond .eq 11, 3) := by decide +kernel
theorem dX6_build_25 : decode cX6_build 25 = .ok (.iconst 2, 1) := by decide +kernel
theorem dX6_build_26 : decode cX6_build 26 = .ok (.iload_n 3, 1) := by decide +kernel
theorem dX6_build_27 : decode cX6_build 27 = .ok (.invokestatic 22, 3) := by decide +kernel
theorem dX6_build_30 : decode cX6_build 30 = .ok (.ifCond .ne 5, 3) := by decide +kernel
theorem dX6_build_33 : decode cX6_build 33 = .ok (.iconst (-1), 1) := by decide +kernel
theorem dX6_build_34 : decode cX6_build 34 = .ok (.ireturn, 1) := by decide +kernel
theorem dX6_build_35 : decode cX6_build 35 = .ok (.aload_n 0, 1) := by decide +kernel
theorem dX6_build_36 : decode cX6_build 36 = .ok (.getfield 19, 3) := by decide +kernel
theorem dX6_build_39 : decode cX6_build 39 = .ok (.istore 4, 2) := by decide +kernel
theorem dX6_build_41 : decode cX6_build 41 = .ok (.aload_n 0, 1) := by decide +kernel
theorem dX6_build_42 : decode cX6_build 42 = .ok (.dup, 1) := by decide +kernel
theorem dX6_build_43 : decode cX6_build 43 = .ok (.getfield 19, 3) := by decide +kernel
theorem dX6_build_46 : decode cX6_build 46 = .ok (.iconst 1, 1) := by decide +kernel
theorem dX6_build_47 : decode cX6_build 47 = .ok (.iadd, 1) := by decide +kernel
theorem dX6_build_48 : decode cX6_build 48 = .ok (.putfield 19, 3) := by decide +kernel
theorem dX6_build_51 : decode cX6_build 51 = .ok (.aload_n 0, 1) := by decide +kernel
theorem dX6_build_52 : decode cX6_build 52 = .ok (.iload 4, 2) := by decide +kernel
theorem dX6_build_54 : decode cX6_build 54 = .ok (.iconst 0, 1) := by decide +kernel
theorem dX6_build_55 : decode cX6_build 55 = .ok (.iload_n 1, 1) := by decide +kernel
theorem dX6_build_56 : decode cX6_build 56 = .ok (.invokevirtual 26, 3) := by decide +kernel
theorem dX6_build_59 : decode cX6_build 59 = .ok (.aload_n 0, 1) := by decide +kernel
theorem dX6_build_60 : decode cX6_build 60 = .ok (.iload 4, 2) := by decide +kernel
theorem dX6_build_62 : decode cX6_build 62 = .ok (.iconst 1, 1) := by decide +kernel
theorem dX6_build_63 : decode cX6_build 63 = .ok (.iload_n 2, 1) := by decide +kernel
theorem dX6_build_64 : decode cX6_build 64 = .ok (.invokevirtual 26, 3) := by decide +kernel
theorem dX6_build_67 : decode cX6_build 67 = .ok (.aload_n 0, 1) := by decide +kernel
theorem dX6_build_68 : decode cX6_build 68 = .ok (.iload 4, 2) := by decide +kernel
theorem dX6_build_70 : decode cX6_build 70 = .ok (.iconst 2, 1) := by decide +kernel
theorem dX6_build_71 : decode cX6_build 71 = .ok (.iload_n 3, 1) := by decide +kernel
theorem dX6_build_72 : decode cX6_build 72 = .ok (.invokevirtual 26, 3) := by decide +kernel
theorem dX6_build_75 : decode cX6_build 75 = .ok (.aload_n 0, 1) := by decide +kernel
theorem dX6_build_76 : decode cX6_build 76 = .ok (.iload 4, 2) := by decide +kernel
theorem dX6_build_78 : decode cX6_build 78 = .ok (.iconst 3, 1) := by decide +kernel
theorem dX6_build_79 : decode cX6_build 79 = .ok (.iconst 0, 1) := by decide +kernel
theorem dX6_build_80 : decode cX6_build 80 = .ok (.invokevirtual 26, 3) := by decide +kernel
theorem dX6_build_83 : decode cX6_build 83 = .ok (.aload_n 0, 1) := by decide +kernel
theorem dX6_build_84 : decode cX6_build 84 = .ok (.iload 4, 2) := by decide +kernel
theorem dX6_build_86 : decode cX6_build 86 = .ok (.iconst 4, 1) := by decide +kernel
theorem dX6_build_87 : decode cX6_build 87 = .ok (.iconst 0, 1) := by decide +kernel
theorem dX6_build_88 : decode cX6_build 88 = .ok (.invokevirtual 26, 3) := by decide +kernel
theorem dX6_build_91 : decode cX6_build 91 = .ok (.aload_n 0, 1) := by decide +kernel
theorem dX6_build_92 : decode cX6_build 92 = .ok (.iload 4, 2) := by decide +kernel
theorem dX6_build_94 : decode cX6_build 94 = .ok (.iconst 5, 1) := by decide +kernel
theorem dX6_build_95 : decode cX6_build 95 = .ok (.iload 4, 2) := by decide +kernel
theorem dX6_build_97 : decode cX6_build 97 = .ok (.invokevirtual 26, 3) := by decide +kernel
theorem dX6_build_100 : decode cX6_build 100 = .ok (.iload 4, 2) := by decide +kernel
theorem dX6_build_102 : decode cX6_build 102 = .ok (.ifCond .ne 8, 3) := by decide +kernel
theorem dX6_build_105 : decode cX6_build 105 = .ok (.aload_n 0, 1) := by decide +kernel
theorem dX6_build_106 : decode cX6_build 106 = .ok (.iconst 0, 1) := by decide +kernel
theorem dX6_build_107 : decode cX6_build 107 = .ok (.putfield 15, 3) := by decide +kernel
theorem dX6_build_110 : decode cX6_build 110 = .ok (.iload 4, 2) := by decide +kernel
theorem dX6_build_112 : decode cX6_build 112 = .ok (.ireturn, 1) := by decide +kernel
theorem dX6_get_0 : decode cX6_get 0 = .ok (.iload_n 1, 1) := by decide +kernel
theorem dX6_get_1 : decode cX6_get 1 = .ok (.ifCond .lt 25, 3) := by decide +kernel
theorem dX6_get_4 : decode cX6_get 4 = .ok (.iload_n 1, 1) := by decide +kernel
theorem dX6_get_5 : decode cX6_get 5 = .ok (.aload_n 0, 1) := by decide +kernel
theorem dX6_get_6 : decode cX6_get 6 = .ok (.getfield 19, 3) := by decide +kernel
theorem dX6_get_9 : decode cX6_get 9 = .ok (.if_icmp .ge 17, 3) := by decide +kernel
theorem dX6_get_12 : decode cX6_get 12 = .ok (.iload_n 2, 1) := by decide +kernel
theorem dX6_get_13 : decode cX6_get 13 = .ok (.ifCond .lt 13, 3) := by decide +kernel
theorem dX6_get_16 : decode cX6_get 16 = .ok (.iload_n 2, 1) := by decide +kernel
theorem dX6_get_17 : decode cX6_get 17 = .ok (.bipush 6, 2) := by decide +kernel
theorem dX6_get_19 : decode cX6_get 19 = .ok (.if_icmp .ge 7, 3) := by decide +kernel
theorem dX6_get_22 : decode cX6_get 22 = .ok (.iconst 1, 1) := by decide +kernel
theorem dX6_get_23 : decode cX6_get 23 = .ok (.goto 4, 3) := by decide +kernel
theorem dX6_get_26 : decode cX6_get 26 = .ok (.iconst 0, 1) := by decide +kernel
theorem dX6_get_27 : decode cX6_get 27 = .ok (.istore_n 3, 1) := by decide +kernel
theorem dX6_get_28 : decode cX6_get 28 = .ok (.iload_n 3, 1) := by decide +kernel
theorem dX6_get_29 : decode cX6_get 29 = .ok (.ifCond .eq 17, 3) := by decide +kernel
theorem dX6_get_32 : decode cX6_get 32 = .ok (.aload_n 0, 1) := by decide +kernel
theorem dX6_get_33 : decode cX6_get 33 = .ok (.getfield 9, 3) := by decide +kernel
theorem dX6_get_36 : decode cX6_get 36 = .ok (.iload_n 1, 1) := by decide +kernel
theorem dX6_get_37 : decode cX6_get 37 = .ok (.bipush 6, 2) := by decide +kernel
theorem dX6_get_39 : decode cX6_get 39 = .ok (.imul, 1) := by decide +kernel
theorem dX6_get_40 : decode cX6_get 40 = .ok (.iload_n 2, 1) := by decide +kernel
theorem dX6_get_41 : decode cX6_get 41 = .ok (.iadd, 1) := by decide +kernel
theorem dX6_get_42 : decode cX6_get 42 = .ok (.iaload, 1) := by decide +kernel
theorem dX6_get_43 : decode cX6_get 43 = .ok (.goto 4, 3) := by decide +kernel
theorem dX6_get_46 : decode cX6_get 46 = .ok (.iconst (-1), 1) := by decide +kernel
theorem dX6_get_47 : decode cX6_get 47 = .ok (.ireturn, 1) := by decide +kernel
theorem dX6_put_0 : decode cX6_put 0 = .ok (.iload_n 1, 1) := by decide +kernel
theorem dX6_put_1 : decode cX6_put 1 = .ok (.ifCond .lt 33, 3) := by decide +kernel
theorem dX6_put_4 : decode cX6_put 4 = .ok (.iload_n 1, 1) := by decide +kernel
theorem dX6_put_5 : decode cX6_put 5 = .ok (.aload_n 0, 1) := by decide +kernel
theorem dX6_put_6 : decode cX6_put 6 = .ok (.getfield 19, 3) := by decide +kernel
theorem dX6_put_9 : decode cX6_put 9 = .ok (.if_icmp .ge 25, 3) := by decide +kernel
theorem dX6_put_12 : decode cX6_put 12 = .ok (.iload_n 2, 1) := by decide +kernel
theorem dX6_put_13 : decode cX6_put 13 = .ok (.ifCond .lt 21, 3) := by decide +kernel
theorem dX6_put_16 : decode cX6_put 16 = .ok (.iload_n 2, 1) := by decide +kernel
theorem dX6_put_17 : decode cX6_put 17 = .ok (.bipush 6, 2) := by decide +kernel
theorem dX6_put_19 : decode cX6_put 19 = .ok (.if_icmp .ge 15, 3) := by decide +kernel
theorem dX6_put_22 : decode cX6_put 22 = .ok (.aload_n 0, 1) := by decide +kernel
theorem dX6_put_23 : decode cX6_put 23 = .ok (.getfield 9, 3) := by decide +kernel
theorem dX6_put_26 : decode cX6_put 26 = .ok (.iload_n 1, 1) := by decide +kernel
theorem dX6_put_27 : decode cX6_put 27 = .ok (.bipush 6, 2) := by decide +kernel
theorem dX6_put_29 : decode cX6_put 29 = .ok (.imul, 1) := by decide +kernel
theorem dX6_put_30 : decode cX6_put 30 = .ok (.iload_n 2, 1) := by decide +kernel
theorem dX6_put_31 : decode cX6_put 31 = .ok (.iadd, 1) := by decide +kernel
theorem dX6_put_32 : decode cX6_put 32 = .ok (.iload_n 3, 1) := by decide +kernel
theorem dX6_put_33 : decode cX6_put 33 = .ok (.iastore, 1) := by decide +kernel
theorem dX6_put_34 : decode cX6_put 34 = .ok (.return_, 1) := by decide +kernel
theorem dX6_add_0 : decode cX6_add 0 = .ok (.iload_n 2, 1) := by decide +kernel
theorem dX6_add_1 : decode cX6_add 1 = .ok (.ifCond .lt 33, 3) := by decide +kernel
theorem dX6_add_4 : decode cX6_add 4 = .ok (.iload_n 2, 1) := by decide +kernel
theorem dX6_add_5 : decode cX6_add 5 = .ok (.getstatic 30, 3) := by decide +kernel
theorem dX6_add_8 : decode cX6_add 8 = .ok (.arraylength, 1) := by decide +kernel
theorem dX6_add_9 : decode cX6_add 9 = .ok (.if_icmp .ge 25, 3) := by decide +kernel
theorem dX6_add_12 : decode cX6_add 12 = .ok (.aload_n 0, 1) := by decide +kernel
theorem dX6_add_13 : decode cX6_add 13 = .ok (.iload_n 1, 1) := by decide +kernel
theorem dX6_add_14 : decode cX6_add 14 = .ok (.iload_n 2, 1) := by decide +kernel
theorem dX6_add_15 : decode cX6_add 15 = .ok (.aload_n 0, 1) := by decide +kernel
theorem dX6_add_16 : decode cX6_add 16 = .ok (.iload_n 1, 1) := by decide +kernel
theorem dX6_add_17 : decode cX6_add 17 = .ok (.iload_n 2, 1) := by decide +kernel
theorem dX6_add_18 : decode cX6_add 18 = .ok (.invokevirtual 33, 3) := by decide +kernel
theorem dX6_add_21 : decode cX6_add 21 = .ok (.iload_n 3, 1) := by decide +kernel
theorem dX6_add_22 : decode cX6_add 22 = .ok (.iadd, 1) := by decide +kernel
theorem dX6_add_23 : decode cX6_add 23 = .ok (.getstatic 30, 3) := by decide +kernel
theorem dX6_add_26 : decode cX6_add 26 = .ok (.iload_n 2, 1) := by decide +kernel
theorem dX6_add_27 : decode cX6_add 27 = .ok (.iaload, 1) := by decide +kernel
theorem dX6_add_28 : decode cX6_add 28 = .ok (.invokestatic 37, 3) := by decide +kernel
theorem dX6_add_31 : decode cX6_add 31 = .ok (.invokevirtual 26, 3) := by decide +kernel
theorem dX6_add_34 : decode cX6_add 34 = .ok (.return_, 1) := by decide +kernel
theorem dX6_draw_0 : decode cX6_draw 0 = .ok (.aload_n 0, 1) := by decide +kernel
theorem dX6_draw_1 : decode cX6_draw 1 = .ok (.ldc 42, 2) := by decide +kernel
theorem dX6_draw_3 : decode cX6_draw 3 = .ok (.aload_n 0, 1) := by decide +kernel
theorem dX6_draw_4 : decode cX6_draw 4 = .ok (.getfield 43, 3) := by decide +kernel
theorem dX6_draw_7 : decode cX6_draw 7 = .ok (.imul, 1) := by decide +kernel
theorem dX6_draw_8 : decode cX6_draw 8 = .ok (.ldc 46, 2) := by decide +kernel
theorem dX6_draw_10 : decode cX6_draw 10 = .ok (.iadd, 1) := by decide +kernel
theorem dX6_draw_11 : decode cX6_draw 11 = .ok (.putfield 43, 3) := by decide +kernel
theorem dX6_draw_14 : decode cX6_draw 14 = .ok (.iload_n 1, 1) := by decide +kernel
theorem dX6_draw_15 : decode cX6_draw 15 = .ok (.ifCond .le 15, 3) := by decide +kernel
theorem dX6_draw_18 : decode cX6_draw 18 = .ok (.aload_n 0, 1) := by decide +kernel
theorem dX6_draw_19 : decode cX6_draw 19 = .ok (.getfield 43, 3) := by decide +kernel
theorem dX6_draw_22 : decode cX6_draw 22 = .ok (.bipush 8, 2) := by decide +kernel
theorem dX6_draw_24 : decode cX6_draw 24 = .ok (.iushr, 1) := by decide +kernel
theorem dX6_draw_25 : decode cX6_draw 25 = .ok (.iload_n 1, 1) := by decide +kernel
theorem dX6_draw_26 : decode cX6_draw 26 = .ok (.irem, 1) := by decide +kernel
theorem dX6_draw_27 : decode cX6_draw 27 = .ok (.goto 4, 3) := by decide +kernel
theorem dX6_draw_30 : decode cX6_draw 30 = .ok (.iconst 0, 1) := by decide +kernel
theorem dX6_draw_31 : decode cX6_draw 31 = .ok (.ireturn, 1) := by decide +kernel
theorem dX6_widows_0 : decode cX6_widows 0 = .ok (.iconst 0, 1) := by decide +kernel
theorem dX6_widows_1 : decode cX6_widows 1 = .ok (.istore_n 1, 1) := by decide +kernel
theorem dX6_widows_2 : decode cX6_widows 2 = .ok (.iconst 0, 1) := by decide +kernel
theorem dX6_widows_3 : decode cX6_widows 3 = .ok (.istore_n 2, 1) := by decide +kernel
theorem dX6_widows_4 : decode cX6_widows 4 = .ok (.iload_n 2, 1) := by decide +kernel
theorem dX6_widows_5 : decode cX6_widows 5 = .ok (.aload_n 0, 1) := by decide +kernel
theorem dX6_widows_6 : decode cX6_widows 6 = .ok (.getfield 19, 3) := by decide +kernel
theorem dX6_widows_9 : decode cX6_widows 9 = .ok (.if_icmp .ge 25, 3) := by decide +kernel
theorem dX6_widows_12 : decode cX6_widows 12 = .ok (.aload_n 0, 1) := by decide +kernel
theorem dX6_widows_13 : decode cX6_widows 13 = .ok (.iload_n 2, 1) := by decide +kernel
theorem dX6_widows_14 : decode cX6_widows 14 = .ok (.iconst 4, 1) := by decide +kernel
theorem dX6_widows_15 : decode cX6_widows 15 = .ok (.invokevirtual 33, 3) := by decide +kernel
theorem dX6_widows_18 : decode cX6_widows 18 = .ok (.iconst 1, 1) := by decide +kernel
theorem dX6_widows_19 : decode cX6_widows 19 = .ok (.if_icmp .ne 9, 3) := by decide +kernel
theorem dX6_widows_22 : decode cX6_widows 22 = .ok (.iload_n 1, 1) := by decide +kernel
theorem dX6_widows_23 : decode cX6_widows 23 = .ok (.iconst 1, 1) := by decide +kernel
theorem dX6_widows_24 : decode cX6_widows 24 = .ok (.iload_n 2, 1) := by decide +kernel
theorem dX6_widows_25 : decode cX6_widows 25 = .ok (.ishl, 1) := by decide +kernel
theorem dX6_widows_26 : decode cX6_widows 26 = .ok (.ior, 1) := by decide +kernel
theorem dX6_widows_27 : decode cX6_widows 27 = .ok (.istore_n 1, 1) := by decide +kernel
theorem dX6_widows_28 : decode cX6_widows 28 = .ok (.iinc 2 1, 3) := by decide +kernel
theorem dX6_widows_31 : decode cX6_widows 31 = .ok (.goto (-27), 3) := by decide +kernel
theorem dX6_widows_34 : decode cX6_widows 34 = .ok (.iload_n 1, 1) := by decide +kernel
theorem dX6_widows_35 : decode cX6_widows 35 = .ok (.ireturn, 1) := by decide +kernel
theorem dX6_dowries_0 : decode cX6_dowries 0 = .ok (.iconst 0, 1) := by decide +kernel
theorem dX6_dowries_1 : decode cX6_dowries 1 = .ok (.istore_n 1, 1) := by decide +kernel
theorem dX6_dowries_2 : decode cX6_dowries 2 = .ok (.iconst 0, 1) := by decide +kernel
theorem dX6_dowries_3 : decode cX6_dowries 3 = .ok (.istore_n 2, 1) := by decide +kernel
theorem dX6_dowries_4 : decode cX6_dowries 4 = .ok (.iload_n 2, 1) := by decide +kernel
theorem dX6_dowries_5 : decode cX6_dowries 5 = .ok (.aload_n 0, 1) := by decide +kernel
theorem dX6_dowries_6 : decode cX6_dowries 6 = .ok (.getfield 19, 3) := by decide +kernel
theorem dX6_dowries_9 : decode cX6_dowries 9 = .ok (.if_icmp .ge 18, 3) := by decide +kernel
theorem dX6_dowries_12 : decode cX6_dowries 12 = .ok (.iload_n 1, 1) := by decide +kernel
theorem dX6_dowries_13 : decode cX6_dowries 13 = .ok (.aload_n 0, 1) := by decide +kernel
theorem dX6_dowries_14 : decode cX6_dowries 14 = .ok (.iload_n 2, 1) := by decide +kernel
theorem dX6_dowries_15 : decode cX6_dowries 15 = .ok (.iconst 2, 1) := by decide +kernel
theorem dX6_dowries_16 : decode cX6_dowries 16 = .ok (.invokevirtual 33, 3) := by decide +kernel
theorem dX6_dowries_19 : decode cX6_dowries 19 = .ok (.iadd, 1) := by decide +kernel
theorem dX6_dowries_20 : decode cX6_dowries 20 = .ok (.istore_n 1, 1) := by decide +kernel
theorem dX6_dowries_21 : decode cX6_dowries 21 = .ok (.iinc 2 1, 3) := by decide +kernel
theorem dX6_dowries_24 : decode cX6_dowries 24 = .ok (.goto (-20), 3) := by decide +kernel
theorem dX6_dowries_27 : decode cX6_dowries 27 = .ok (.iload_n 1, 1) := by decide +kernel
theorem dX6_dowries_28 : decode cX6_dowries 28 = .ok (.ireturn, 1) := by decide +kernel
theorem dX6_copy_0 : decode cX6_copy 0 = .ok (.aload_n 1, 1) := by decide +kernel
theorem dX6_copy_1 : decode cX6_copy 1 = .ok (.getfield 9, 3) := by decide +kernel
theorem dX6_copy_4 : decode cX6_copy 4 = .ok (.iconst 0, 1) := by decide +kernel
theorem dX6_copy_5 : decode cX6_copy 5 = .ok (.aload_n 0, 1) := by decide +kernel
theorem dX6_copy_6 : decode cX6_copy 6 = .ok (.getfield 9, 3) := by decide +kernel
theorem dX6_copy_9 : decode cX6_copy 9 = .ok (.iconst 0, 1) := by decide +kernel
theorem dX6_copy_10 : decode cX6_copy 10 = .ok (.aload_n 0, 1) := by decide +kernel
theorem dX6_copy_11 : decode cX6_copy 11 = .ok (.getfield 9, 3) := by decide +kernel
theorem dX6_copy_14 : decode cX6_copy 14 = .ok (.arraylength, 1) := by decide +kernel
theorem dX6_copy_15 : decode cX6_copy 15 = .ok (.invokestatic 47, 3) := by decide +kernel
theorem dX6_copy_18 : decode cX6_copy 18 = .ok (.aload_n 0, 1) := by decide +kernel
theorem dX6_copy_19 : decode cX6_copy 19 = .ok (.aload_n 1, 1) := by decide +kernel
theorem dX6_copy_20 : decode cX6_copy 20 = .ok (.getfield 19, 3) := by decide +kernel
theorem dX6_copy_23 : decode cX6_copy 23 = .ok (.putfield 19, 3) := by decide +kernel
theorem dX6_copy_26 : decode cX6_copy 26 = .ok (.aload_n 0, 1) := by decide +kernel
theorem dX6_copy_27 : decode cX6_copy 27 = .ok (.aload_n 1, 1) := by decide +kernel
theorem dX6_copy_28 : decode cX6_copy 28 = .ok (.getfield 15, 3) := by decide +kernel
theorem dX6_copy_31 : decode cX6_copy 31 = .ok (.putfield 15, 3) := by decide +kernel
theorem dX6_copy_34 : decode cX6_copy 34 = .ok (.aload_n 0, 1) := by decide +kernel
theorem dX6_copy_35 : decode cX6_copy 35 = .ok (.aload_n 1, 1) := by decide +kernel
theorem dX6_copy_36 : decode cX6_copy 36 = .ok (.getfield 53, 3) := by decide +kernel
theorem dX6_copy_39 : decode cX6_copy 39 = .ok (.putfield 53, 3) := by decide +kernel
theorem dX6_copy_42 : decode cX6_copy 42 = .ok (.aload_n 0, 1) := by decide +kernel
theorem dX6_copy_43 : decode cX6_copy 43 = .ok (.aload_n 1, 1) := by decide +kernel
theorem dX6_copy_44 : decode cX6_copy 44 = .ok (.getfield 56, 3) := by decide +kernel
theorem dX6_copy_47 : decode cX6_copy 47 = .ok (.putfield 56, 3) := by decide +kernel
theorem dX6_copy_50 : decode cX6_copy 50 = .ok (.aload_n 0, 1) := by decide +kernel
theorem dX6_copy_51 : decode cX6_copy 51 = .ok (.aload_n 1, 1) := by decide +kernel
theorem dX6_copy_52 : decode cX6_copy 52 = .ok (.getfield 59, 3) := by decide +kernel
theorem dX6_copy_55 : decode cX6_copy 55 = .ok (.putfield 59, 3) := by decide +kernel
theorem dX6_copy_58 : decode cX6_copy 58 = .ok (.aload_n 0, 1) := by decide +kernel
theorem dX6_copy_59 : decode cX6_copy 59 = .ok (.aload_n 1, 1) := by decide +kernel
theorem dX6_copy_60 : decode cX6_copy 60 = .ok (.getfield 62, 3) := by decide +kernel
theorem dX6_copy_63 : decode cX6_copy 63 = .ok (.putfield 62, 3) := by decide +kernel
theorem dX6_copy_66 : decode cX6_copy 66 = .ok (.aload_n 0, 1) := by decide +kernel
theorem dX6_copy_67 : decode cX6_copy 67 = .ok (.aload_n 1, 1) := by decide +kernel
theorem dX6_copy_68 : decode cX6_copy 68 = .ok (.getfield 43, 3) := by decide +kernel
theorem dX6_copy_71 : decode cX6_copy 71 = .ok (.putfield 43, 3) := by decide +kernel
theorem dX6_copy_74 : decode cX6_copy 74 = .ok (.aload_n 0, 1) := by decide +kernel
theorem dX6_copy_75 : decode cX6_copy 75 = .ok (.aload_n 1, 1) := by decide +kernel
theorem dX6_copy_76 : decode cX6_copy 76 = .ok (.getfield 65, 3) := by decide +kernel
theorem dX6_copy_79 : decode cX6_copy 79 = .ok (.putfield 65, 3) := by decide +kernel
theorem dX6_copy_82 : decode cX6_copy 82 = .ok (.return_, 1) := by decide +kernel
theorem dX7_init_0 : decode cX7_init 0 = .ok (.aload_n 0, 1) := by decide +kernel
theorem dX7_init_1 : decode cX7_init 1 = .ok (.invokespecial 3, 3) := by decide +kernel
theorem dX7_init_4 : decode cX7_init 4 = .ok (.aload_n 0, 1) := by decide +kernel
theorem dX7_init_5 : decode cX7_init 5 = .ok (.aload_n 1, 1) := by decide +kernel
theorem dX7_init_6 : decode cX7_init 6 = .ok (.putfield 9, 3) := by decide +kernel
theorem dX7_init_9 : decode cX7_init 9 = .ok (.aload_n 0, 1) := by decide +kernel
theorem dX7_init_10 : decode cX7_init 10 = .ok (.sipush 196, 3) := by decide +kernel
theorem dX7_init_13 : decode cX7_init 13 = .ok (.newarray .int, 2) := by decide +kernel
theorem dX7_init_15 : decode cX7_init 15 = .ok (.putfield 15, 3) := by decide +kernel
theorem dX7_init_18 : decode cX7_init 18 = .ok (.aload_n 0, 1) := by decide +kernel
theorem dX7_init_19 : decode cX7_init 19 = .ok (.bipush 19, 2) := by decide +kernel
theorem dX7_init_21 : decode cX7_init 21 = .ok (.newarray .int, 2) := by decide +kernel
theorem dX7_init_23 : decode cX7_init 23 = .ok (.putfield 19, 3) := by decide +kernel
theorem dX7_init_26 : decode cX7_init 26 = .ok (.iconst 1, 1) := by decide +kernel
theorem dX7_init_27 : decode cX7_init 27 = .ok (.istore_n 2, 1) := by decide +kernel
theorem dX7_init_28 : decode cX7_init 28 = .ok (.iload_n 2, 1) := by decide +kernel
theorem dX7_init_29 : decode cX7_init 29 = .ok (.bipush 18, 2) := by decide +kernel
theorem dX7_init_31 : decode cX7_init 31 = .ok (.if_icmp .gt 20, 3) := by decide +kernel
theorem dX7_init_34 : decode cX7_init 34 = .ok (.aload_n 0, 1) := by decide +kernel
theorem dX7_init_35 : decode cX7_init 35 = .ok (.getfield 19, 3) := by decide +kernel
theorem dX7_init_38 : decode cX7_init 38 = .ok (.iload_n 2, 1) := by decide +kernel
theorem dX7_init_39 : decode cX7_init 39 = .ok (.aload_n 0, 1) := by decide +kernel
theorem dX7_init_40 : decode cX7_init 40 = .ok (.iload_n 2, 1) := by decide +kernel
theorem dX7_init_41 : decode cX7_init 41 = .ok (.invokevirtual 22, 3) := by decide +kernel
theorem dX7_init_44 : decode cX7_init 44 = .ok (.iastore, 1) := by decide +kernel
theorem dX7_init_45 : decode cX7_init 45 = .ok (.iinc 2 1, 3) := by decide +kernel
theorem dX7_init_48 : decode cX7_init 48 = .ok (.goto (-20), 3) := by decide +kernel
theorem dX7_init_51 : decode cX7_init 51 = .ok (.return_, 1) := by decide +kernel
theorem dX7_changesForNoGirlsTogether_0 : decode cX7_changesForNoGirlsTogether 0 = .ok (.iconst 0, 1) := by decide +kernel
theorem dX7_changesForNoGirlsTogether_1 : decode cX7_changesForNoGirlsTogether 1 = .ok (.istore_n 1, 1) := by decide +kernel
theorem dX7_changesForNoGirlsTogether_2 : decode cX7_changesForNoGirlsTogether 2 = .ok (.iconst 0, 1) := by decide +kernel
theorem dX7_changesForNoGirlsTogether_3 : decode cX7_changesForNoGirlsTogether 3 = .ok (.istore_n 2, 1) := by decide +kernel
theorem dX7_changesForNoGirlsTogether_4 : decode cX7_changesForNoGirlsTogether 4 = .ok (.iconst 0, 1) := by decide +kernel
theorem dX7_changesForNoGirlsTogether_5 : decode cX7_changesForNoGirlsTogether 5 = .ok (.istore_n 3, 1) := by decide +kernel
theorem dX7_changesForNoGirlsTogether_6 : decode cX7_changesForNoGirlsTogether 6 = .ok (.iload_n 3, 1) := by decide +kernel
theorem dX7_changesForNoGirlsTogether_7 : decode cX7_changesForNoGirlsTogether 7 = .ok (.aload_n 0, 1) := by decide +kernel
theorem dX7_changesForNoGirlsTogether_8 : decode cX7_changesForNoGirlsTogether 8 = .ok (.getfield 9, 3) := by decide +kernel
theorem dX7_changesForNoGirlsTogether_11 : decode cX7_changesForNoGirlsTogether 11 = .ok (.getfield 26, 3) := by decide +kernel
theorem dX7_changesForNoGirlsTogether_14 : decode cX7_changesForNoGirlsTogether 14 = .ok (.getfield 32, 3) := by decide +kernel
theorem dX7_changesForNoGirlsTogether_17 : decode cX7_changesForNoGirlsTogether 17 = .ok (.if_icmp .ge 54, 3) := by decide +kernel
theorem dX7_changesForNoGirlsTogether_20 : decode cX7_changesForNoGirlsTogether 20 = .ok (.aload_n 0, 1) := by decide +kernel
theorem dX7_changesForNoGirlsTogether_21 : decode cX7_changesForNoGirlsTogether 21 = .ok (.getfield 9, 3) := by decide +kernel
theorem dX7_changesForNoGirlsTogether_24 : decode cX7_changesForNoGirlsTogether 24 = .ok (.getfield 26, 3) := by decide +kernel
theorem dX7_changesForNoGirlsTogether_27 : decode cX7_changesForNoGirlsTogether 27 = .ok (.iload_n 3, 1) := by decide +kernel
theorem dX7_changesForNoGirlsTogether_28 : decode cX7_changesForNoGirlsTogether 28 = .ok (.invokevirtual 38, 3) := by decide +kernel
theorem dX7_changesForNoGirlsTogether_31 : decode cX7_changesForNoGirlsTogether 31 = .ok (.ifCond .ne 11, 3) := by decide +kernel
theorem dX7_changesForNoGirlsTogether_34 : decode cX7_changesForNoGirlsTogether 34 = .ok (.iload_n 2, 1) := by decide +kernel
theorem dX7_changesForNoGirlsTogether_35 : decode cX7_changesForNoGirlsTogether 35 = .ok (.ifCond .ne 7, 3) := by decide +kernel
theorem dX7_changesForNoGirlsTogether_38 : decode cX7_changesForNoGirlsTogether 38 = .ok (.iconst 1, 1) := by decide +kernel
theorem dX7_changesForNoGirlsTogether_39 : decode cX7_changesForNoGirlsTogether 39 = .ok (.goto 4, 3) := by decide +kernel
theorem dX7_changesForNoGirlsTogether_42 : decode cX7_changesForNoGirlsTogether 42 = .ok (.iconst 0, 1) := by decide +kernel
theorem dX7_changesForNoGirlsTogether_43 : decode cX7_changesForNoGirlsTogether 43 = .ok (.istore_n 2, 1) := by decide +kernel
theorem dX7_changesForNoGirlsTogether_44 : decode cX7_changesForNoGirlsTogether 44 = .ok (.aload_n 0, 1) := by decide +kernel
theorem dX7_changesForNoGirlsTogether_45 : decode cX7_changesForNoGirlsTogether 45 = .ok (.getfield 9, 3) := by decide +kernel
theorem dX7_changesForNoGirlsTogether_48 : decode cX7_changesForNoGirlsTogether 48 = .ok (.getfield 26, 3) := by decide +kernel
theorem dX7_changesForNoGirlsTogether_51 : decode cX7_changesForNoGirlsTogether 51 = .ok (.iload_n 3, 1) := by decide +kernel
theorem dX7_changesForNoGirlsTogether_52 : decode cX7_changesForNoGirlsTogether 52 = .ok (.invokevirtual 38, 3) := by decide +kernel
theorem dX7_changesForNoGirlsTogether_55 : decode cX7_changesForNoGirlsTogether 55 = .ok (.ifCond .ne 10, 3) := by decide +kernel
theorem dX7_changesForNoGirlsTogether_58 : decode cX7_changesForNoGirlsTogether 58 = .ok (.iload_n 2, 1) := by decide +kernel
theorem dX7_changesForNoGirlsTogether_59 : decode cX7_changesForNoGirlsTogether 59 = .ok (.ifCond .ne 6, 3) := by decide +kernel
theorem dX7_changesForNoGirlsTogether_62 : decode cX7_changesForNoGirlsTogether 62 = .ok (.iinc 1 1, 3) := by decide +kernel
theorem dX7_changesForNoGirlsTogether_65 : decode cX7_changesForNoGirlsTogether 65 = .ok (.iinc 3 1, 3) := by decide +kernel
theorem dX7_changesForNoGirlsTogether_68 : decode cX7_changesForNoGirlsTogether 68 = .ok (.goto (-62), 3) := by decide +kernel
theorem dX7_changesForNoGirlsTogether_71 : decode cX7_changesForNoGirlsTogether 71 = .ok (.iload_n 1, 1) := by decide +kernel
theorem dX7_changesForNoGirlsTogether_72 : decode cX7_changesForNoGirlsTogether 72 = .ok (.ireturn, 1) := by decide +kernel
theorem dX7_changesForTurns_0 : decode cX7_changesForTurns 0 = .ok (.iconst 0, 1) := by decide +kernel
theorem dX7_changesForTurns_1 : decode cX7_changesForTurns 1 = .ok (.istore_n 1, 1) := by decide +kernel
theorem dX7_changesForTurns_2 : decode cX7_changesForTurns 2 = .ok (.iconst 0, 1) := by decide +kernel
theorem dX7_changesForTurns_3 : decode cX7_changesForTurns 3 = .ok (.istore_n 2, 1) := by decide +kernel
theorem dX7_changesForTurns_4 : decode cX7_changesForTurns 4 = .ok (.iload_n 2, 1) := by decide +kernel
theorem dX7_changesForTurns_5 : decode cX7_changesForTurns 5 = .ok (.aload_n 0, 1) := by decide +kernel
theorem dX7_changesForTurns_6 : decode cX7_changesForTurns 6 = .ok (.getfield 9, 3) := by decide +kernel
theorem dX7_changesForTurns_9 : decode cX7_changesForTurns 9 = .ok (.getfield 26, 3) := by decide +kernel
theorem dX7_changesForTurns_12 : decode cX7_changesForTurns 12 = .ok (.getfield 32, 3) := by decide +kernel
theorem dX7_changesForTurns_15 : decode cX7_changesForTurns 15 = .ok (.if_icmp .ge 29, 3) := by decide +kernel
theorem dX7_changesForTurns_18 : decode cX7_changesForTurns 18 = .ok (.aload_n 0, 1) := by decide +kernel
theorem dX7_changesForTurns_19 : decode cX7_changesForTurns 19 = .ok (.getfield 9, 3) := by decide +kernel
theorem dX7_changesForTurns_22 : decode cX7_changesForTurns 22 = .ok (.getfield 26, 3) := by decide +kernel
theorem dX7_changesForTurns_25 : decode cX7_changesForTurns 25 = .ok (.iload_n 2, 1) := by decide +kernel
theorem dX7_changesForTurns_26 : decode cX7_changesForTurns 26 = .ok (.invokevirtual 38, 3) := by decide +kernel
theorem dX7_changesForTurns_29 : decode cX7_changesForTurns 29 = .ok (.iload_n 2, 1) := by decide +kernel
theorem dX7_changesForTurns_30 : decode cX7_changesForTurns 30 = .ok (.iconst 2, 1) := by decide +kernel
theorem dX7_changesForTurns_31 : decode cX7_changesForTurns 31 = .ok (.irem, 1) := by decide +kernel
theorem dX7_changesForTurns_32 : decode cX7_changesForTurns 32 = .ok (.if_icmp .eq 6, 3) := by decide +kernel
theorem dX7_changesForTurns_35 : decode cX7_changesForTurns 35 = .ok (.iinc 1 1, 3) := by decide +kernel
theorem dX7_changesForTurns_38 : decode cX7_changesForTurns 38 = .ok (.iinc 2 1, 3) := by decide +kernel
theorem dX7_changesForTurns_41 : decode cX7_changesForTurns 41 = .ok (.goto (-37), 3) := by decide +kernel
theorem dX7_changesForTurns_44 : decode cX7_changesForTurns 44 = .ok (.iload_n 1, 1) := by decide +kernel
theorem dX7_changesForTurns_45 : decode cX7_changesForTurns 45 = .ok (.aload_n 0, 1) := by decide +kernel
theorem dX7_changesForTurns_46 : decode cX7_changesForTurns 46 = .ok (.getfield 9, 3) := by decide +kernel
theorem dX7_changesForTurns_49 : decode cX7_changesForTurns 49 = .ok (.getfield 26, 3) := by decide +kernel
theorem dX7_changesForTurns_52 : decode cX7_changesForTurns 52 = .ok (.getfield 32, 3) := by decide +kernel
theorem dX7_changesForTurns_55 : decode cX7_changesForTurns 55 = .ok (.iload_n 1, 1) := by decide +kernel
theorem dX7_changesForTurns_56 : decode cX7_changesForTurns 56 = .ok (.isub, 1) := by decide +kernel
theorem dX7_changesForTurns_57 : decode cX7_changesForTurns 57 = .ok (.invokestatic 41, 3) := by decide +kernel
theorem dX7_changesForTurns_60 : decode cX7_changesForTurns 60 = .ok (.ireturn, 1) := by decide +kernel
theorem dX7_rowsSideBySide_0 : decode cX7_rowsSideBySide 0 = .ok (.aload_n 0, 1) := by decide +kernel
theorem dX7_rowsSideBySide_1 : decode cX7_rowsSideBySide 1 = .ok (.getfield 15, 3) := by decide +kernel
theorem dX7_rowsSideBySide_4 : decode cX7_rowsSideBySide 4 = .ok (.iconst 0, 1) := by decide +kernel
theorem dX7_rowsSideBySide_5 : decode cX7_rowsSideBySide 5 = .ok (.invokestatic 47, 3) := by decide +kernel
theorem dX7_rowsSideBySide_8 : decode cX7_rowsSideBySide 8 = .ok (.iconst 0, 1) := by decide +kernel
theorem dX7_rowsSideBySide_9 : decode cX7_rowsSideBySide 9 = .ok (.istore_n 2, 1) := by decide +kernel
theorem dX7_rowsSideBySide_10 : decode cX7_rowsSideBySide 10 = .ok (.iload_n 2, 1) := by decide +kernel
theorem dX7_rowsSideBySide_11 : decode cX7_rowsSideBySide 11 = .ok (.aload_n 0, 1) := by decide +kernel
theorem dX7_rowsSideBySide_12 : decode cX7_rowsSideBySide 12 = .ok (.getfield 9, 3) := by decide +kernel
theorem dX7_rowsSideBySide_15 : decode cX7_rowsSideBySide 15 = .ok (.getfield 53, 3) := by decide +kernel
theorem dX7_rowsSideBySide_18 : decode cX7_rowsSideBySide 18 = .ok (.getfield 32, 3) := by decide +kernel
theorem dX7_rowsSideBySide_21 : decode cX7_rowsSideBySide 21 = .ok (.if_icmp .ge 75, 3) := by decide +kernel
theorem dX7_rowsSideBySide_24 : decode cX7_rowsSideBySide 24 = .ok (.aload_n 0, 1) := by decide +kernel
theorem dX7_rowsSideBySide_25 : decode cX7_rowsSideBySide 25 = .ok (.aload_n 0, 1) := by decide +kernel
theorem dX7_rowsSideBySide_26 : decode cX7_rowsSideBySide 26 = .ok (.getfield 9, 3) := by decide +kernel
theorem dX7_rowsSideBySide_29 : decode cX7_rowsSideBySide 29 = .ok (.getfield 53, 3) := by decide +kernel
theorem dX7_rowsSideBySide_32 : decode cX7_rowsSideBySide 32 = .ok (.iload_n 2, 1) := by decide +kernel
theorem dX7_rowsSideBySide_33 : decode cX7_rowsSideBySide 33 = .ok (.invokevirtual 38, 3) := by decide +kernel
theorem dX7_rowsSideBySide_36 : decode cX7_rowsSideBySide 36 = .ok (.bipush 16, 2) := by decide +kernel
theorem dX7_rowsSideBySide_38 : decode cX7_rowsSideBySide 38 = .ok (.idiv, 1) := by decide +kernel
theorem dX7_rowsSideBySide_39 : decode cX7_rowsSideBySide 39 = .ok (.aload_n 0, 1) := by decide +kernel
theorem dX7_rowsSideBySide_40 : decode cX7_rowsSideBySide 40 = .ok (.getfield 9, 3) := by decide +kernel
theorem dX7_rowsSideBySide_43 : decode cX7_rowsSideBySide 43 = .ok (.getfield 53, 3) := by decide +kernel
theorem dX7_rowsSideBySide_46 : decode cX7_rowsSideBySide 46 = .ok (.iload_n 2, 1) := by decide +kernel
theorem dX7_rowsSideBySide_47 : decode cX7_rowsSideBySide 47 = .ok (.invokevirtual 38, 3) := by decide +kernel
theorem dX7_rowsSideBySide_50 : decode cX7_rowsSideBySide 50 = .ok (.bipush 16, 2) := by decide +kernel
theorem dX7_rowsSideBySide_52 : decode cX7_rowsSideBySide 52 = .ok (.irem, 1) := by decide +kernel
theorem dX7_rowsSideBySide_53 : decode cX7_rowsSideBySide 53 = .ok (.iload_n 1, 1) := by decide +kernel
theorem dX7_rowsSideBySide_54 : decode cX7_rowsSideBySide 54 = .ok (.invokevirtual 56, 3) := by decide +kernel
theorem dX7_rowsSideBySide_57 : decode cX7_rowsSideBySide 57 = .ok (.aload_n 0, 1) := by decide +kernel
theorem dX7_rowsSideBySide_58 : decode cX7_rowsSideBySide 58 = .ok (.aload_n 0, 1) := by decide +kernel
theorem dX7_rowsSideBySide_59 : decode cX7_rowsSideBySide 59 = .ok (.getfield 9, 3) := by decide +kernel
theorem dX7_rowsSideBySide_62 : decode cX7_rowsSideBySide 62 = .ok (.getfield 53, 3) := by decide +kernel
theorem dX7_rowsSideBySide_65 : decode cX7_rowsSideBySide 65 = .ok (.iload_n 2, 1) := by decide +kernel
theorem dX7_rowsSideBySide_66 : decode cX7_rowsSideBySide 66 = .ok (.invokevirtual 38, 3) := by decide +kernel
theorem dX7_rowsSideBySide_69 : decode cX7_rowsSideBySide 69 = .ok (.bipush 16, 2) := by decide +kernel
theorem dX7_rowsSideBySide_71 : decode cX7_rowsSideBySide 71 = .ok (.irem, 1) := by decide +kernel
theorem dX7_rowsSideBySide_72 : decode cX7_rowsSideBySide 72 = .ok (.aload_n 0, 1) := by decide +kernel
theorem dX7_rowsSideBySide_73 : decode cX7_rowsSideBySide 73 = .ok (.getfield 9, 3) := by decide +kernel
theorem dX7_rowsSideBySide_76 : decode cX7_rowsSideBySide 76 = .ok (.getfield 53, 3) := by decide +kernel
theorem dX7_rowsSideBySide_79 : decode cX7_rowsSideBySide 79 = .ok (.iload_n 2, 1) := by decide +kernel
theorem dX7_rowsSideBySide_80 : decode cX7_rowsSideBySide 80 = .ok (.invokevirtual 38, 3) := by decide +kernel
theorem dX7_rowsSideBySide_83 : decode cX7_rowsSideBySide 83 = .ok (.bipush 16, 2) := by decide +kernel
theorem dX7_rowsSideBySide_85 : decode cX7_rowsSideBySide 85 = .ok (.idiv, 1) := by decide +kernel
theorem dX7_rowsSideBySide_86 : decode cX7_rowsSideBySide 86 = .ok (.iload_n 1, 1) := by decide +kernel
theorem dX7_rowsSideBySide_87 : decode cX7_rowsSideBySide 87 = .ok (.invokevirtual 56, 3) := by decide +kernel
theorem dX7_rowsSideBySide_90 : decode cX7_rowsSideBySide 90 = .ok (.iinc 2 1, 3) := by decide +kernel
theorem dX7_rowsSideBySide_93 : decode cX7_rowsSideBySide 93 = .ok (.goto (-83), 3) := by decide +kernel
theorem dX7_rowsSideBySide_96 : decode cX7_rowsSideBySide 96 = .ok (.iconst 0, 1) := by decide +kernel
theorem dX7_rowsSideBySide_97 : decode cX7_rowsSideBySide 97 = .ok (.istore_n 2, 1) := by decide +kernel
theorem dX7_rowsSideBySide_98 : decode cX7_rowsSideBySide 98 = .ok (.iconst 0, 1) := by decide +kernel
theorem dX7_rowsSideBySide_99 : decode cX7_rowsSideBySide 99 = .ok (.istore_n 3, 1) := by decide +kernel
theorem dX7_rowsSideBySide_100 : decode cX7_rowsSideBySide 100 = .ok (.iconst 0, 1) := by decide +kernel
theorem dX7_rowsSideBySide_101 : decode cX7_rowsSideBySide 101 = .ok (.istore 4, 2) := by decide +kernel
theorem dX7_rowsSideBySide_103 : decode cX7_rowsSideBySide 103 = .ok (.iconst 0, 1) := by decide +kernel
theorem dX7_rowsSideBySide_104 : decode cX7_rowsSideBySide 104 = .ok (.istore 5, 2) := by decide +kernel
theorem dX7_rowsSideBySide_106 : decode cX7_rowsSideBySide 106 = .ok (.iconst 0, 1) := by decide +kernel
theorem dX7_rowsSideBySide_107 : decode cX7_rowsSideBySide 107 = .ok (.istore 6, 2) := by decide +kernel
theorem dX7_rowsSideBySide_109 : decode cX7_rowsSideBySide 109 = .ok (.iload 6, 2) := by decide +kernel
theorem dX7_rowsSideBySide_111 : decode cX7_rowsSideBySide 111 = .ok (.iload_n 1, 1) := by decide +kernel
theorem dX7_rowsSideBySide_112 : decode cX7_rowsSideBySide 112 = .ok (.if_icmp .ge 74, 3) := by decide +kernel
theorem dX7_rowsSideBySide_115 : decode cX7_rowsSideBySide 115 = .ok (.aload_n 0, 1) := by decide +kernel
theorem dX7_rowsSideBySide_116 : decode cX7_rowsSideBySide 116 = .ok (.getfield 15, 3) := by decide +kernel
theorem dX7_rowsSideBySide_119 : decode cX7_rowsSideBySide 119 = .ok (.iload 6, 2) := by decide +kernel
theorem dX7_rowsSideBySide_121 : decode cX7_rowsSideBySide 121 = .ok (.iaload, 1) := by decide +kernel
theorem dX7_rowsSideBySide_122 : decode cX7_rowsSideBySide 122 = .ok (.invokestatic 60, 3) := by decide +kernel
theorem dX7_rowsSideBySide_125 : decode cX7_rowsSideBySide 125 = .ok (.istore 7, 2) := by decide +kernel
theorem dX7_rowsSideBySide_127 : decode cX7_rowsSideBySide 127 = .ok (.iload 7, 2) := by decide +kernel
theorem dX7_rowsSideBySide_129 : decode cX7_rowsSideBySide 129 = .ok (.iconst 2, 1) := by decide +kernel
theorem dX7_rowsSideBySide_130 : decode cX7_rowsSideBySide 130 = .ok (.if_icmp .le 5, 3) := by decide +kernel
theorem dX7_rowsSideBySide_133 : decode cX7_rowsSideBySide 133 = .ok (.iconst 0, 1) := by decide +kernel
theorem dX7_rowsSideBySide_134 : decode cX7_rowsSideBySide 134 = .ok (.ireturn, 1) := by decide +kernel
theorem dX7_rowsSideBySide_135 : decode cX7_rowsSideBySide 135 = .ok (.iload 5, 2) := by decide +kernel
theorem dX7_rowsSideBySide_137 : decode cX7_rowsSideBySide 137 = .ok (.iload 7, 2) := by decide +kernel
theorem dX7_rowsSideBySide_139 : decode cX7_rowsSideBySide 139 = .ok (.iadd, 1) := by decide +kernel
theorem dX7_rowsSideBySide_140 : decode cX7_rowsSideBySide 140 = .ok (.istore 5, 2) := by decide +kernel
theorem dX7_rowsSideBySide_142 : decode cX7_rowsSideBySide 142 = .ok (.iload 4, 2) := by decide +kernel
theorem dX7_rowsSideBySide_144 : decode cX7_rowsSideBySide 144 = .ok (.iload 6, 2) := by decide +kernel
theorem dX7_rowsSideBySide_146 : decode cX7_rowsSideBySide 146 = .ok (.ishr, 1) := by decide +kernel
theorem dX7_rowsSideBySide_147 : decode cX7_rowsSideBySide 147 = .ok (.iconst 1, 1) := by decide +kernel
theorem dX7_rowsSideBySide_148 : decode cX7_rowsSideBySide 148 = .ok (.iand, 1) := by decide +kernel
theorem dX7_rowsSideBySide_149 : decode cX7_rowsSideBySide 149 = .ok (.ifCond .ne 31, 3) := by decide +kernel
theorem dX7_rowsSideBySide_152 : decode cX7_rowsSideBySide 152 = .ok (.iload 4, 2) := by decide +kernel
theorem dX7_rowsSideBySide_154 : decode cX7_rowsSideBySide 154 = .ok (.aload_n 0, 1) := by decide +kernel
theorem dX7_rowsSideBySide_155 : decode cX7_rowsSideBySide 155 = .ok (.iload 6, 2) := by decide +kernel
theorem dX7_rowsSideBySide_157 : decode cX7_rowsSideBySide 157 = .ok (.iload_n 1, 1) := by decide +kernel
theorem dX7_rowsSideBySide_158 : decode cX7_rowsSideBySide 158 = .ok (.invokevirtual 65, 3) := by decide +kernel
theorem dX7_rowsSideBySide_161 : decode cX7_rowsSideBySide 161 = .ok (.ior, 1) := by decide +kernel
theorem dX7_rowsSideBySide_162 : decode cX7_rowsSideBySide 162 = .ok (.istore 4, 2) := by decide +kernel
theorem dX7_rowsSideBySide_164 : decode cX7_rowsSideBySide 164 = .ok (.iinc 2 1, 3) := by decide +kernel
theorem dX7_rowsSideBySide_167 : decode cX7_rowsSideBySide 167 = .ok (.iload_n 3, 1) := by decide +kernel
theorem dX7_rowsSideBySide_168 : decode cX7_rowsSideBySide 168 = .ok (.iload 7, 2) := by decide +kernel
theorem dX7_rowsSideBySide_170 : decode cX7_rowsSideBySide 170 = .ok (.ifCond .le 7, 3) := by decide +kernel
theorem dX7_rowsSideBySide_173 : decode cX7_rowsSideBySide 173 = .ok (.iconst 1, 1) := by decide +kernel
theorem dX7_rowsSideBySide_174 : decode cX7_rowsSideBySide 174 = .ok (.goto 4, 3) := by decide +kernel
theorem dX7_rowsSideBySide_177 : decode cX7_rowsSideBySide 177 = .ok (.iconst 0, 1) := by decide +kernel
theorem dX7_rowsSideBySide_178 : decode cX7_rowsSideBySide 178 = .ok (.iadd, 1) := by decide +kernel
theorem dX7_rowsSideBySide_179 : decode cX7_rowsSideBySide 179 = .ok (.istore_n 3, 1) := by decide +kernel
theorem dX7_rowsSideBySide_180 : decode cX7_rowsSideBySide 180 = .ok (.iinc 6 1, 3) := by decide +kernel
theorem dX7_rowsSideBySide_183 : decode cX7_rowsSideBySide 183 = .ok (.goto (-74), 3) := by decide +kernel
theorem dX7_rowsSideBySide_186 : decode cX7_rowsSideBySide 186 = .ok (.iload 5, 2) := by decide +kernel
theorem dX7_rowsSideBySide_188 : decode cX7_rowsSideBySide 188 = .ok (.iconst 2, 1) := by decide +kernel
theorem dX7_rowsSideBySide_189 : decode cX7_rowsSideBySide 189 = .ok (.idiv, 1) := by decide +kernel
theorem dX7_rowsSideBySide_190 : decode cX7_rowsSideBySide 190 = .ok (.iload_n 1, 1) := by decide +kernel
theorem dX7_rowsSideBySide_191 : decode cX7_rowsSideBySide 191 = .ok (.iload_n 2, 1) := by decide +kernel
theorem dX7_rowsSideBySide_192 : decode cX7_rowsSideBySide 192 = .ok (.isub, 1) := by decide +kernel
theorem dX7_rowsSideBySide_193 : decode cX7_rowsSideBySide 193 = .ok (.if_icmp .ne 12, 3) := by decide +kernel
theorem dX7_rowsSideBySide_196 : decode cX7_rowsSideBySide 196 = .ok (.iload_n 2, 1) := by decide +kernel
theorem dX7_rowsSideBySide_197 : decode cX7_rowsSideBySide 197 = .ok (.invokestatic 68, 3) := by decide +kernel
theorem dX7_rowsSideBySide_200 : decode cX7_rowsSideBySide 200 = .ok (.iload_n 3, 1) := by decide +kernel
theorem dX7_rowsSideBySide_201 : decode cX7_rowsSideBySide 201 = .ok (.ishl, 1) := by decide +kernel
theorem dX7_rowsSideBySide_202 : decode cX7_rowsSideBySide 202 = .ok (.goto 4, 3) := by decide +kernel
theorem dX7_rowsSideBySide_205 : decode cX7_rowsSideBySide 205 = .ok (.iconst 0, 1) := by decide +kernel
theorem dX7_rowsSideBySide_206 : decode cX7_rowsSideBySide 206 = .ok (.ireturn, 1) := by decide +kernel
theorem dX7_rowsBehind_0 : decode cX7_rowsBehind 0 = .ok (.aload_n 0, 1) := by decide +kernel
theorem dX7_rowsBehind_1 : decode cX7_rowsBehind 1 = .ok (.getfield 15, 3) := by decide +kernel
theorem dX7_rowsBehind_4 : decode cX7_rowsBehind 4 = .ok (.iconst 0, 1) := by decide +kernel
theorem dX7_rowsBehind_5 : decode cX7_rowsBehind 5 = .ok (.invokestatic 47, 3) := by decide +kernel
theorem dX7_rowsBehind_8 : decode cX7_rowsBehind 8 = .ok (.iconst 0, 1) := by decide +kernel
theorem dX7_rowsBehind_9 : decode cX7_rowsBehind 9 = .ok (.istore_n 2, 1) := by decide +kernel
theorem dX7_rowsBehind_10 : decode cX7_rowsBehind 10 = .ok (.iload_n 2, 1) := by decide +kernel
theorem dX7_rowsBehind_11 : decode cX7_rowsBehind 11 = .ok (.aload_n 0, 1) := by decide +kernel
theorem dX7_rowsBehind_12 : decode cX7_rowsBehind 12 = .ok (.getfield 9, 3) := by decide +kernel
theorem dX7_rowsBehind_15 : decode cX7_rowsBehind 15 = .ok (.getfield 53, 3) := by decide +kernel
theorem dX7_rowsBehind_18 : decode cX7_rowsBehind 18 = .ok (.getfield 32, 3) := by decide +kernel
theorem dX7_rowsBehind_21 : decode cX7_rowsBehind 21 = .ok (.if_icmp .ge 42, 3) := by decide +kernel
theorem dX7_rowsBehind_24 : decode cX7_rowsBehind 24 = .ok (.aload_n 0, 1) := by decide +kernel
theorem dX7_rowsBehind_25 : decode cX7_rowsBehind 25 = .ok (.aload_n 0, 1) := by decide +kernel
theorem dX7_rowsBehind_26 : decode cX7_rowsBehind 26 = .ok (.getfield 9, 3) := by decide +kernel
theorem dX7_rowsBehind_29 : decode cX7_rowsBehind 29 = .ok (.getfield 53, 3) := by decide +kernel
theorem dX7_rowsBehind_32 : decode cX7_rowsBehind 32 = .ok (.iload_n 2, 1) := by decide +kernel
theorem dX7_rowsBehind_33 : decode cX7_rowsBehind 33 = .ok (.invokevirtual 38, 3) := by decide +kernel
theorem dX7_rowsBehind_36 : decode cX7_rowsBehind 36 = .ok (.bipush 16, 2) := by decide +kernel
theorem dX7_rowsBehind_38 : decode cX7_rowsBehind 38 = .ok (.irem, 1) := by decide +kernel
theorem dX7_rowsBehind_39 : decode cX7_rowsBehind 39 = .ok (.aload_n 0, 1) := by decide +kernel
theorem dX7_rowsBehind_40 : decode cX7_rowsBehind 40 = .ok (.getfield 9, 3) := by decide +kernel
theorem dX7_rowsBehind_43 : decode cX7_rowsBehind 43 = .ok (.getfield 53, 3) := by decide +kernel
theorem dX7_rowsBehind_46 : decode cX7_rowsBehind 46 = .ok (.iload_n 2, 1) := by decide +kernel
theorem dX7_rowsBehind_47 : decode cX7_rowsBehind 47 = .ok (.invokevirtual 38, 3) := by decide +kernel
theorem dX7_rowsBehind_50 : decode cX7_rowsBehind 50 = .ok (.bipush 16, 2) := by decide +kernel
theorem dX7_rowsBehind_52 : decode cX7_rowsBehind 52 = .ok (.idiv, 1) := by decide +kernel
theorem dX7_rowsBehind_53 : decode cX7_rowsBehind 53 = .ok (.iload_n 1, 1) := by decide +kernel
theorem dX7_rowsBehind_54 : decode cX7_rowsBehind 54 = .ok (.invokevirtual 56, 3) := by decide +kernel
theorem dX7_rowsBehind_57 : decode cX7_rowsBehind 57 = .ok (.iinc 2 1, 3) := by decide +kernel
theorem dX7_rowsBehind_60 : decode cX7_rowsBehind 60 = .ok (.goto (-50), 3) := by decide +kernel
theorem dX7_rowsBehind_63 : decode cX7_rowsBehind 63 = .ok (.iconst 0, 1) := by decide +kernel
theorem dX7_rowsBehind_64 : decode cX7_rowsBehind 64 = .ok (.istore_n 2, 1) := by decide +kernel
theorem dX7_rowsBehind_65 : decode cX7_rowsBehind 65 = .ok (.iconst 0, 1) := by decide +kernel
theorem dX7_rowsBehind_66 : decode cX7_rowsBehind 66 = .ok (.istore_n 3, 1) := by decide +kernel
theorem dX7_rowsBehind_67 : decode cX7_rowsBehind 67 = .ok (.iconst 0, 1) := by decide +kernel
theorem dX7_rowsBehind_68 : decode cX7_rowsBehind 68 = .ok (.istore 4, 2) := by decide +kernel
theorem dX7_rowsBehind_70 : decode cX7_rowsBehind 70 = .ok (.iload 4, 2) := by decide +kernel
theorem dX7_rowsBehind_72 : decode cX7_rowsBehind 72 = .ok (.iload_n 1, 1) := by decide +kernel
theorem dX7_rowsBehind_73 : decode cX7_rowsBehind 73 = .ok (.if_icmp .ge 59, 3) := by decide +kernel
theorem dX7_rowsBehind_76 : decode cX7_rowsBehind 76 = .ok (.aload_n 0, 1) := by decide +kernel
theorem dX7_rowsBehind_77 : decode cX7_rowsBehind 77 = .ok (.getfield 15, 3) := by decide +kernel
theorem dX7_rowsBehind_80 : decode cX7_rowsBehind 80 = .ok (.iload 4, 2) := by decide +kernel
theorem dX7_rowsBehind_82 : decode cX7_rowsBehind 82 = .ok (.iaload, 1) := by decide +kernel
theorem dX7_rowsBehind_83 : decode cX7_rowsBehind 83 = .ok (.istore 5, 2) := by decide +kernel
theorem dX7_rowsBehind_85 : decode cX7_rowsBehind 85 = .ok (.iload 5, 2) := by decide +kernel
theorem dX7_rowsBehind_87 : decode cX7_rowsBehind 87 = .ok (.invokestatic 60, 3) := by decide +kernel
theorem dX7_rowsBehind_90 : decode cX7_rowsBehind 90 = .ok (.iconst 1, 1) := by decide +kernel
theorem dX7_rowsBehind_91 : decode cX7_rowsBehind 91 = .ok (.if_icmp .gt 20, 3) := by decide +kernel
theorem dX7_rowsBehind_94 : decode cX7_rowsBehind 94 = .ok (.iload_n 3, 1) := by decide +kernel
theorem dX7_rowsBehind_95 : decode cX7_rowsBehind 95 = .ok (.iload 5, 2) := by decide +kernel
theorem dX7_rowsBehind_97 : decode cX7_rowsBehind 97 = .ok (.iand, 1) := by decide +kernel
theorem dX7_rowsBehind_98 : decode cX7_rowsBehind 98 = .ok (.ifCond .ne 13, 3) := by decide +kernel
theorem dX7_rowsBehind_101 : decode cX7_rowsBehind 101 = .ok (.aload_n 0, 1) := by decide +kernel
theorem dX7_rowsBehind_102 : decode cX7_rowsBehind 102 = .ok (.iload 4, 2) := by decide +kernel
theorem dX7_rowsBehind_104 : decode cX7_rowsBehind 104 = .ok (.iload_n 1, 1) := by decide +kernel
theorem dX7_rowsBehind_105 : decode cX7_rowsBehind 105 = .ok (.invokevirtual 71, 3) := by decide +kernel
theorem dX7_rowsBehind_108 : decode cX7_rowsBehind 108 = .ok (.ifCond .eq 5, 3) := by decide +kernel
theorem dX7_rowsBehind_111 : decode cX7_rowsBehind 111 = .ok (.iconst 0, 1) := by decide +kernel
theorem dX7_rowsBehind_112 : decode cX7_rowsBehind 112 = .ok (.ireturn, 1) := by decide +kernel
theorem dX7_rowsBehind_113 : decode cX7_rowsBehind 113 = .ok (.iload_n 3, 1) := by decide +kernel
theorem dX7_rowsBehind_114 : decode cX7_rowsBehind 114 = .ok (.iload 5, 2) := by decide +kernel
theorem dX7_rowsBehind_116 : decode cX7_rowsBehind 116 = .ok (.ior, 1) := by decide +kernel
theorem dX7_rowsBehind_117 : decode cX7_rowsBehind 117 = .ok (.istore_n 3, 1) := by decide +kernel
theorem dX7_rowsBehind_118 : decode cX7_rowsBehind 118 = .ok (.iload_n 2, 1) := by decide +kernel
theorem dX7_rowsBehind_119 : decode cX7_rowsBehind 119 = .ok (.iload 5, 2) := by decide +kernel
theorem dX7_rowsBehind_121 : decode cX7_rowsBehind 121 = .ok (.invokestatic 60, 3) := by decide +kernel
theorem dX7_rowsBehind_124 : decode cX7_rowsBehind 124 = .ok (.iadd, 1) := by decide +kernel
theorem dX7_rowsBehind_125 : decode cX7_rowsBehind 125 = .ok (.istore_n 2, 1) := by decide +kernel
theorem dX7_rowsBehind_126 : decode cX7_rowsBehind 126 = .ok (.iinc 4 1, 3) := by decide +kernel
theorem dX7_rowsBehind_129 : decode cX7_rowsBehind 129 = .ok (.goto (-59), 3) := by decide +kernel
theorem dX7_rowsBehind_132 : decode cX7_rowsBehind 132 = .ok (.iload_n 1, 1) := by decide +kernel
theorem dX7_rowsBehind_133 : decode cX7_rowsBehind 133 = .ok (.iload_n 2, 1) := by decide +kernel
theorem dX7_rowsBehind_134 : decode cX7_rowsBehind 134 = .ok (.isub, 1) := by decide +kernel
theorem dX7_rowsBehind_135 : decode cX7_rowsBehind 135 = .ok (.invokestatic 68, 3) := by decide +kernel
theorem dX7_rowsBehind_138 : decode cX7_rowsBehind 138 = .ok (.ireturn, 1) := by decide +kernel
theorem dX7_join_0 : decode cX7_join 0 = .ok (.iload_n 1, 1) := by decide +kernel
theorem dX7_join_1 : decode cX7_join 1 = .ok (.ifCond .lt 29, 3) := by decide +kernel
theorem dX7_join_4 : decode cX7_join 4 = .ok (.iload_n 1, 1) := by decide +kernel
theorem dX7_join_5 : decode cX7_join 5 = .ok (.iload_n 3, 1) := by decide +kernel
theorem dX7_join_6 : decode cX7_join 6 = .ok (.if_icmp .ge 24, 3) := by decide +kernel
theorem dX7_join_9 : decode cX7_join 9 = .ok (.iload_n 2, 1) := by decide +kernel
theorem dX7_join_10 : decode cX7_join 10 = .ok (.ifCond .lt 20, 3) := by decide +kernel
theorem dX7_join_13 : decode cX7_join 13 = .ok (.iload_n 2, 1) := by decide +kernel
theorem dX7_join_14 : decode cX7_join 14 = .ok (.iload_n 3, 1) := by decide +kernel
theorem dX7_join_15 : decode cX7_join 15 = .ok (.if_icmp .ge 15, 3) := by decide +kernel
theorem dX7_join_18 : decode cX7_join 18 = .ok (.aload_n 0, 1) := by decide +kernel
theorem dX7_join_19 : decode cX7_join 19 = .ok (.getfield 15, 3) := by decide +kernel
theorem dX7_join_22 : decode cX7_join 22 = .ok (.iload_n 1, 1) := by decide +kernel
theorem dX7_join_23 : decode cX7_join 23 = .ok (.dup2, 1) := by decide +kernel
theorem dX7_join_24 : decode cX7_join 24 = .ok (.iaload, 1) := by decide +kernel
theorem dX7_join_25 : decode cX7_join 25 = .ok (.iconst 1, 1) := by decide +kernel
theorem dX7_join_26 : decode cX7_join 26 = .ok (.iload_n 2, 1) := by decide +kernel
theorem dX7_join_27 : decode cX7_join 27 = .ok (.ishl, 1) := by decide +kernel
theorem dX7_join_28 : decode cX7_join 28 = .ok (.ior, 1) := by decide +kernel
theorem dX7_join_29 : decode cX7_join 29 = .ok (.iastore, 1) := by decide +kernel
theorem dX7_join_30 : decode cX7_join 30 = .ok (.return_, 1) := by decide +kernel
theorem dX7_groupOf_0 : decode cX7_groupOf 0 = .ok (.iconst 1, 1) := by decide +kernel
theorem dX7_groupOf_1 : decode cX7_groupOf 1 = .ok (.iload_n 1, 1) := by decide +kernel
theorem dX7_groupOf_2 : decode cX7_groupOf 2 = .ok (.ishl, 1) := by decide +kernel
theorem dX7_groupOf_3 : decode cX7_groupOf 3 = .ok (.istore_n 3, 1) := by decide +kernel
theorem dX7_groupOf_4 : decode cX7_groupOf 4 = .ok (.iconst 0, 1) := by decide +kernel
theorem dX7_groupOf_5 : decode cX7_groupOf 5 = .ok (.istore 4, 2) := by decide +kernel
theorem dX7_groupOf_7 : decode cX7_groupOf 7 = .ok (.iload 4, 2) := by decide +kernel
theorem dX7_groupOf_9 : decode cX7_groupOf 9 = .ok (.iload_n 2, 1) := by decide +kernel
theorem dX7_groupOf_10 : decode cX7_groupOf 10 = .ok (.if_icmp .ge 44, 3) := by decide +kernel
theorem dX7_groupOf_13 : decode cX7_groupOf 13 = .ok (.iconst 0, 1) := by decide +kernel
theorem dX7_groupOf_14 : decode cX7_groupOf 14 = .ok (.istore 5, 2) := by decide +kernel
theorem dX7_groupOf_16 : decode cX7_groupOf 16 = .ok (.iload 5, 2) := by decide +kernel
theorem dX7_groupOf_18 : decode cX7_groupOf 18 = .ok (.iload_n 2, 1) := by decide +kernel
theorem dX7_groupOf_19 : decode cX7_groupOf 19 = .ok (.if_icmp .ge 29, 3) := by decide +kernel
theorem dX7_groupOf_22 : decode cX7_groupOf 22 = .ok (.iload_n 3, 1) := by decide +kernel
theorem dX7_groupOf_23 : decode cX7_groupOf 23 = .ok (.iload 5, 2) := by decide +kernel
theorem dX7_groupOf_25 : decode cX7_groupOf 25 = .ok (.ishr, 1) := by decide +kernel
theorem dX7_groupOf_26 : decode cX7_groupOf 26 = .ok (.iconst 1, 1) := by decide +kernel
theorem dX7_groupOf_27 : decode cX7_groupOf 27 = .ok (.iand, 1) := by decide +kernel
theorem dX7_groupOf_28 : decode cX7_groupOf 28 = .ok (.iconst 1, 1) := by decide +kernel
theorem dX7_groupOf_29 : decode cX7_groupOf 29 = .ok (.if_icmp .ne 13, 3) := by decide +kernel
theorem dX7_groupOf_32 : decode cX7_groupOf 32 = .ok (.iload_n 3, 1) := by decide +kernel
theorem dX7_groupOf_33 : decode cX7_groupOf 33 = .ok (.aload_n 0, 1) := by decide +kernel
theorem dX7_groupOf_34 : decode cX7_groupOf 34 = .ok (.getfield 15, 3) := by decide +kernel
theorem dX7_groupOf_37 : decode cX7_groupOf 37 = .ok (.iload 5, 2) := by decide +kernel
theorem dX7_groupOf_39 : decode cX7_groupOf 39 = .ok (.iaload, 1) := by decide +kernel
theorem dX7_groupOf_40 : decode cX7_groupOf 40 = .ok (.ior, 1) := by decide +kernel
theorem dX7_groupOf_41 : decode cX7_groupOf 41 = .ok (.istore_n 3, 1) := by decide +kernel
theorem dX7_groupOf_42 : decode cX7_groupOf 42 = .ok (.iinc 5 1, 3) := by decide +kernel
theorem dX7_groupOf_45 : decode cX7_groupOf 45 = .ok (.goto (-29), 3) := by decide +kernel
theorem dX7_groupOf_48 : decode cX7_groupOf 48 = .ok (.iinc 4 1, 3) := by decide +kernel
theorem dX7_groupOf_51 : decode cX7_groupOf 51 = .ok (.goto (-44), 3) := by decide +kernel
theorem dX7_groupOf_54 : decode cX7_groupOf 54 = .ok (.iload_n 3, 1) := by decide +kernel
theorem dX7_groupOf_55 : decode cX7_groupOf 55 = .ok (.ireturn, 1) := by decide +kernel
theorem dX7_comesBack_0 : decode cX7_comesBack 0 = .ok (.aload_n 0, 1) := by decide +kernel
theorem dX7_comesBack_1 : decode cX7_comesBack 1 = .ok (.getfield 15, 3) := by decide +kernel
theorem dX7_comesBack_4 : decode cX7_comesBack 4 = .ok (.iload_n 1, 1) := by decide +kernel
theorem dX7_comesBack_5 : decode cX7_comesBack 5 = .ok (.iaload, 1) := by decide +kernel
theorem dX7_comesBack_6 : decode cX7_comesBack 6 = .ok (.istore_n 3, 1) := by decide +kernel
theorem dX7_comesBack_7 : decode cX7_comesBack 7 = .ok (.iconst 0, 1) := by decide +kernel
theorem dX7_comesBack_8 : decode cX7_comesBack 8 = .ok (.istore 4, 2) := by decide +kernel
theorem dX7_comesBack_10 : decode cX7_comesBack 10 = .ok (.iload 4, 2) := by decide +kernel
theorem dX7_comesBack_12 : decode cX7_comesBack 12 = .ok (.iload_n 2, 1) := by decide +kernel
theorem dX7_comesBack_13 : decode cX7_comesBack 13 = .ok (.if_icmp .ge 44, 3) := by decide +kernel
theorem dX7_comesBack_16 : decode cX7_comesBack 16 = .ok (.iconst 0, 1) := by decide +kernel
theorem dX7_comesBack_17 : decode cX7_comesBack 17 = .ok (.istore 5, 2) := by decide +kernel
theorem dX7_comesBack_19 : decode cX7_comesBack 19 = .ok (.iload 5, 2) := by decide +kernel
theorem dX7_comesBack_21 : decode cX7_comesBack 21 = .ok (.iload_n 2, 1) := by decide +kernel
theorem dX7_comesBack_22 : decode cX7_comesBack 22 = .ok (.if_icmp .ge 29, 3) := by decide +kernel
theorem dX7_comesBack_25 : decode cX7_comesBack 25 = .ok (.iload_n 3, 1) := by decide +kernel
theorem dX7_comesBack_26 : decode cX7_comesBack 26 = .ok (.iload 5, 2) := by decide +kernel
theorem dX7_comesBack_28 : decode cX7_comesBack 28 = .ok (.ishr, 1) := by decide +kernel
theorem dX7_comesBack_29 : decode cX7_comesBack 29 = .ok (.iconst 1, 1) := by decide +kernel
theorem dX7_comesBack_30 : decode cX7_comesBack 30 = .ok (.iand, 1) := by decide +kernel
theorem dX7_comesBack_31 : decode cX7_comesBack 31 = .ok (.iconst 1, 1) := by decide +kernel
theorem dX7_comesBack_32 : decode cX7_comesBack 32 = .ok (.if_icmp .ne 13, 3) := by decide +kernel
theorem dX7_comesBack_35 : decode cX7_comesBack 35 = .ok (.iload_n 3, 1) := by decide +kernel
theorem dX7_comesBack_36 : decode cX7_comesBack 36 = .ok (.aload_n 0, 1) := by decide +kernel
theorem dX7_comesBack_37 : decode cX7_comesBack 37 = .ok (.getfield 15, 3) := by decide +kernel
theorem dX7_comesBack_40 : decode cX7_comesBack 40 = .ok (.iload 5, 2) := by decide +kernel
theorem dX7_comesBack_42 : decode cX7_comesBack 42 = .ok (.iaload, 1) := by decide +kernel
theorem dX7_comesBack_43 : decode cX7_comesBack 43 = .ok (.ior, 1) := by decide +kernel
theorem dX7_comesBack_44 : decode cX7_comesBack 44 = .ok (.istore_n 3, 1) := by decide +kernel
theorem dX7_comesBack_45 : decode cX7_comesBack 45 = .ok (.iinc 5 1, 3) := by decide +kernel
theorem dX7_comesBack_48 : decode cX7_comesBack 48 = .ok (.goto (-29), 3) := by decide +kernel
theorem dX7_comesBack_51 : decode cX7_comesBack 51 = .ok (.iinc 4 1, 3) := by decide +kernel
theorem dX7_comesBack_54 : decode cX7_comesBack 54 = .ok (.goto (-44), 3) := by decide +kernel
theorem dX7_comesBack_57 : decode cX7_comesBack 57 = .ok (.iload_n 3, 1) := by decide +kernel
theorem dX7_comesBack_58 : decode cX7_comesBack 58 = .ok (.iload_n 1, 1) := by decide +kernel
theorem dX7_comesBack_59 : decode cX7_comesBack 59 = .ok (.ishr, 1) := by decide +kernel
theorem dX7_comesBack_60 : decode cX7_comesBack 60 = .ok (.iconst 1, 1) := by decide +kernel
theorem dX7_comesBack_61 : decode cX7_comesBack 61 = .ok (.iand, 1) := by decide +kernel
theorem dX7_comesBack_62 : decode cX7_comesBack 62 = .ok (.iconst 1, 1) := by decide +kernel
theorem dX7_comesBack_63 : decode cX7_comesBack 63 = .ok (.if_icmp .ne 7, 3) := by decide +kernel
theorem dX7_comesBack_66 : decode cX7_comesBack 66 = .ok (.iconst 1, 1) := by decide +kernel
theorem dX7_comesBack_67 : decode cX7_comesBack 67 = .ok (.goto 4, 3) := by decide +kernel
theorem dX7_comesBack_70 : decode cX7_comesBack 70 = .ok (.iconst 0, 1) := by decide +kernel
theorem dX7_comesBack_71 : decode cX7_comesBack 71 = .ok (.ireturn, 1) := by decide +kernel
theorem dX7_factorial_0 : decode cX7_factorial 0 = .ok (.iconst 1, 1) := by decide +kernel
theorem dX7_factorial_1 : decode cX7_factorial 1 = .ok (.istore_n 1, 1) := by decide +kernel
theorem dX7_factorial_2 : decode cX7_factorial 2 = .ok (.iconst 2, 1) := by decide +kernel
theorem dX7_factorial_3 : decode cX7_factorial 3 = .ok (.istore_n 2, 1) := by decide +kernel
theorem dX7_factorial_4 : decode cX7_factorial 4 = .ok (.iload_n 2, 1) := by decide +kernel
theorem dX7_factorial_5 : decode cX7_factorial 5 = .ok (.iload_n 0, 1) := by decide +kernel
theorem dX7_factorial_6 : decode cX7_factorial 6 = .ok (.if_icmp .gt 13, 3) := by decide +kernel
theorem dX7_factorial_9 : decode cX7_factorial 9 = .ok (.iload_n 1, 1) := by decide +kernel
theorem dX7_factorial_10 : decode cX7_factorial 10 = .ok (.iload_n 2, 1) := by decide +kernel
theorem dX7_factorial_11 : decode cX7_factorial 11 = .ok (.imul, 1) := by decide +kernel
theorem dX7_factorial_12 : decode cX7_factorial 12 = .ok (.istore_n 1, 1) := by decide +kernel
theorem dX7_factorial_13 : decode cX7_factorial 13 = .ok (.iinc 2 1, 3) := by decide +kernel
theorem dX7_factorial_16 : decode cX7_factorial 16 = .ok (.goto (-12), 3) := by decide +kernel
theorem dX7_factorial_19 : decode cX7_factorial 19 = .ok (.iload_n 1, 1) := by decide +kernel
theorem dX7_factorial_20 : decode cX7_factorial 20 = .ok (.ireturn, 1) := by decide +kernel
theorem dX7_pushAll_0 : decode cX7_pushAll 0 = .ok (.aload_n 0, 1) := by decide +kernel
theorem dX7_pushAll_1 : decode cX7_pushAll 1 = .ok (.getfield 9, 3) := by decide +kernel
theorem dX7_pushAll_4 : decode cX7_pushAll 4 = .ok (.getfield 75, 3) := by decide +kernel
theorem dX7_pushAll_7 : decode cX7_pushAll 7 = .ok (.getfield 32, 3) := by decide +kernel
theorem dX7_pushAll_10 : decode cX7_pushAll 10 = .ok (.istore_n 1, 1) := by decide +kernel
theorem dX7_pushAll_11 : decode cX7_pushAll 11 = .ok (.iconst 0, 1) := by decide +kernel
theorem dX7_pushAll_12 : decode cX7_pushAll 12 = .ok (.istore_n 2, 1) := by decide +kernel
theorem dX7_pushAll_13 : decode cX7_pushAll 13 = .ok (.iload_n 2, 1) := by decide +kernel
theorem dX7_pushAll_14 : decode cX7_pushAll 14 = .ok (.iload_n 1, 1) := by decide +kernel
theorem dX7_pushAll_15 : decode cX7_pushAll 15 = .ok (.if_icmp .ge 26, 3) := by decide +kernel
theorem dX7_pushAll_18 : decode cX7_pushAll 18 = .ok (.aload_n 0, 1) := by decide +kernel
theorem dX7_pushAll_19 : decode cX7_pushAll 19 = .ok (.getfield 15, 3) := by decide +kernel
theorem dX7_pushAll_22 : decode cX7_pushAll 22 = .ok (.iload_n 2, 1) := by decide +kernel
theorem dX7_pushAll_23 : decode cX7_pushAll 23 = .ok (.aload_n 0, 1) := by decide +kernel
theorem dX7_pushAll_24 : decode cX7_pushAll 24 = .ok (.getfield 9, 3) := by decide +kernel
theorem dX7_pushAll_27 : decode cX7_pushAll 27 = .ok (.getfield 75, 3) := by decide +kernel
theorem dX7_pushAll_30 : decode cX7_pushAll 30 = .ok (.iload_n 2, 1) := by decide +kernel
theorem dX7_pushAll_31 : decode cX7_pushAll 31 = .ok (.invokevirtual 38, 3) := by decide +kernel
theorem dX7_pushAll_34 : decode cX7_pushAll 34 = .ok (.iastore, 1) := by decide +kernel
theorem dX7_pushAll_35 : decode cX7_pushAll 35 = .ok (.iinc 2 1, 3) := by decide +kernel
theorem dX7_pushAll_38 : decode cX7_pushAll 38 = .ok (.goto (-25), 3) := by decide +kernel
theorem dX7_pushAll_41 : decode cX7_pushAll 41 = .ok (.iconst 0, 1) := by decide +kernel
theorem dX7_pushAll_42 : decode cX7_pushAll 42 = .ok (.istore_n 2, 1) := by decide +kernel
theorem dX7_pushAll_43 : decode cX7_pushAll 43 = .ok (.iconst 1, 1) := by decide +kernel
theorem dX7_pushAll_44 : decode cX7_pushAll 44 = .ok (.istore_n 3, 1) := by decide +kernel
theorem dX7_pushAll_45 : decode cX7_pushAll 45 = .ok (.iconst 0, 1) := by decide +kernel
theorem dX7_pushAll_46 : decode cX7_pushAll 46 = .ok (.istore 4, 2) := by decide +kernel
theorem dX7_pushAll_48 : decode cX7_pushAll 48 = .ok (.iload 4, 2) := by decide +kernel
theorem dX7_pushAll_50 : decode cX7_pushAll 50 = .ok (.ldc 78, 2) := by decide +kernel
theorem dX7_pushAll_52 : decode cX7_pushAll 52 = .ok (.if_icmp .ge 95, 3) := by decide +kernel
theorem dX7_pushAll_55 : decode cX7_pushAll 55 = .ok (.iload_n 3, 1) := by decide +kernel
theorem dX7_pushAll_56 : decode cX7_pushAll 56 = .ok (.ifCond .eq 91, 3) := by decide +kernel
theorem dX7_pushAll_59 : decode cX7_pushAll 59 = .ok (.iconst 0, 1) := by decide +kernel
theorem dX7_pushAll_60 : decode cX7_pushAll 60 = .ok (.istore_n 3, 1) := by decide +kernel
theorem dX7_pushAll_61 : decode cX7_pushAll 61 = .ok (.iconst 0, 1) := by decide +kernel
theorem dX7_pushAll_62 : decode cX7_pushAll 62 = .ok (.istore 5, 2) := by decide +kernel
theorem dX7_pushAll_64 : decode cX7_pushAll 64 = .ok (.iload 5, 2) := by decide +kernel
theorem dX7_pushAll_66 : decode cX7_pushAll 66 = .ok (.iload_n 1, 1) := by decide +kernel
theorem dX7_pushAll_67 : decode cX7_pushAll 67 = .ok (.if_icmp .ge 74, 3) := by decide +kernel
theorem dX7_pushAll_70 : decode cX7_pushAll 70 = .ok (.aload_n 0, 1) := by decide +kernel
theorem dX7_pushAll_71 : decode cX7_pushAll 71 = .ok (.getfield 15, 3) := by decide +kernel
theorem dX7_pushAll_74 : decode cX7_pushAll 74 = .ok (.iload 5, 2) := by decide +kernel
theorem dX7_pushAll_76 : decode cX7_pushAll 76 = .ok (.iaload, 1) := by decide +kernel
theorem dX7_pushAll_77 : decode cX7_pushAll 77 = .ok (.iconst 2, 1) := by decide +kernel
theorem dX7_pushAll_78 : decode cX7_pushAll 78 = .ok (.idiv, 1) := by decide +kernel
theorem dX7_pushAll_79 : decode cX7_pushAll 79 = .ok (.istore 6, 2) := by decide +kernel
theorem dX7_pushAll_81 : decode cX7_pushAll 81 = .ok (.iload_n 3, 1) := by decide +kernel
theorem dX7_pushAll_82 : decode cX7_pushAll 82 = .ok (.ifCond .ne 8, 3) := by decide +kernel
theorem dX7_pushAll_85 : decode cX7_pushAll 85 = .ok (.iload 6, 2) := by decide +kernel
theorem dX7_pushAll_87 : decode cX7_pushAll 87 = .ok (.ifCond .le 7, 3) := by decide +kernel
theorem dX7_pushAll_90 : decode cX7_pushAll 90 = .ok (.iconst 1, 1) := by decide +kernel
theorem dX7_pushAll_91 : decode cX7_pushAll 91 = .ok (.goto 4, 3) := by decide +kernel
theorem dX7_pushAll_94 : decode cX7_pushAll 94 = .ok (.iconst 0, 1) := by decide +kernel
theorem dX7_pushAll_95 : decode cX7_pushAll 95 = .ok (.istore_n 3, 1) := by decide +kernel
theorem dX7_pushAll_96 : decode cX7_pushAll 96 = .ok (.iload_n 2, 1) := by decide +kernel
theorem dX7_pushAll_97 : decode cX7_pushAll 97 = .ok (.iload 6, 2) := by decide +kernel
theorem dX7_pushAll_99 : decode cX7_pushAll 99 = .ok (.iadd, 1) := by decide +kernel
theorem dX7_pushAll_100 : decode cX7_pushAll 100 = .ok (.istore_n 2, 1) := by decide +kernel
theorem dX7_pushAll_101 : decode cX7_pushAll 101 = .ok (.aload_n 0, 1) := by decide +kernel
theorem dX7_pushAll_102 : decode cX7_pushAll 102 = .ok (.iload 5, 2) := by decide +kernel
theorem dX7_pushAll_104 : decode cX7_pushAll 104 = .ok (.bipush (-2), 2) := by decide +kernel
theorem dX7_pushAll_106 : decode cX7_pushAll 106 = .ok (.iload 6, 2) := by decide +kernel
theorem dX7_pushAll_108 : decode cX7_pushAll 108 = .ok (.imul, 1) := by decide +kernel
theorem dX7_pushAll_109 : decode cX7_pushAll 109 = .ok (.iload_n 1, 1) := by decide +kernel
theorem dX7_pushAll_110 : decode cX7_pushAll 110 = .ok (.invokevirtual 79, 3) := by decide +kernel
theorem dX7_pushAll_113 : decode cX7_pushAll 113 = .ok (.aload_n 0, 1) := by decide +kernel
theorem dX7_pushAll_114 : decode cX7_pushAll 114 = .ok (.iload 5, 2) := by decide +kernel
theorem dX7_pushAll_116 : decode cX7_pushAll 116 = .ok (.iconst 1, 1) := by decide +kernel
theorem dX7_pushAll_117 : decode cX7_pushAll 117 = .ok (.isub, 1) := by decide +kernel
theorem dX7_pushAll_118 : decode cX7_pushAll 118 = .ok (.iload 6, 2) := by decide +kernel
theorem dX7_pushAll_120 : decode cX7_pushAll 120 = .ok (.iload_n 1, 1) := by decide +kernel
theorem dX7_pushAll_121 : decode cX7_pushAll 121 = .ok (.invokevirtual 79, 3) := by decide +kernel
theorem dX7_pushAll_124 : decode cX7_pushAll 124 = .ok (.aload_n 0, 1) := by decide +kernel
theorem dX7_pushAll_125 : decode cX7_pushAll 125 = .ok (.iload 5, 2) := by decide +kernel
theorem dX7_pushAll_127 : decode cX7_pushAll 127 = .ok (.iconst 1, 1) := by decide +kernel
theorem dX7_pushAll_128 : decode cX7_pushAll 128 = .ok (.iadd, 1) := by decide +kernel
theorem dX7_pushAll_129 : decode cX7_pushAll 129 = .ok (.iload 6, 2) := by decide +kernel
theorem dX7_pushAll_131 : decode cX7_pushAll 131 = .ok (.iload_n 1, 1) := by decide +kernel
theorem dX7_pushAll_132 : decode cX7_pushAll 132 = .ok (.invokevirtual 79, 3) := by decide +kernel
theorem dX7_pushAll_135 : decode cX7_pushAll 135 = .ok (.iinc 5 1, 3) := by decide +kernel
theorem dX7_pushAll_138 : decode cX7_pushAll 138 = .ok (.goto (-74), 3) := by decide +kernel
theorem dX7_pushAll_141 : decode cX7_pushAll 141 = .ok (.iinc 4 1, 3) := by decide +kernel
theorem dX7_pushAll_144 : decode cX7_pushAll 144 = .ok (.goto (-96), 3) := by decide +kernel
theorem dX7_pushAll_147 : decode cX7_pushAll 147 = .ok (.iload_n 2, 1) := by decide +kernel
theorem dX7_pushAll_148 : decode cX7_pushAll 148 = .ok (.ireturn, 1) := by decide +kernel
theorem dX7_give_0 : decode cX7_give 0 = .ok (.iload_n 1, 1) := by decide +kernel
theorem dX7_give_1 : decode cX7_give 1 = .ok (.ifCond .lt 18, 3) := by decide +kernel
theorem dX7_give_4 : decode cX7_give 4 = .ok (.iload_n 1, 1) := by decide +kernel
theorem dX7_give_5 : decode cX7_give 5 = .ok (.iload_n 3, 1) := by decide +kernel
theorem dX7_give_6 : decode cX7_give 6 = .ok (.if_icmp .ge 13, 3) := by decide +kernel
theorem dX7_give_9 : decode cX7_give 9 = .ok (.aload_n 0, 1) := by decide +kernel
theorem dX7_give_10 : decode cX7_give 10 = .ok (.getfield 15, 3) := by decide +kernel
theorem dX7_give_13 : decode cX7_give 13 = .ok (.iload_n 1, 1) := by decide +kernel
theorem dX7_give_14 : decode cX7_give 14 = .ok (.dup2, 1) := by decide +kernel
theorem dX7_give_15 : decode cX7_give 15 = .ok (.iaload, 1) := by decide +kernel
theorem dX7_give_16 : decode cX7_give 16 = .ok (.iload_n 2, 1) := by decide +kernel
theorem dX7_give_17 : decode cX7_give 17 = .ok (.iadd, 1) := by decide +kernel
theorem dX7_give_18 : decode cX7_give 18 = .ok (.iastore, 1) := by decide +kernel
theorem dX7_give_19 : decode cX7_give 19 = .ok (.return_, 1) := by decide +kernel
theorem dX7_leftWith_0 : decode cX7_leftWith 0 = .ok (.iload_n 1, 1) := by decide +kernel
theorem dX7_leftWith_1 : decode cX7_leftWith 1 = .ok (.ifCond .lt 26, 3) := by decide +kernel
theorem dX7_leftWith_4 : decode cX7_leftWith 4 = .ok (.iload_n 1, 1) := by decide +kernel
theorem dX7_leftWith_5 : decode cX7_leftWith 5 = .ok (.aload_n 0, 1) := by decide +kernel
theorem dX7_leftWith_6 : decode cX7_leftWith 6 = .ok (.getfield 9, 3) := by decide +kernel
theorem dX7_leftWith_9 : decode cX7_leftWith 9 = .ok (.getfield 75, 3) := by decide +kernel
theorem dX7_leftWith_12 : decode cX7_leftWith 12 = .ok (.getfield 32, 3) := by decide +kernel
theorem dX7_leftWith_15 : decode cX7_leftWith 15 = .ok (.if_icmp .ge 12, 3) := by decide +kernel
theorem dX7_leftWith_18 : decode cX7_leftWith 18 = .ok (.aload_n 0, 1) := by decide +kernel
theorem dX7_leftWith_19 : decode cX7_leftWith 19 = .ok (.getfield 15, 3) := by decide +kernel
theorem dX7_leftWith_22 : decode cX7_leftWith 22 = .ok (.iload_n 1, 1) := by decide +kernel
theorem dX7_leftWith_23 : decode cX7_leftWith 23 = .ok (.iaload, 1) := by decide +kernel
theorem dX7_leftWith_24 : decode cX7_leftWith 24 = .ok (.goto 4, 3) := by decide +kernel
theorem dX7_leftWith_27 : decode cX7_leftWith 27 = .ok (.iconst (-1), 1) := by decide +kernel
theorem dX7_leftWith_28 : decode cX7_leftWith 28 = .ok (.ireturn, 1) := by decide +kernel
theorem dX7_kinship_0 : decode cX7_kinship 0 = .ok (.iconst 0, 1) := by decide +kernel
theorem dX7_kinship_1 : decode cX7_kinship 1 = .ok (.istore_n 3, 1) := by decide +kernel
theorem dX7_kinship_2 : decode cX7_kinship 2 = .ok (.iload_n 3, 1) := by decide +kernel
theorem dX7_kinship_3 : decode cX7_kinship 3 = .ok (.iload_n 1, 1) := by decide +kernel
theorem dX7_kinship_4 : decode cX7_kinship 4 = .ok (.if_icmp .gt 134, 3) := by decide +kernel
theorem dX7_kinship_7 : decode cX7_kinship 7 = .ok (.aload_n 0, 1) := by decide +kernel
theorem dX7_kinship_8 : decode cX7_kinship 8 = .ok (.getfield 9, 3) := by decide +kernel
theorem dX7_kinship_11 : decode cX7_kinship 11 = .ok (.getfield 82, 3) := by decide +kernel
theorem dX7_kinship_14 : decode cX7_kinship 14 = .ok (.iload_n 3, 1) := by decide +kernel
theorem dX7_kinship_15 : decode cX7_kinship 15 = .ok (.invokevirtual 38, 3) := by decide +kernel
theorem dX7_kinship_18 : decode cX7_kinship 18 = .ok (.istore 4, 2) := by decide +kernel
theorem dX7_kinship_20 : decode cX7_kinship 20 = .ok (.iload 4, 2) := by decide +kernel
theorem dX7_kinship_22 : decode cX7_kinship 22 = .ok (.bipush 16, 2) := by decide +kernel
theorem dX7_kinship_24 : decode cX7_kinship 24 = .ok (.idiv, 1) := by decide +kernel
theorem dX7_kinship_25 : decode cX7_kinship 25 = .ok (.istore 5, 2) := by decide +kernel
theorem dX7_kinship_27 : decode cX7_kinship 27 = .ok (.iload 4, 2) := by decide +kernel
theorem dX7_kinship_29 : decode cX7_kinship 29 = .ok (.bipush 16, 2) := by decide +kernel
theorem dX7_kinship_31 : decode cX7_kinship 31 = .ok (.irem, 1) := by decide +kernel
theorem dX7_kinship_32 : decode cX7_kinship 32 = .ok (.istore 6, 2) := by decide +kernel
theorem dX7_kinship_34 : decode cX7_kinship 34 = .ok (.iconst 0, 1) := by decide +kernel
theorem dX7_kinship_35 : decode cX7_kinship 35 = .ok (.istore 7, 2) := by decide +kernel
theorem dX7_kinship_37 : decode cX7_kinship 37 = .ok (.iload 7, 2) := by decide +kernel
theorem dX7_kinship_39 : decode cX7_kinship 39 = .ok (.iload_n 3, 1) := by decide +kernel
theorem dX7_kinship_40 : decode cX7_kinship 40 = .ok (.if_icmp .ge 54, 3) := by decide +kernel
theorem dX7_kinship_43 : decode cX7_kinship 43 = .ok (.iload 4, 2) := by decide +kernel
theorem dX7_kinship_45 : decode cX7_kinship 45 = .ok (.iconst (-1), 1) := by decide +kernel
theorem dX7_kinship_46 : decode cX7_kinship 46 = .ok (.if_icmp .ne 7, 3) := by decide +kernel
theorem dX7_kinship_49 : decode cX7_kinship 49 = .ok (.iconst 0, 1) := by decide +kernel
theorem dX7_kinship_50 : decode cX7_kinship 50 = .ok (.goto 22, 3) := by decide +kernel
theorem dX7_kinship_53 : decode cX7_kinship 53 = .ok (.aload_n 0, 1) := by decide +kernel
theorem dX7_kinship_54 : decode cX7_kinship 54 = .ok (.iload 5, 2) := by decide +kernel
theorem dX7_kinship_56 : decode cX7_kinship 56 = .ok (.iload 7, 2) := by decide +kernel
theorem dX7_kinship_58 : decode cX7_kinship 58 = .ok (.invokevirtual 85, 3) := by decide +kernel
theorem dX7_kinship_61 : decode cX7_kinship 61 = .ok (.aload_n 0, 1) := by decide +kernel
theorem dX7_kinship_62 : decode cX7_kinship 62 = .ok (.iload 6, 2) := by decide +kernel
theorem dX7_kinship_64 : decode cX7_kinship 64 = .ok (.iload 7, 2) := by decide +kernel
theorem dX7_kinship_66 : decode cX7_kinship 66 = .ok (.invokevirtual 85, 3) := by decide +kernel
theorem dX7_kinship_69 : decode cX7_kinship 69 = .ok (.iadd, 1) := by decide +kernel
theorem dX7_kinship_70 : decode cX7_kinship 70 = .ok (.iconst 2, 1) := by decide +kernel
theorem dX7_kinship_71 : decode cX7_kinship 71 = .ok (.idiv, 1) := by decide +kernel
theorem dX7_kinship_72 : decode cX7_kinship 72 = .ok (.istore 8, 2) := by decide +kernel
theorem dX7_kinship_74 : decode cX7_kinship 74 = .ok (.aload_n 0, 1) := by decide +kernel
theorem dX7_kinship_75 : decode cX7_kinship 75 = .ok (.getfield 15, 3) := by decide +kernel
theorem dX7_kinship_78 : decode cX7_kinship 78 = .ok (.iload_n 3, 1) := by decide +kernel
theorem dX7_kinship_79 : decode cX7_kinship 79 = .ok (.bipush 14, 2) := by decide +kernel
theorem dX7_kinship_81 : decode cX7_kinship 81 = .ok (.imul, 1) := by decide +kernel
theorem dX7_kinship_82 : decode cX7_kinship 82 = .ok (.iload 7, 2) := by decide +kernel
theorem dX7_kinship_84 : decode cX7_kinship 84 = .ok (.iadd, 1) := by decide +kernel
theorem dX7_kinship_85 : decode cX7_kinship 85 = .ok (.iload 8, 2) := by decide +kernel
theorem dX7_kinship_87 : decode cX7_kinship 87 = .ok (.iastore, 1) := by decide +kernel
theorem dX7_kinship_88 : decode cX7_kinship 88 = .ok (.iinc 7 1, 3) := by decide +kernel
theorem dX7_kinship_91 : decode cX7_kinship 91 = .ok (.goto (-54), 3) := by decide +kernel
theorem dX7_kinship_94 : decode cX7_kinship 94 = .ok (.iload 4, 2) := by decide +kernel
theorem dX7_kinship_96 : decode cX7_kinship 96 = .ok (.iconst (-1), 1) := by decide +kernel
theorem dX7_kinship_97 : decode cX7_kinship 97 = .ok (.if_icmp .ne 7, 3) := by decide +kernel
theorem dX7_kinship_100 : decode cX7_kinship 100 = .ok (.iconst 0, 1) := by decide +kernel
theorem dX7_kinship_101 : decode cX7_kinship 101 = .ok (.goto 13, 3) := by decide +kernel
theorem dX7_kinship_104 : decode cX7_kinship 104 = .ok (.aload_n 0, 1) := by decide +kernel
theorem dX7_kinship_105 : decode cX7_kinship 105 = .ok (.iload 5, 2) := by decide +kernel
theorem dX7_kinship_107 : decode cX7_kinship 107 = .ok (.iload 6, 2) := by decide +kernel
theorem dX7_kinship_109 : decode cX7_kinship 109 = .ok (.invokevirtual 85, 3) := by decide +kernel
theorem dX7_kinship_112 : decode cX7_kinship 112 = .ok (.iconst 2, 1) := by decide +kernel
theorem dX7_kinship_113 : decode cX7_kinship 113 = .ok (.idiv, 1) := by decide +kernel
theorem dX7_kinship_114 : decode cX7_kinship 114 = .ok (.istore 7, 2) := by decide +kernel
theorem dX7_kinship_116 : decode cX7_kinship 116 = .ok (.aload_n 0, 1) := by decide +kernel
theorem dX7_kinship_117 : decode cX7_kinship 117 = .ok (.getfield 15, 3) := by decide +kernel
theorem dX7_kinship_120 : decode cX7_kinship 120 = .ok (.iload_n 3, 1) := by decide +kernel
theorem dX7_kinship_121 : decode cX7_kinship 121 = .ok (.bipush 14, 2) := by decide +kernel
theorem dX7_kinship_123 : decode cX7_kinship 123 = .ok (.imul, 1) := by decide +kernel
theorem dX7_kinship_124 : decode cX7_kinship 124 = .ok (.iload_n 3, 1) := by decide +kernel
theorem dX7_kinship_125 : decode cX7_kinship 125 = .ok (.iadd, 1) := by decide +kernel
theorem dX7_kinship_126 : decode cX7_kinship 126 = .ok (.ldc 88, 2) := by decide +kernel
theorem dX7_kinship_128 : decode cX7_kinship 128 = .ok (.iload 7, 2) := by decide +kernel
theorem dX7_kinship_130 : decode cX7_kinship 130 = .ok (.iadd, 1) := by decide +kernel
theorem dX7_kinship_131 : decode cX7_kinship 131 = .ok (.iastore, 1) := by decide +kernel
theorem dX7_kinship_132 : decode cX7_kinship 132 = .ok (.iinc 3 1, 3) := by decide +kernel
theorem dX7_kinship_135 : decode cX7_kinship 135 = .ok (.goto (-133), 3) := by decide +kernel
theorem dX7_kinship_138 : decode cX7_kinship 138 = .ok (.aload_n 0, 1) := by decide +kernel
theorem dX7_kinship_139 : decode cX7_kinship 139 = .ok (.iload_n 1, 1) := by decide +kernel
theorem dX7_kinship_140 : decode cX7_kinship 140 = .ok (.iload_n 2, 1) := by decide +kernel
theorem dX7_kinship_141 : decode cX7_kinship 141 = .ok (.invokevirtual 85, 3) := by decide +kernel
theorem dX7_kinship_144 : decode cX7_kinship 144 = .ok (.ireturn, 1) := by decide +kernel
theorem dX7_between_0 : decode cX7_between 0 = .ok (.iload_n 1, 1) := by decide +kernel
theorem dX7_between_1 : decode cX7_between 1 = .ok (.iload_n 2, 1) := by decide +kernel
theorem dX7_between_2 : decode cX7_between 2 = .ok (.invokestatic 89, 3) := by decide +kernel
theorem dX7_between_5 : decode cX7_between 5 = .ok (.bipush 14, 2) := by decide +kernel
theorem dX7_between_7 : decode cX7_between 7 = .ok (.imul, 1) := by decide +kernel
theorem dX7_between_8 : decode cX7_between 8 = .ok (.iload_n 1, 1) := by decide +kernel
theorem dX7_between_9 : decode cX7_between 9 = .ok (.iload_n 2, 1) := by decide +kernel
theorem dX7_between_10 : decode cX7_between 10 = .ok (.invokestatic 41, 3) := by decide +kernel
theorem dX7_between_13 : decode cX7_between 13 = .ok (.iadd, 1) := by decide +kernel
theorem dX7_between_14 : decode cX7_between 14 = .ok (.istore_n 3, 1) := by decide +kernel
theorem dX7_between_15 : decode cX7_between 15 = .ok (.iload_n 3, 1) := by decide +kernel
theorem dX7_between_16 : decode cX7_between 16 = .ok (.ifCond .lt 21, 3) := by decide +kernel
theorem dX7_between_19 : decode cX7_between 19 = .ok (.iload_n 3, 1) := by decide +kernel
theorem dX7_between_20 : decode cX7_between 20 = .ok (.aload_n 0, 1) := by decide +kernel
theorem dX7_between_21 : decode cX7_between 21 = .ok (.getfield 15, 3) := by decide +kernel
theorem dX7_between_24 : decode cX7_between 24 = .ok (.arraylength, 1) := by decide +kernel
theorem dX7_between_25 : decode cX7_between 25 = .ok (.if_icmp .ge 12, 3) := by decide +kernel
theorem dX7_between_28 : decode cX7_between 28 = .ok (.aload_n 0, 1) := by decide +kernel
theorem dX7_between_29 : decode cX7_between 29 = .ok (.getfield 15, 3) := by decide +kernel
theorem dX7_between_32 : decode cX7_between 32 = .ok (.iload_n 3, 1) := by decide +kernel
theorem dX7_between_33 : decode cX7_between 33 = .ok (.iaload, 1) := by decide +kernel
theorem dX7_between_34 : decode cX7_between 34 = .ok (.goto 4, 3) := by decide +kernel
theorem dX7_between_37 : decode cX7_between 37 = .ok (.iconst 0, 1) := by decide +kernel
theorem dX7_between_38 : decode cX7_between 38 = .ok (.ireturn, 1) := by decide +kernel
theorem dX7_mostThatMove_0 : decode cX7_mostThatMove 0 = .ok (.iconst 0, 1) := by decide +kernel
theorem dX7_mostThatMove_1 : decode cX7_mostThatMove 1 = .ok (.istore_n 1, 1) := by decide +kernel
theorem dX7_mostThatMove_2 : decode cX7_mostThatMove 2 = .ok (.iconst 0, 1) := by decide +kernel
theorem dX7_mostThatMove_3 : decode cX7_mostThatMove 3 = .ok (.istore_n 2, 1) := by decide +kernel
theorem dX7_mostThatMove_4 : decode cX7_mostThatMove 4 = .ok (.iload_n 2, 1) := by decide +kernel
theorem dX7_mostThatMove_5 : decode cX7_mostThatMove 5 = .ok (.bipush 10, 2) := by decide +kernel
theorem dX7_mostThatMove_7 : decode cX7_mostThatMove 7 = .ok (.if_icmp .ge 72, 3) := by decide +kernel
theorem dX7_mostThatMove_10 : decode cX7_mostThatMove 10 = .ok (.aload_n 0, 1) := by decide +kernel
theorem dX7_mostThatMove_11 : decode cX7_mostThatMove 11 = .ok (.getfield 9, 3) := by decide +kernel
theorem dX7_mostThatMove_14 : decode cX7_mostThatMove 14 = .ok (.getfield 92, 3) := by decide +kernel
theorem dX7_mostThatMove_17 : decode cX7_mostThatMove 17 = .ok (.iload_n 2, 1) := by decide +kernel
theorem dX7_mostThatMove_18 : decode cX7_mostThatMove 18 = .ok (.iaload, 1) := by decide +kernel
theorem dX7_mostThatMove_19 : decode cX7_mostThatMove 19 = .ok (.bipush (-2), 2) := by decide +kernel
theorem dX7_mostThatMove_21 : decode cX7_mostThatMove 21 = .ok (.if_icmp .ne 40, 3) := by decide +kernel
theorem dX7_mostThatMove_24 : decode cX7_mostThatMove 24 = .ok (.iconst 0, 1) := by decide +kernel
theorem dX7_mostThatMove_25 : decode cX7_mostThatMove 25 = .ok (.istore_n 3, 1) := by decide +kernel
theorem dX7_mostThatMove_26 : decode cX7_mostThatMove 26 = .ok (.iconst 0, 1) := by decide +kernel
theorem dX7_mostThatMove_27 : decode cX7_mostThatMove 27 = .ok (.istore 4, 2) := by decide +kernel
theorem dX7_mostThatMove_29 : decode cX7_mostThatMove 29 = .ok (.iload 4, 2) := by decide +kernel
theorem dX7_mostThatMove_31 : decode cX7_mostThatMove 31 = .ok (.bipush 10, 2) := by decide +kernel
theorem dX7_mostThatMove_33 : decode cX7_mostThatMove 33 = .ok (.if_icmp .ge 21, 3) := by decide +kernel
theorem dX7_mostThatMove_36 : decode cX7_mostThatMove 36 = .ok (.iload_n 3, 1) := by decide +kernel
theorem dX7_mostThatMove_37 : decode cX7_mostThatMove 37 = .ok (.aload_n 0, 1) := by decide +kernel
theorem dX7_mostThatMove_38 : decode cX7_mostThatMove 38 = .ok (.iload 4, 2) := by decide +kernel
theorem dX7_mostThatMove_40 : decode cX7_mostThatMove 40 = .ok (.iload_n 2, 1) := by decide +kernel
theorem dX7_mostThatMove_41 : decode cX7_mostThatMove 41 = .ok (.invokevirtual 95, 3) := by decide +kernel
theorem dX7_mostThatMove_44 : decode cX7_mostThatMove 44 = .ok (.invokestatic 89, 3) := by decide +kernel
theorem dX7_mostThatMove_47 : decode cX7_mostThatMove 47 = .ok (.istore_n 3, 1) := by decide +kernel
theorem dX7_mostThatMove_48 : decode cX7_mostThatMove 48 = .ok (.iinc 4 1, 3) := by decide +kernel
theorem dX7_mostThatMove_51 : decode cX7_mostThatMove 51 = .ok (.goto (-22), 3) := by decide +kernel
theorem dX7_mostThatMove_54 : decode cX7_mostThatMove 54 = .ok (.iload_n 1, 1) := by decide +kernel
theorem dX7_mostThatMove_55 : decode cX7_mostThatMove 55 = .ok (.iload_n 3, 1) := by decide +kernel
theorem dX7_mostThatMove_56 : decode cX7_mostThatMove 56 = .ok (.iadd, 1) := by decide +kernel
theorem dX7_mostThatMove_57 : decode cX7_mostThatMove 57 = .ok (.istore_n 1, 1) := by decide +kernel
theorem dX7_mostThatMove_58 : decode cX7_mostThatMove 58 = .ok (.goto 15, 3) := by decide +kernel
theorem dX7_mostThatMove_61 : decode cX7_mostThatMove 61 = .ok (.aload_n 0, 1) := by decide +kernel
theorem dX7_mostThatMove_62 : decode cX7_mostThatMove 62 = .ok (.iload_n 2, 1) := by decide +kernel
theorem dX7_mostThatMove_63 : decode cX7_mostThatMove 63 = .ok (.iload_n 2, 1) := by decide +kernel
theorem dX7_mostThatMove_64 : decode cX7_mostThatMove 64 = .ok (.invokevirtual 95, 3) := by decide +kernel
theorem dX7_mostThatMove_67 : decode cX7_mostThatMove 67 = .ok (.ifCond .le 6, 3) := by decide +kernel
theorem dX7_mostThatMove_70 : decode cX7_mostThatMove 70 = .ok (.iinc 1 1, 3) := by decide +kernel
theorem dX7_mostThatMove_73 : decode cX7_mostThatMove 73 = .ok (.iinc 2 1, 3) := by decide +kernel
theorem dX7_mostThatMove_76 : decode cX7_mostThatMove 76 = .ok (.goto (-72), 3) := by decide +kernel
theorem dX7_mostThatMove_79 : decode cX7_mostThatMove 79 = .ok (.iload_n 1, 1) := by decide +kernel
theorem dX7_mostThatMove_80 : decode cX7_mostThatMove 80 = .ok (.ireturn, 1) := by decide +kernel
theorem dX7_stepsTo_0 : decode cX7_stepsTo 0 = .ok (.iload_n 1, 1) := by decide +kernel
theorem dX7_stepsTo_1 : decode cX7_stepsTo 1 = .ok (.istore_n 3, 1) := by decide +kernel
theorem dX7_stepsTo_2 : decode cX7_stepsTo 2 = .ok (.iconst 1, 1) := by decide +kernel
theorem dX7_stepsTo_3 : decode cX7_stepsTo 3 = .ok (.istore 4, 2) := by decide +kernel
theorem dX7_stepsTo_5 : decode cX7_stepsTo 5 = .ok (.iload 4, 2) := by decide +kernel
theorem dX7_stepsTo_7 : decode cX7_stepsTo 7 = .ok (.bipush 10, 2) := by decide +kernel
theorem dX7_stepsTo_9 : decode cX7_stepsTo 9 = .ok (.if_icmp .gt 39, 3) := by decide +kernel
theorem dX7_stepsTo_12 : decode cX7_stepsTo 12 = .ok (.aload_n 0, 1) := by decide +kernel
theorem dX7_stepsTo_13 : decode cX7_stepsTo 13 = .ok (.getfield 9, 3) := by decide +kernel
theorem dX7_stepsTo_16 : decode cX7_stepsTo 16 = .ok (.getfield 92, 3) := by decide +kernel
theorem dX7_stepsTo_19 : decode cX7_stepsTo 19 = .ok (.iload_n 3, 1) := by decide +kernel
theorem dX7_stepsTo_20 : decode cX7_stepsTo 20 = .ok (.iaload, 1) := by decide +kernel
theorem dX7_stepsTo_21 : decode cX7_stepsTo 21 = .ok (.istore_n 3, 1) := by decide +kernel
theorem dX7_stepsTo_22 : decode cX7_stepsTo 22 = .ok (.iload_n 3, 1) := by decide +kernel
theorem dX7_stepsTo_23 : decode cX7_stepsTo 23 = .ok (.ifCond .lt 9, 3) := by decide +kernel
theorem dX7_stepsTo_26 : decode cX7_stepsTo 26 = .ok (.iload_n 3, 1) := by decide +kernel
theorem dX7_stepsTo_27 : decode cX7_stepsTo 27 = .ok (.bipush 10, 2) := by decide +kernel
theorem dX7_stepsTo_29 : decode cX7_stepsTo 29 = .ok (.if_icmp .lt 5, 3) := by decide +kernel
theorem dX7_stepsTo_32 : decode cX7_stepsTo 32 = .ok (.iconst 0, 1) := by decide +kernel
theorem dX7_stepsTo_33 : decode cX7_stepsTo 33 = .ok (.ireturn, 1) := by decide +kernel
theorem dX7_stepsTo_34 : decode cX7_stepsTo 34 = .ok (.iload_n 3, 1) := by decide +kernel
theorem dX7_stepsTo_35 : decode cX7_stepsTo 35 = .ok (.iload_n 2, 1) := by decide +kernel
theorem dX7_stepsTo_36 : decode cX7_stepsTo 36 = .ok (.if_icmp .ne 6, 3) := by decide +kernel
theorem dX7_stepsTo_39 : decode cX7_stepsTo 39 = .ok (.iload 4, 2) := by decide +kernel
theorem dX7_stepsTo_41 : decode cX7_stepsTo 41 = .ok (.ireturn, 1) := by decide +kernel
theorem dX7_stepsTo_42 : decode cX7_stepsTo 42 = .ok (.iinc 4 1, 3) := by decide +kernel
theorem dX7_stepsTo_45 : decode cX7_stepsTo 45 = .ok (.goto (-40), 3) := by decide +kernel
theorem dX7_stepsTo_48 : decode cX7_stepsTo 48 = .ok (.iconst 0, 1) := by decide +kernel
theorem dX7_stepsTo_49 : decode cX7_stepsTo 49 = .ok (.ireturn, 1) := by decide +kernel
theorem dX7_couplesThatSee_0 : decode cX7_couplesThatSee 0 = .ok (.iconst 0, 1) := by decide +kernel
theorem dX7_couplesThatSee_1 : decode cX7_couplesThatSee 1 = .ok (.istore_n 1, 1) := by decide +kernel
theorem dX7_couplesThatSee_2 : decode cX7_couplesThatSee 2 = .ok (.iconst 0, 1) := by decide +kernel
theorem dX7_couplesThatSee_3 : decode cX7_couplesThatSee 3 = .ok (.istore_n 2, 1) := by decide +kernel
theorem dX7_couplesThatSee_4 : decode cX7_couplesThatSee 4 = .ok (.iload_n 2, 1) := by decide +kernel
theorem dX7_couplesThatSee_5 : decode cX7_couplesThatSee 5 = .ok (.aload_n 0, 1) := by decide +kernel
theorem dX7_couplesThatSee_6 : decode cX7_couplesThatSee 6 = .ok (.getfield 9, 3) := by decide +kernel
theorem dX7_couplesThatSee_9 : decode cX7_couplesThatSee 9 = .ok (.getfield 98, 3) := by decide +kernel
theorem dX7_couplesThatSee_12 : decode cX7_couplesThatSee 12 = .ok (.getfield 32, 3) := by decide +kernel
theorem dX7_couplesThatSee_15 : decode cX7_couplesThatSee 15 = .ok (.if_icmp .ge 17, 3) := by decide +kernel
theorem dX7_couplesThatSee_18 : decode cX7_couplesThatSee 18 = .ok (.iload_n 1, 1) := by decide +kernel
theorem dX7_couplesThatSee_19 : decode cX7_couplesThatSee 19 = .ok (.aload_n 0, 1) := by decide +kernel
theorem dX7_couplesThatSee_20 : decode cX7_couplesThatSee 20 = .ok (.iload_n 2, 1) := by decide +kernel
theorem dX7_couplesThatSee_21 : decode cX7_couplesThatSee 21 = .ok (.invokevirtual 101, 3) := by decide +kernel
theorem dX7_couplesThatSee_24 : decode cX7_couplesThatSee 24 = .ok (.iadd, 1) := by decide +kernel
theorem dX7_couplesThatSee_25 : decode cX7_couplesThatSee 25 = .ok (.istore_n 1, 1) := by decide +kernel
theorem dX7_couplesThatSee_26 : decode cX7_couplesThatSee 26 = .ok (.iinc 2 1, 3) := by decide +kernel
theorem dX7_couplesThatSee_29 : decode cX7_couplesThatSee 29 = .ok (.goto (-25), 3) := by decide +kernel
theorem dX7_couplesThatSee_32 : decode cX7_couplesThatSee 32 = .ok (.iload_n 1, 1) := by decide +kernel
theorem dX7_couplesThatSee_33 : decode cX7_couplesThatSee 33 = .ok (.iconst 2, 1) := by decide +kernel
theorem dX7_couplesThatSee_34 : decode cX7_couplesThatSee 34 = .ok (.idiv, 1) := by decide +kernel
theorem dX7_couplesThatSee_35 : decode cX7_couplesThatSee 35 = .ok (.ireturn, 1) := by decide +kernel
theorem dX7_mostSeen_0 : decode cX7_mostSeen 0 = .ok (.iconst 0, 1) := by decide +kernel
theorem dX7_mostSeen_1 : decode cX7_mostSeen 1 = .ok (.istore_n 1, 1) := by decide +kernel
theorem dX7_mostSeen_2 : decode cX7_mostSeen 2 = .ok (.iconst 0, 1) := by decide +kernel
theorem dX7_mostSeen_3 : decode cX7_mostSeen 3 = .ok (.istore_n 2, 1) := by decide +kernel
theorem dX7_mostSeen_4 : decode cX7_mostSeen 4 = .ok (.iload_n 2, 1) := by decide +kernel
theorem dX7_mostSeen_5 : decode cX7_mostSeen 5 = .ok (.aload_n 0, 1) := by decide +kernel
theorem dX7_mostSeen_6 : decode cX7_mostSeen 6 = .ok (.getfield 9, 3) := by decide +kernel
theorem dX7_mostSeen_9 : decode cX7_mostSeen 9 = .ok (.getfield 98, 3) := by decide +kernel
theorem dX7_mostSeen_12 : decode cX7_mostSeen 12 = .ok (.getfield 32, 3) := by decide +kernel
theorem dX7_mostSeen_15 : decode cX7_mostSeen 15 = .ok (.if_icmp .ge 19, 3) := by decide +kernel
theorem dX7_mostSeen_18 : decode cX7_mostSeen 18 = .ok (.iload_n 1, 1) := by decide +kernel
theorem dX7_mostSeen_19 : decode cX7_mostSeen 19 = .ok (.aload_n 0, 1) := by decide +kernel
theorem dX7_mostSeen_20 : decode cX7_mostSeen 20 = .ok (.iload_n 2, 1) := by decide +kernel
theorem dX7_mostSeen_21 : decode cX7_mostSeen 21 = .ok (.invokevirtual 101, 3) := by decide +kernel
theorem dX7_mostSeen_24 : decode cX7_mostSeen 24 = .ok (.invokestatic 89, 3) := by decide +kernel
theorem dX7_mostSeen_27 : decode cX7_mostSeen 27 = .ok (.istore_n 1, 1) := by decide +kernel
theorem dX7_mostSeen_28 : decode cX7_mostSeen 28 = .ok (.iinc 2 1, 3) := by decide +kernel
theorem dX7_mostSeen_31 : decode cX7_mostSeen 31 = .ok (.goto (-27), 3) := by decide +kernel
theorem dX7_mostSeen_34 : decode cX7_mostSeen 34 = .ok (.iload_n 1, 1) := by decide +kernel
theorem dX7_mostSeen_35 : decode cX7_mostSeen 35 = .ok (.ireturn, 1) := by decide +kernel
theorem dX7_seenFrom_0 : decode cX7_seenFrom 0 = .ok (.iconst 0, 1) := by decide +kernel
theorem dX7_seenFrom_1 : decode cX7_seenFrom 1 = .ok (.istore_n 2, 1) := by decide +kernel
theorem dX7_seenFrom_2 : decode cX7_seenFrom 2 = .ok (.iconst 0, 1) := by decide +kernel
theorem dX7_seenFrom_3 : decode cX7_seenFrom 3 = .ok (.istore_n 3, 1) := by decide +kernel
theorem dX7_seenFrom_4 : decode cX7_seenFrom 4 = .ok (.iload_n 3, 1) := by decide +kernel
theorem dX7_seenFrom_5 : decode cX7_seenFrom 5 = .ok (.aload_n 0, 1) := by decide +kernel
theorem dX7_seenFrom_6 : decode cX7_seenFrom 6 = .ok (.getfield 9, 3) := by decide +kernel
theorem dX7_seenFrom_9 : decode cX7_seenFrom 9 = .ok (.getfield 98, 3) := by decide +kernel
theorem dX7_seenFrom_12 : decode cX7_seenFrom 12 = .ok (.getfield 32, 3) := by decide +kernel
theorem dX7_seenFrom_15 : decode cX7_seenFrom 15 = .ok (.if_icmp .ge 34, 3) := by decide +kernel
theorem dX7_seenFrom_18 : decode cX7_seenFrom 18 = .ok (.iload_n 3, 1) := by decide +kernel
theorem dX7_seenFrom_19 : decode cX7_seenFrom 19 = .ok (.iload_n 1, 1) := by decide +kernel
theorem dX7_seenFrom_20 : decode cX7_seenFrom 20 = .ok (.if_icmp .eq 23, 3) := by decide +kernel
theorem dX7_seenFrom_23 : decode cX7_seenFrom 23 = .ok (.aload_n 0, 1) := by decide +kernel
theorem dX7_seenFrom_24 : decode cX7_seenFrom 24 = .ok (.iload_n 1, 1) := by decide +kernel
theorem dX7_seenFrom_25 : decode cX7_seenFrom 25 = .ok (.iload_n 3, 1) := by decide +kernel
theorem dX7_seenFrom_26 : decode cX7_seenFrom 26 = .ok (.invokestatic 41, 3) := by decide +kernel
theorem dX7_seenFrom_29 : decode cX7_seenFrom 29 = .ok (.iload_n 1, 1) := by decide +kernel
theorem dX7_seenFrom_30 : decode cX7_seenFrom 30 = .ok (.iload_n 3, 1) := by decide +kernel
theorem dX7_seenFrom_31 : decode cX7_seenFrom 31 = .ok (.invokestatic 89, 3) := by decide +kernel
theorem dX7_seenFrom_34 : decode cX7_seenFrom 34 = .ok (.invokevirtual 104, 3) := by decide +kernel
theorem dX7_seenFrom_37 : decode cX7_seenFrom 37 = .ok (.ifCond .eq 6, 3) := by decide +kernel
theorem dX7_seenFrom_40 : decode cX7_seenFrom 40 = .ok (.iinc 2 1, 3) := by decide +kernel
theorem dX7_seenFrom_43 : decode cX7_seenFrom 43 = .ok (.iinc 3 1, 3) := by decide +kernel
theorem dX7_seenFrom_46 : decode cX7_seenFrom 46 = .ok (.goto (-42), 3) := by decide +kernel
theorem dX7_seenFrom_49 : decode cX7_seenFrom 49 = .ok (.iload_n 2, 1) := by decide +kernel
theorem dX7_seenFrom_50 : decode cX7_seenFrom 50 = .ok (.ireturn, 1) := by decide +kernel
theorem dX7_see_0 : decode cX7_see 0 = .ok (.aload_n 0, 1) := by decide +kernel
theorem dX7_see_1 : decode cX7_see 1 = .ok (.getfield 9, 3) := by decide +kernel
theorem dX7_see_4 : decode cX7_see 4 = .ok (.getfield 98, 3) := by decide +kernel
theorem dX7_see_7 : decode cX7_see 7 = .ok (.iload_n 1, 1) := by decide +kernel
theorem dX7_see_8 : decode cX7_see 8 = .ok (.invokevirtual 38, 3) := by decide +kernel
theorem dX7_see_11 : decode cX7_see 11 = .ok (.aload_n 0, 1) := by decide +kernel
theorem dX7_see_12 : decode cX7_see 12 = .ok (.getfield 9, 3) := by decide +kernel
theorem dX7_see_15 : decode cX7_see 15 = .ok (.getfield 98, 3) := by decide +kernel
theorem dX7_see_18 : decode cX7_see 18 = .ok (.iload_n 2, 1) := by decide +kernel
theorem dX7_see_19 : decode cX7_see 19 = .ok (.invokevirtual 38, 3) := by decide +kernel
theorem dX7_see_22 : decode cX7_see 22 = .ok (.invokestatic 41, 3) := by decide +kernel
theorem dX7_see_25 : decode cX7_see 25 = .ok (.istore_n 3, 1) := by decide +kernel
theorem dX7_see_26 : decode cX7_see 26 = .ok (.iload_n 1, 1) := by decide +kernel
theorem dX7_see_27 : decode cX7_see 27 = .ok (.iconst 1, 1) := by decide +kernel
theorem dX7_see_28 : decode cX7_see 28 = .ok (.iadd, 1) := by decide +kernel
theorem dX7_see_29 : decode cX7_see 29 = .ok (.istore 4, 2) := by decide +kernel
theorem dX7_see_31 : decode cX7_see 31 = .ok (.iload 4, 2) := by decide +kernel
theorem dX7_see_33 : decode cX7_see 33 = .ok (.iload_n 2, 1) := by decide +kernel
theorem dX7_see_34 : decode cX7_see 34 = .ok (.if_icmp .ge 27, 3) := by decide +kernel
theorem dX7_see_37 : decode cX7_see 37 = .ok (.aload_n 0, 1) := by decide +kernel
theorem dX7_see_38 : decode cX7_see 38 = .ok (.getfield 9, 3) := by decide +kernel
theorem dX7_see_41 : decode cX7_see 41 = .ok (.getfield 98, 3) := by decide +kernel
theorem dX7_see_44 : decode cX7_see 44 = .ok (.iload 4, 2) := by decide +kernel
theorem dX7_see_46 : decode cX7_see 46 = .ok (.invokevirtual 38, 3) := by decide +kernel
theorem dX7_see_49 : decode cX7_see 49 = .ok (.iload_n 3, 1) := by decide +kernel
theorem dX7_see_50 : decode cX7_see 50 = .ok (.if_icmp .lt 5, 3) := by decide +kernel
theorem dX7_see_53 : decode cX7_see 53 = .ok (.iconst 0, 1) := by decide +kernel
theorem dX7_see_54 : decode cX7_see 54 = .ok (.ireturn, 1) := by decide +kernel
theorem dX7_see_55 : decode cX7_see 55 = .ok (.iinc 4 1, 3) := by decide +kernel
theorem dX7_see_58 : decode cX7_see 58 = .ok (.goto (-27), 3) := by decide +kernel
theorem dX7_see_61 : decode cX7_see 61 = .ok (.iconst 1, 1) := by decide +kernel
theorem dX7_see_62 : decode cX7_see 62 = .ok (.ireturn, 1) := by decide +kernel
theorem dX7_rising_0 : decode cX7_rising 0 = .ok (.iconst 0, 1) := by decide +kernel
theorem dX7_rising_1 : decode cX7_rising 1 = .ok (.istore_n 1, 1) := by decide +kernel
theorem dX7_rising_2 : decode cX7_rising 2 = .ok (.iconst 0, 1) := by decide +kernel
theorem dX7_rising_3 : decode cX7_rising 3 = .ok (.istore_n 2, 1) := by decide +kernel
theorem dX7_rising_4 : decode cX7_rising 4 = .ok (.iload_n 2, 1) := by decide +kernel
theorem dX7_rising_5 : decode cX7_rising 5 = .ok (.aload_n 0, 1) := by decide +kernel
theorem dX7_rising_6 : decode cX7_rising 6 = .ok (.getfield 9, 3) := by decide +kernel
theorem dX7_rising_9 : decode cX7_rising 9 = .ok (.getfield 98, 3) := by decide +kernel
theorem dX7_rising_12 : decode cX7_rising 12 = .ok (.getfield 32, 3) := by decide +kernel
theorem dX7_rising_15 : decode cX7_rising 15 = .ok (.if_icmp .ge 78, 3) := by decide +kernel
theorem dX7_rising_18 : decode cX7_rising 18 = .ok (.aload_n 0, 1) := by decide +kernel
theorem dX7_rising_19 : decode cX7_rising 19 = .ok (.getfield 15, 3) := by decide +kernel
theorem dX7_rising_22 : decode cX7_rising 22 = .ok (.iload_n 2, 1) := by decide +kernel
theorem dX7_rising_23 : decode cX7_rising 23 = .ok (.iconst 1, 1) := by decide +kernel
theorem dX7_rising_24 : decode cX7_rising 24 = .ok (.iastore, 1) := by decide +kernel
theorem dX7_rising_25 : decode cX7_rising 25 = .ok (.iconst 0, 1) := by decide +kernel
theorem dX7_rising_26 : decode cX7_rising 26 = .ok (.istore_n 3, 1) := by decide +kernel
theorem dX7_rising_27 : decode cX7_rising 27 = .ok (.iload_n 3, 1) := by decide +kernel
theorem dX7_rising_28 : decode cX7_rising 28 = .ok (.iload_n 2, 1) := by decide +kernel
theorem dX7_rising_29 : decode cX7_rising 29 = .ok (.if_icmp .ge 49, 3) := by decide +kernel
theorem dX7_rising_32 : decode cX7_rising 32 = .ok (.aload_n 0, 1) := by decide +kernel
theorem dX7_rising_33 : decode cX7_rising 33 = .ok (.getfield 9, 3) := by decide +kernel
theorem dX7_rising_36 : decode cX7_rising 36 = .ok (.getfield 98, 3) := by decide +kernel
theorem dX7_rising_39 : decode cX7_rising 39 = .ok (.iload_n 3, 1) := by decide +kernel
theorem dX7_rising_40 : decode cX7_rising 40 = .ok (.invokevirtual 38, 3) := by decide +kernel
theorem dX7_rising_43 : decode cX7_rising 43 = .ok (.aload_n 0, 1) := by decide +kernel
theorem dX7_rising_44 : decode cX7_rising 44 = .ok (.getfield 9, 3) := by decide +kernel
theorem dX7_rising_47 : decode cX7_rising 47 = .ok (.getfield 98, 3) := by decide +kernel
theorem dX7_rising_50 : decode cX7_rising 50 = .ok (.iload_n 2, 1) := by decide +kernel
theorem dX7_rising_51 : decode cX7_rising 51 = .ok (.invokevirtual 38, 3) := by decide +kernel
theorem dX7_rising_54 : decode cX7_rising 54 = .ok (.if_icmp .ge 18, 3) := by decide +kernel
theorem dX7_rising_57 : decode cX7_rising 57 = .ok (.aload_n 0, 1) := by decide +kernel
theorem dX7_rising_58 : decode cX7_rising 58 = .ok (.getfield 15, 3) := by decide +kernel
theorem dX7_rising_61 : decode cX7_rising 61 = .ok (.iload_n 2, 1) := by decide +kernel
theorem dX7_rising_62 : decode cX7_rising 62 = .ok (.dup2, 1) := by decide +kernel
theorem dX7_rising_63 : decode cX7_rising 63 = .ok (.iaload, 1) := by decide +kernel
theorem dX7_rising_64 : decode cX7_rising 64 = .ok (.aload_n 0, 1) := by decide +kernel
theorem dX7_rising_65 : decode cX7_rising 65 = .ok (.getfield 15, 3) := by decide +kernel
theorem dX7_rising_68 : decode cX7_rising 68 = .ok (.iload_n 3, 1) := by decide +kernel
theorem dX7_rising_69 : decode cX7_rising 69 = .ok (.iaload, 1) := by decide +kernel
theorem dX7_rising_70 : decode cX7_rising 70 = .ok (.iadd, 1) := by decide +kernel
theorem dX7_rising_71 : decode cX7_rising 71 = .ok (.iastore, 1) := by decide +kernel
theorem dX7_rising_72 : decode cX7_rising 72 = .ok (.iinc 3 1, 3) := by decide +kernel
theorem dX7_rising_75 : decode cX7_rising 75 = .ok (.goto (-48), 3) := by decide +kernel
theorem dX7_rising_78 : decode cX7_rising 78 = .ok (.iload_n 1, 1) := by decide +kernel
theorem dX7_rising_79 : decode cX7_rising 79 = .ok (.aload_n 0, 1) := by decide +kernel
theorem dX7_rising_80 : decode cX7_rising 80 = .ok (.getfield 15, 3) := by decide +kernel
theorem dX7_rising_83 : decode cX7_rising 83 = .ok (.iload_n 2, 1) := by decide +kernel
theorem dX7_rising_84 : decode cX7_rising 84 = .ok (.iaload, 1) := by decide +kernel
theorem dX7_rising_85 : decode cX7_rising 85 = .ok (.iadd, 1) := by decide +kernel
theorem dX7_rising_86 : decode cX7_rising 86 = .ok (.istore_n 1, 1) := by decide +kernel
theorem dX7_rising_87 : decode cX7_rising 87 = .ok (.iinc 2 1, 3) := by decide +kernel
theorem dX7_rising_90 : decode cX7_rising 90 = .ok (.goto (-86), 3) := by decide +kernel
theorem dX7_rising_93 : decode cX7_rising 93 = .ok (.iload_n 1, 1) := by decide +kernel
theorem dX7_rising_94 : decode cX7_rising 94 = .ok (.ireturn, 1) := by decide +kernel
theorem dX7_threeTogether_0 : decode cX7_threeTogether 0 = .ok (.iload_n 0, 1) := by decide +kernel
theorem dX7_threeTogether_1 : decode cX7_threeTogether 1 = .ok (.iload_n 0, 1) := by decide +kernel
theorem dX7_threeTogether_2 : decode cX7_threeTogether 2 = .ok (.iconst 1, 1) := by decide +kernel
theorem dX7_threeTogether_3 : decode cX7_threeTogether 3 = .ok (.ishr, 1) := by decide +kernel
theorem dX7_threeTogether_4 : decode cX7_threeTogether 4 = .ok (.iand, 1) := by decide +kernel
theorem dX7_threeTogether_5 : decode cX7_threeTogether 5 = .ok (.iload_n 0, 1) := by decide +kernel
theorem dX7_threeTogether_6 : decode cX7_threeTogether 6 = .ok (.iconst 2, 1) := by decide +kernel
theorem dX7_threeTogether_7 : decode cX7_threeTogether 7 = .ok (.ishr, 1) := by decide +kernel
theorem dX7_threeTogether_8 : decode cX7_threeTogether 8 = .ok (.iand, 1) := by decide +kernel
theorem dX7_threeTogether_9 : decode cX7_threeTogether 9 = .ok (.ifCond .eq 7, 3) := by decide +kernel
theorem dX7_threeTogether_12 : decode cX7_threeTogether 12 = .ok (.iconst 1, 1) := by decide +kernel
theorem dX7_threeTogether_13 : decode cX7_threeTogether 13 = .ok (.goto 4, 3) := by decide +kernel
theorem dX7_threeTogether_16 : decode cX7_threeTogether 16 = .ok (.iconst 0, 1) := by decide +kernel
theorem dX7_threeTogether_17 : decode cX7_threeTogether 17 = .ok (.ireturn, 1) := by decide +kernel
theorem dX7_leastWinningDoor_0 : decode cX7_leastWinningDoor 0 = .ok (.iload_n 1, 1) := by decide +kernel
theorem dX7_leastWinningDoor_1 : decode cX7_leastWinningDoor 1 = .ok (.iconst 3, 1) := by decide +kernel
theorem dX7_leastWinningDoor_2 : decode cX7_leastWinningDoor 2 = .ok (.if_icmp .ge 5, 3) := by decide +kernel
theorem dX7_leastWinningDoor_5 : decode cX7_leastWinningDoor 5 = .ok (.iconst (-1), 1) := by decide +kernel
theorem dX7_leastWinningDoor_6 : decode cX7_leastWinningDoor 6 = .ok (.ireturn, 1) := by decide +kernel
theorem dX7_leastWinningDoor_7 : decode cX7_leastWinningDoor 7 = .ok (.iconst 0, 1) := by decide +kernel
theorem dX7_leastWinningDoor_8 : decode cX7_leastWinningDoor 8 = .ok (.istore_n 3, 1) := by decide +kernel
theorem dX7_leastWinningDoor_9 : decode cX7_leastWinningDoor 9 = .ok (.iload_n 3, 1) := by decide +kernel
theorem dX7_leastWinningDoor_10 : decode cX7_leastWinningDoor 10 = .ok (.iload_n 1, 1) := by decide +kernel
theorem dX7_leastWinningDoor_11 : decode cX7_leastWinningDoor 11 = .ok (.if_icmp .ge 42, 3) := by decide +kernel
theorem dX7_leastWinningDoor_14 : decode cX7_leastWinningDoor 14 = .ok (.iload_n 2, 1) := by decide +kernel
theorem dX7_leastWinningDoor_15 : decode cX7_leastWinningDoor 15 = .ok (.iconst 1, 1) := by decide +kernel
theorem dX7_leastWinningDoor_16 : decode cX7_leastWinningDoor 16 = .ok (.iload_n 3, 1) := by decide +kernel
theorem dX7_leastWinningDoor_17 : decode cX7_leastWinningDoor 17 = .ok (.ishl, 1) := by decide +kernel
theorem dX7_leastWinningDoor_18 : decode cX7_leastWinningDoor 18 = .ok (.ior, 1) := by decide +kernel
theorem dX7_leastWinningDoor_19 : decode cX7_leastWinningDoor 19 = .ok (.istore 4, 2) := by decide +kernel
theorem dX7_leastWinningDoor_21 : decode cX7_leastWinningDoor 21 = .ok (.iload 4, 2) := by decide +kernel
theorem dX7_leastWinningDoor_23 : decode cX7_leastWinningDoor 23 = .ok (.iload_n 2, 1) := by decide +kernel
theorem dX7_leastWinningDoor_24 : decode cX7_leastWinningDoor 24 = .ok (.if_icmp .eq 23, 3) := by decide +kernel
theorem dX7_leastWinningDoor_27 : decode cX7_leastWinningDoor 27 = .ok (.iload 4, 2) := by decide +kernel
theorem dX7_leastWinningDoor_29 : decode cX7_leastWinningDoor 29 = .ok (.invokestatic 107, 3) := by decide +kernel
theorem dX7_leastWinningDoor_32 : decode cX7_leastWinningDoor 32 = .ok (.ifCond .ne 13, 3) := by decide +kernel
theorem dX7_leastWinningDoor_35 : decode cX7_leastWinningDoor 35 = .ok (.aload_n 0, 1) := by decide +kernel
theorem dX7_leastWinningDoor_36 : decode cX7_leastWinningDoor 36 = .ok (.iload_n 1, 1) := by decide +kernel
theorem dX7_leastWinningDoor_37 : decode cX7_leastWinningDoor 37 = .ok (.iload 4, 2) := by decide +kernel
theorem dX7_leastWinningDoor_39 : decode cX7_leastWinningDoor 39 = .ok (.invokevirtual 111, 3) := by decide +kernel
theorem dX7_leastWinningDoor_42 : decode cX7_leastWinningDoor 42 = .ok (.ifCond .ne 5, 3) := by decide +kernel
theorem dX7_leastWinningDoor_45 : decode cX7_leastWinningDoor 45 = .ok (.iload_n 3, 1) := by decide +kernel
theorem dX7_leastWinningDoor_46 : decode cX7_leastWinningDoor 46 = .ok (.ireturn, 1) := by decide +kernel
theorem dX7_leastWinningDoor_47 : decode cX7_leastWinningDoor 47 = .ok (.iinc 3 1, 3) := by decide +kernel
theorem dX7_leastWinningDoor_50 : decode cX7_leastWinningDoor 50 = .ok (.goto (-41), 3) := by decide +kernel
theorem dX7_leastWinningDoor_53 : decode cX7_leastWinningDoor 53 = .ok (.iconst (-1), 1) := by decide +kernel
theorem dX7_leastWinningDoor_54 : decode cX7_leastWinningDoor 54 = .ok (.ireturn, 1) := by decide +kernel
theorem dX7_nextCanWin_0 : decode cX7_nextCanWin 0 = .ok (.iconst 0, 1) := by decide +kernel
theorem dX7_nextCanWin_1 : decode cX7_nextCanWin 1 = .ok (.istore_n 3, 1) := by decide +kernel
theorem dX7_nextCanWin_2 : decode cX7_nextCanWin 2 = .ok (.iconst 0, 1) := by decide +kernel
theorem dX7_nextCanWin_3 : decode cX7_nextCanWin 3 = .ok (.istore 4, 2) := by decide +kernel
theorem dX7_nextCanWin_5 : decode cX7_nextCanWin 5 = .ok (.iconst 0, 1) := by decide +kernel
theorem dX7_nextCanWin_6 : decode cX7_nextCanWin 6 = .ok (.istore 5, 2) := by decide +kernel
theorem dX7_nextCanWin_8 : decode cX7_nextCanWin 8 = .ok (.iload 5, 2) := by decide +kernel
theorem dX7_nextCanWin_10 : decode cX7_nextCanWin 10 = .ok (.iload_n 1, 1) := by decide +kernel
theorem dX7_nextCanWin_11 : decode cX7_nextCanWin 11 = .ok (.if_icmp .ge 105, 3) := by decide +kernel
theorem dX7_nextCanWin_14 : decode cX7_nextCanWin 14 = .ok (.iload_n 2, 1) := by decide +kernel
theorem dX7_nextCanWin_15 : decode cX7_nextCanWin 15 = .ok (.iconst 1, 1) := by decide +kernel
theorem dX7_nextCanWin_16 : decode cX7_nextCanWin 16 = .ok (.iload 5, 2) := by decide +kernel
theorem dX7_nextCanWin_18 : decode cX7_nextCanWin 18 = .ok (.ishl, 1) := by decide +kernel
theorem dX7_nextCanWin_19 : decode cX7_nextCanWin 19 = .ok (.ior, 1) := by decide +kernel
theorem dX7_nextCanWin_20 : decode cX7_nextCanWin 20 = .ok (.invokestatic 107, 3) := by decide +kernel
theorem dX7_nextCanWin_23 : decode cX7_nextCanWin 23 = .ok (.ifCond .eq 5, 3) := by decide +kernel
theorem dX7_nextCanWin_26 : decode cX7_nextCanWin 26 = .ok (.iconst 1, 1) := by decide +kernel
theorem dX7_nextCanWin_27 : decode cX7_nextCanWin 27 = .ok (.ireturn, 1) := by decide +kernel
theorem dX7_nextCanWin_28 : decode cX7_nextCanWin 28 = .ok (.iload_n 2, 1) := by decide +kernel
theorem dX7_nextCanWin_29 : decode cX7_nextCanWin 29 = .ok (.iconst 2, 1) := by decide +kernel
theorem dX7_nextCanWin_30 : decode cX7_nextCanWin 30 = .ok (.ishl, 1) := by decide +kernel
theorem dX7_nextCanWin_31 : decode cX7_nextCanWin 31 = .ok (.iload 5, 2) := by decide +kernel
theorem dX7_nextCanWin_33 : decode cX7_nextCanWin 33 = .ok (.ishr, 1) := by decide +kernel
theorem dX7_nextCanWin_34 : decode cX7_nextCanWin 34 = .ok (.bipush 31, 2) := by decide +kernel
theorem dX7_nextCanWin_36 : decode cX7_nextCanWin 36 = .ok (.iand, 1) := by decide +kernel
theorem dX7_nextCanWin_37 : decode cX7_nextCanWin 37 = .ok (.ifCond .ne 7, 3) := by decide +kernel
theorem dX7_nextCanWin_40 : decode cX7_nextCanWin 40 = .ok (.iconst 1, 1) := by decide +kernel
theorem dX7_nextCanWin_41 : decode cX7_nextCanWin 41 = .ok (.goto 4, 3) := by decide +kernel
theorem dX7_nextCanWin_44 : decode cX7_nextCanWin 44 = .ok (.iconst 0, 1) := by decide +kernel
theorem dX7_nextCanWin_45 : decode cX7_nextCanWin 45 = .ok (.istore 6, 2) := by decide +kernel
theorem dX7_nextCanWin_47 : decode cX7_nextCanWin 47 = .ok (.iload 6, 2) := by decide +kernel
theorem dX7_nextCanWin_49 : decode cX7_nextCanWin 49 = .ok (.ifCond .eq 10, 3) := by decide +kernel
theorem dX7_nextCanWin_52 : decode cX7_nextCanWin 52 = .ok (.iload 4, 2) := by decide +kernel
theorem dX7_nextCanWin_54 : decode cX7_nextCanWin 54 = .ok (.iconst 1, 1) := by decide +kernel
theorem dX7_nextCanWin_55 : decode cX7_nextCanWin 55 = .ok (.iadd, 1) := by decide +kernel
theorem dX7_nextCanWin_56 : decode cX7_nextCanWin 56 = .ok (.goto 4, 3) := by decide +kernel
theorem dX7_nextCanWin_59 : decode cX7_nextCanWin 59 = .ok (.iconst 0, 1) := by decide +kernel
theorem dX7_nextCanWin_60 : decode cX7_nextCanWin 60 = .ok (.istore 4, 2) := by decide +kernel
theorem dX7_nextCanWin_62 : decode cX7_nextCanWin 62 = .ok (.iload 5, 2) := by decide +kernel
theorem dX7_nextCanWin_64 : decode cX7_nextCanWin 64 = .ok (.iload_n 1, 1) := by decide +kernel
theorem dX7_nextCanWin_65 : decode cX7_nextCanWin 65 = .ok (.iconst 1, 1) := by decide +kernel
theorem dX7_nextCanWin_66 : decode cX7_nextCanWin 66 = .ok (.isub, 1) := by decide +kernel
theorem dX7_nextCanWin_67 : decode cX7_nextCanWin 67 = .ok (.if_icmp .eq 17, 3) := by decide +kernel
theorem dX7_nextCanWin_70 : decode cX7_nextCanWin 70 = .ok (.iload_n 2, 1) := by decide +kernel
theorem dX7_nextCanWin_71 : decode cX7_nextCanWin 71 = .ok (.iconst 2, 1) := by decide +kernel
theorem dX7_nextCanWin_72 : decode cX7_nextCanWin 72 = .ok (.ishl, 1) := by decide +kernel
theorem dX7_nextCanWin_73 : decode cX7_nextCanWin 73 = .ok (.iload 5, 2) := by decide +kernel
theorem dX7_nextCanWin_75 : decode cX7_nextCanWin 75 = .ok (.iconst 1, 1) := by decide +kernel
theorem dX7_nextCanWin_76 : decode cX7_nextCanWin 76 = .ok (.iadd, 1) := by decide +kernel
theorem dX7_nextCanWin_77 : decode cX7_nextCanWin 77 = .ok (.ishr, 1) := by decide +kernel
theorem dX7_nextCanWin_78 : decode cX7_nextCanWin 78 = .ok (.bipush 31, 2) := by decide +kernel
theorem dX7_nextCanWin_80 : decode cX7_nextCanWin 80 = .ok (.iand, 1) := by decide +kernel
theorem dX7_nextCanWin_81 : decode cX7_nextCanWin 81 = .ok (.ifCond .eq 7, 3) := by decide +kernel
theorem dX7_nextCanWin_84 : decode cX7_nextCanWin 84 = .ok (.iconst 1, 1) := by decide +kernel
theorem dX7_nextCanWin_85 : decode cX7_nextCanWin 85 = .ok (.goto 4, 3) := by decide +kernel
theorem dX7_nextCanWin_88 : decode cX7_nextCanWin 88 = .ok (.iconst 0, 1) := by decide +kernel
theorem dX7_nextCanWin_89 : decode cX7_nextCanWin 89 = .ok (.istore 7, 2) := by decide +kernel
theorem dX7_nextCanWin_91 : decode cX7_nextCanWin 91 = .ok (.iload 6, 2) := by decide +kernel
theorem dX7_nextCanWin_93 : decode cX7_nextCanWin 93 = .ok (.ifCond .eq 17, 3) := by decide +kernel
theorem dX7_nextCanWin_96 : decode cX7_nextCanWin 96 = .ok (.iload 7, 2) := by decide +kernel
theorem dX7_nextCanWin_98 : decode cX7_nextCanWin 98 = .ok (.ifCond .eq 12, 3) := by decide +kernel
theorem dX7_nextCanWin_101 : decode cX7_nextCanWin 101 = .ok (.iload_n 3, 1) := by decide +kernel
theorem dX7_nextCanWin_102 : decode cX7_nextCanWin 102 = .ok (.aload_n 0, 1) := by decide +kernel
theorem dX7_nextCanWin_103 : decode cX7_nextCanWin 103 = .ok (.iload 4, 2) := by decide +kernel
theorem dX7_nextCanWin_105 : decode cX7_nextCanWin 105 = .ok (.invokevirtual 114, 3) := by decide +kernel
theorem dX7_nextCanWin_108 : decode cX7_nextCanWin 108 = .ok (.ixor, 1) := by decide +kernel
theorem dX7_nextCanWin_109 : decode cX7_nextCanWin 109 = .ok (.istore_n 3, 1) := by decide +kernel
theorem dX7_nextCanWin_110 : decode cX7_nextCanWin 110 = .ok (.iinc 5 1, 3) := by decide +kernel
theorem dX7_nextCanWin_113 : decode cX7_nextCanWin 113 = .ok (.goto (-105), 3) := by decide +kernel
theorem dX7_nextCanWin_116 : decode cX7_nextCanWin 116 = .ok (.iload_n 3, 1) := by decide +kernel
theorem dX7_nextCanWin_117 : decode cX7_nextCanWin 117 = .ok (.ifCond .eq 7, 3) := by decide +kernel
theorem dX7_nextCanWin_120 : decode cX7_nextCanWin 120 = .ok (.iconst 1, 1) := by decide +kernel
theorem dX7_nextCanWin_121 : decode cX7_nextCanWin 121 = .ok (.goto 4, 3) := by decide +kernel
theorem dX7_nextCanWin_124 : decode cX7_nextCanWin 124 = .ok (.iconst 0, 1) := by decide +kernel
theorem dX7_nextCanWin_125 : decode cX7_nextCanWin 125 = .ok (.ireturn, 1) := by decide +kernel
theorem dX7_worthOfRun_0 : decode cX7_worthOfRun 0 = .ok (.iload_n 1, 1) := by decide +kernel
theorem dX7_worthOfRun_1 : decode cX7_worthOfRun 1 = .ok (.ifCond .le 18, 3) := by decide +kernel
theorem dX7_worthOfRun_4 : decode cX7_worthOfRun 4 = .ok (.iload_n 1, 1) := by decide +kernel
theorem dX7_worthOfRun_5 : decode cX7_worthOfRun 5 = .ok (.bipush 18, 2) := by decide +kernel
theorem dX7_worthOfRun_7 : decode cX7_worthOfRun 7 = .ok (.if_icmp .gt 12, 3) := by decide +kernel
theorem dX7_worthOfRun_10 : decode cX7_worthOfRun 10 = .ok (.aload_n 0, 1) := by decide +kernel
theorem dX7_worthOfRun_11 : decode cX7_worthOfRun 11 = .ok (.getfield 19, 3) := by decide +kernel
theorem dX7_worthOfRun_14 : decode cX7_worthOfRun 14 = .ok (.iload_n 1, 1) := by decide +kernel
theorem dX7_worthOfRun_15 : decode cX7_worthOfRun 15 = .ok (.iaload, 1) := by decide +kernel
theorem dX7_worthOfRun_16 : decode cX7_worthOfRun 16 = .ok (.goto 4, 3) := by decide +kernel
theorem dX7_worthOfRun_19 : decode cX7_worthOfRun 19 = .ok (.iconst 0, 1) := by decide +kernel
theorem dX7_worthOfRun_20 : decode cX7_worthOfRun 20 = .ok (.ireturn, 1) := by decide +kernel
theorem dX7_worthOf_0 : decode cX7_worthOf 0 = .ok (.iconst 0, 1) := by decide +kernel
theorem dX7_worthOf_1 : decode cX7_worthOf 1 = .ok (.istore_n 2, 1) := by decide +kernel
theorem dX7_worthOf_2 : decode cX7_worthOf 2 = .ok (.iconst 0, 1) := by decide +kernel
theorem dX7_worthOf_3 : decode cX7_worthOf 3 = .ok (.istore_n 3, 1) := by decide +kernel
theorem dX7_worthOf_4 : decode cX7_worthOf 4 = .ok (.iload_n 3, 1) := by decide +kernel
theorem dX7_worthOf_5 : decode cX7_worthOf 5 = .ok (.iload_n 1, 1) := by decide +kernel
theorem dX7_worthOf_6 : decode cX7_worthOf 6 = .ok (.if_icmp .ge 31, 3) := by decide +kernel
theorem dX7_worthOf_9 : decode cX7_worthOf 9 = .ok (.iload_n 2, 1) := by decide +kernel
theorem dX7_worthOf_10 : decode cX7_worthOf 10 = .ok (.iconst 1, 1) := by decide +kernel
theorem dX7_worthOf_11 : decode cX7_worthOf 11 = .ok (.aload_n 0, 1) := by decide +kernel
theorem dX7_worthOf_12 : decode cX7_worthOf 12 = .ok (.iload_n 3, 1) := by decide +kernel
theorem dX7_worthOf_13 : decode cX7_worthOf 13 = .ok (.iconst 2, 1) := by decide +kernel
theorem dX7_worthOf_14 : decode cX7_worthOf 14 = .ok (.isub, 1) := by decide +kernel
theorem dX7_worthOf_15 : decode cX7_worthOf 15 = .ok (.invokevirtual 114, 3) := by decide +kernel
theorem dX7_worthOf_18 : decode cX7_worthOf 18 = .ok (.aload_n 0, 1) := by decide +kernel
theorem dX7_worthOf_19 : decode cX7_worthOf 19 = .ok (.iload_n 1, 1) := by decide +kernel
theorem dX7_worthOf_20 : decode cX7_worthOf 20 = .ok (.iload_n 3, 1) := by decide +kernel
theorem dX7_worthOf_21 : decode cX7_worthOf 21 = .ok (.isub, 1) := by decide +kernel
theorem dX7_worthOf_22 : decode cX7_worthOf 22 = .ok (.iconst 3, 1) := by decide +kernel
theorem dX7_worthOf_23 : decode cX7_worthOf 23 = .ok (.isub, 1) := by decide +kernel
theorem dX7_worthOf_24 : decode cX7_worthOf 24 = .ok (.invokevirtual 114, 3) := by decide +kernel
theorem dX7_worthOf_27 : decode cX7_worthOf 27 = .ok (.ixor, 1) := by decide +kernel
theorem dX7_worthOf_28 : decode cX7_worthOf 28 = .ok (.ishl, 1) := by decide +kernel
theorem dX7_worthOf_29 : decode cX7_worthOf 29 = .ok (.ior, 1) := by decide +kernel
theorem dX7_worthOf_30 : decode cX7_worthOf 30 = .ok (.istore_n 2, 1) := by decide +kernel
theorem dX7_worthOf_31 : decode cX7_worthOf 31 = .ok (.iinc 3 1, 3) := by decide +kernel
theorem dX7_worthOf_34 : decode cX7_worthOf 34 = .ok (.goto (-30), 3) := by decide +kernel
theorem dX7_worthOf_37 : decode cX7_worthOf 37 = .ok (.iconst 0, 1) := by decide +kernel
theorem dX7_worthOf_38 : decode cX7_worthOf 38 = .ok (.istore_n 3, 1) := by decide +kernel
theorem dX7_worthOf_39 : decode cX7_worthOf 39 = .ok (.iload_n 3, 1) := by decide +kernel
theorem dX7_worthOf_40 : decode cX7_worthOf 40 = .ok (.bipush 31, 2) := by decide +kernel
theorem dX7_worthOf_42 : decode cX7_worthOf 42 = .ok (.if_icmp .ge 18, 3) := by decide +kernel
theorem dX7_worthOf_45 : decode cX7_worthOf 45 = .ok (.iload_n 2, 1) := by decide +kernel
theorem dX7_worthOf_46 : decode cX7_worthOf 46 = .ok (.iload_n 3, 1) := by decide +kernel
theorem dX7_worthOf_47 : decode cX7_worthOf 47 = .ok (.ishr, 1) := by decide +kernel
theorem dX7_worthOf_48 : decode cX7_worthOf 48 = .ok (.iconst 1, 1) := by decide +kernel
theorem dX7_worthOf_49 : decode cX7_worthOf 49 = .ok (.iand, 1) := by decide +kernel
theorem dX7_worthOf_50 : decode cX7_worthOf 50 = .ok (.iconst 1, 1) := by decide +kernel
theorem dX7_worthOf_51 : decode cX7_worthOf 51 = .ok (.if_icmp .ne 9, 3) := by decide +kernel
theorem dX7_worthOf_54 : decode cX7_worthOf 54 = .ok (.iinc 3 1, 3) := by decide +kernel
theorem dX7_worthOf_57 : decode cX7_worthOf 57 = .ok (.goto (-18), 3) := by decide +kernel
theorem dX7_worthOf_60 : decode cX7_worthOf 60 = .ok (.iload_n 3, 1) := by decide +kernel
theorem dX7_worthOf_61 : decode cX7_worthOf 61 = .ok (.ireturn, 1) := by decide +kernel
theorem dX8_init_0 : decode cX8_init 0 = .ok (.aload_n 0, 1) := by decide +kernel
theorem dX8_init_1 : decode cX8_init 1 = .ok (.invokespecial 3, 3) := by decide +kernel
theorem dX8_init_4 : decode cX8_init 4 = .ok (.aload_n 0, 1) := by decide +kernel
theorem dX8_init_5 : decode cX8_init 5 = .ok (.new 9, 3) := by decide +kernel
theorem dX8_init_8 : decode cX8_init 8 = .ok (.dup, 1) := by decide +kernel
theorem dX8_init_9 : decode cX8_init 9 = .ok (.bipush 12, 2) := by decide +kernel
theorem dX8_init_11 : decode cX8_init 11 = .ok (.invokespecial 11, 3) := by decide +kernel
theorem dX8_init_14 : decode cX8_init 14 = .ok (.putfield 14, 3) := by decide +kernel
theorem dX8_init_17 : decode cX8_init 17 = .ok (.aload_n 0, 1) := by decide +kernel
theorem dX8_init_18 : decode cX8_init 18 = .ok (.new 9, 3) := by decide +kernel
theorem dX8_init_21 : decode cX8_init 21 = .ok (.dup, 1) := by decide +kernel
theorem dX8_init_22 : decode cX8_init 22 = .ok (.bipush 6, 2) := by decide +kernel
theorem dX8_init_24 : decode cX8_init 24 = .ok (.invokespecial 11, 3) := by decide +kernel
theorem dX8_init_27 : decode cX8_init 27 = .ok (.putfield 20, 3) := by decide +kernel
theorem dX8_init_30 : decode cX8_init 30 = .ok (.aload_n 0, 1) := by decide +kernel
theorem dX8_init_31 : decode cX8_init 31 = .ok (.new 9, 3) := by decide +kernel
theorem dX8_init_34 : decode cX8_init 34 = .ok (.dup, 1) := by decide +kernel
theorem dX8_init_35 : decode cX8_init 35 = .ok (.bipush 10, 2) := by decide +kernel
theorem dX8_init_37 : decode cX8_init 37 = .ok (.invokespecial 11, 3) := by decide +kernel
theorem dX8_init_40 : decode cX8_init 40 = .ok (.putfield 23, 3) := by decide +kernel
theorem dX8_init_43 : decode cX8_init 43 = .ok (.aload_n 0, 1) := by decide +kernel
theorem dX8_init_44 : decode cX8_init 44 = .ok (.new 9, 3) := by decide +kernel
theorem dX8_init_47 : decode cX8_init 47 = .ok (.dup, 1) := by decide +kernel
theorem dX8_init_48 : decode cX8_init 48 = .ok (.bipush 14, 2) := by decide +kernel
theorem dX8_init_50 : decode cX8_init 50 = .ok (.invokespecial 11, 3) := by decide +kernel
theorem dX8_init_53 : decode cX8_init 53 = .ok (.putfield 26, 3) := by decide +kernel
theorem dX8_init_56 : decode cX8_init 56 = .ok (.aload_n 0, 1) := by decide +kernel
theorem dX8_init_57 : decode cX8_init 57 = .ok (.new 9, 3) := by decide +kernel
theorem dX8_init_60 : decode cX8_init 60 = .ok (.dup, 1) := by decide +kernel
theorem dX8_init_61 : decode cX8_init 61 = .ok (.bipush 10, 2) := by decide +kernel
theorem dX8_init_63 : decode cX8_init 63 = .ok (.invokespecial 11, 3) := by decide +kernel
theorem dX8_init_66 : decode cX8_init 66 = .ok (.putfield 29, 3) := by decide +kernel
theorem dX8_init_69 : decode cX8_init 69 = .ok (.aload_n 0, 1) := by decide +kernel
theorem dX8_init_70 : decode cX8_init 70 = .ok (.bipush 10, 2) := by decide +kernel
theorem dX8_init_72 : decode cX8_init 72 = .ok (.newarray .int, 2) := by decide +kernel
theorem dX8_init_74 : decode cX8_init 74 = .ok (.putfield 32, 3) := by decide +kernel
theorem dX8_init_77 : decode cX8_init 77 = .ok (.aload_n 0, 1) := by decide +kernel
theorem dX8_init_78 : decode cX8_init 78 = .ok (.getfield 32, 3) := by decide +kernel
theorem dX8_init_81 : decode cX8_init 81 = .ok (.iconst (-1), 1) := by decide +kernel
theorem dX8_init_82 : decode cX8_init 82 = .ok (.invokestatic 36, 3) := by decide +kernel
theorem dX8_init_85 : decode cX8_init 85 = .ok (.return_, 1) := by decide +kernel
theorem dX8_copy_0 : decode cX8_copy 0 = .ok (.aload_n 0, 1) := by decide +kernel
theorem dX8_copy_1 : decode cX8_copy 1 = .ok (.getfield 14, 3) := by decide +kernel
theorem dX8_copy_4 : decode cX8_copy 4 = .ok (.aload_n 1, 1) := by decide +kernel
theorem dX8_copy_5 : decode cX8_copy 5 = .ok (.getfield 14, 3) := by decide +kernel
theorem dX8_copy_8 : decode cX8_copy 8 = .ok (.invokevirtual 42, 3) := by decide +kernel
theorem dX8_copy_11 : decode cX8_copy 11 = .ok (.aload_n 0, 1) := by decide +kernel
theorem dX8_copy_12 : decode cX8_copy 12 = .ok (.getfield 20, 3) := by decide +kernel
theorem dX8_copy_15 : decode cX8_copy 15 = .ok (.aload_n 1, 1) := by decide +kernel
theorem dX8_copy_16 : decode cX8_copy 16 = .ok (.getfield 20, 3) := by decide +kernel
theorem dX8_copy_19 : decode cX8_copy 19 = .ok (.invokevirtual 42, 3) := by decide +kernel
theorem dX8_copy_22 : decode cX8_copy 22 = .ok (.aload_n 0, 1) := by decide +kernel
theorem dX8_copy_23 : decode cX8_copy 23 = .ok (.getfield 23, 3) := by decide +kernel
theorem dX8_copy_26 : decode cX8_copy 26 = .ok (.aload_n 1, 1) := by decide +kernel
theorem dX8_copy_27 : decode cX8_copy 27 = .ok (.getfield 23, 3) := by decide +kernel
theorem dX8_copy_30 : decode cX8_copy 30 = .ok (.invokevirtual 42, 3) := by decide +kernel
theorem dX8_copy_33 : decode cX8_copy 33 = .ok (.aload_n 0, 1) := by decide +kernel
theorem dX8_copy_34 : decode cX8_copy 34 = .ok (.getfield 26, 3) := by decide +kernel
theorem dX8_copy_37 : decode cX8_copy 37 = .ok (.aload_n 1, 1) := by decide +kernel
theorem dX8_copy_38 : decode cX8_copy 38 = .ok (.getfield 26, 3) := by decide +kernel
theorem dX8_copy_41 : decode cX8_copy 41 = .ok (.invokevirtual 42, 3) := by decide +kernel
theorem dX8_copy_44 : decode cX8_copy 44 = .ok (.aload_n 0, 1) := by decide +kernel
theorem dX8_copy_45 : decode cX8_copy 45 = .ok (.getfield 29, 3) := by decide +kernel
theorem dX8_copy_48 : decode cX8_copy 48 = .ok (.aload_n 1, 1) := by decide +kernel
theorem dX8_copy_49 : decode cX8_copy 49 = .ok (.getfield 29, 3) := by decide +kernel
theorem dX8_copy_52 : decode cX8_copy 52 = .ok (.invokevirtual 42, 3) := by decide +kernel
theorem dX8_copy_55 : decode cX8_copy 55 = .ok (.aload_n 1, 1) := by decide +kernel
theorem dX8_copy_56 : decode cX8_copy 56 = .ok (.getfield 32, 3) := by decide +kernel
theorem dX8_copy_59 : decode cX8_copy 59 = .ok (.iconst 0, 1) := by decide +kernel
theorem dX8_copy_60 : decode cX8_copy 60 = .ok (.aload_n 0, 1) := by decide +kernel
theorem dX8_copy_61 : decode cX8_copy 61 = .ok (.getfield 32, 3) := by decide +kernel
theorem dX8_copy_64 : decode cX8_copy 64 = .ok (.iconst 0, 1) := by decide +kernel
theorem dX8_copy_65 : decode cX8_copy 65 = .ok (.bipush 10, 2) := by decide +kernel
theorem dX8_copy_67 : decode cX8_copy 67 = .ok (.invokestatic 46, 3) := by decide +kernel
theorem dX8_copy_70 : decode cX8_copy 70 = .ok (.return_, 1) := by decide +kernel
theorem dX9_init_0 : decode cX9_init 0 = .ok (.aload_n 0, 1) := by decide +kernel
theorem dX9_init_1 : decode cX9_init 1 = .ok (.invokespecial 3, 3) := by decide +kernel
theorem dX9_init_4 : decode cX9_init 4 = .ok (.aload_n 0, 1) := by decide +kernel
theorem dX9_init_5 : decode cX9_init 5 = .ok (.aload_n 1, 1) := by decide +kernel
theorem dX9_init_6 : decode cX9_init 6 = .ok (.putfield 9, 3) := by decide +kernel
theorem dX9_init_9 : decode cX9_init 9 = .ok (.aload_n 0, 1) := by decide +kernel
theorem dX9_init_10 : decode cX9_init 10 = .ok (.aload_n 2, 1) := by decide +kernel
theorem dX9_init_11 : decode cX9_init 11 = .ok (.putfield 15, 3) := by decide +kernel
theorem dX9_init_14 : decode cX9_init 14 = .ok (.aload_n 0, 1) := by decide +kernel
theorem dX9_init_15 : decode cX9_init 15 = .ok (.aload_n 3, 1) := by decide +kernel
theorem dX9_init_16 : decode cX9_init 16 = .ok (.putfield 19, 3) := by decide +kernel
theorem dX9_init_19 : decode cX9_init 19 = .ok (.aload_n 0, 1) := by decide +kernel
theorem dX9_init_20 : decode cX9_init 20 = .ok (.iload 4, 2) := by decide +kernel
theorem dX9_init_22 : decode cX9_init 22 = .ok (.putfield 23, 3) := by decide +kernel
theorem dX9_init_25 : decode cX9_init 25 = .ok (.aload_n 0, 1) := by decide +kernel
theorem dX9_init_26 : decode cX9_init 26 = .ok (.bipush 48, 2) := by decide +kernel
theorem dX9_init_28 : decode cX9_init 28 = .ok (.newarray .int, 2) := by decide +kernel
theorem dX9_init_30 : decode cX9_init 30 = .ok (.putfield 27, 3) := by decide +kernel
theorem dX9_init_33 : decode cX9_init 33 = .ok (.return_, 1) := by decide +kernel
theorem dX9_pass_0 : decode cX9_pass 0 = .ok (.aload_n 0, 1) := by decide +kernel
theorem dX9_pass_1 : decode cX9_pass 1 = .ok (.invokevirtual 30, 3) := by decide +kernel
theorem dX9_pass_4 : decode cX9_pass 4 = .ok (.aload_n 0, 1) := by decide +kernel
theorem dX9_pass_5 : decode cX9_pass 5 = .ok (.iconst 0, 1) := by decide +kernel
theorem dX9_pass_6 : decode cX9_pass 6 = .ok (.putfield 33, 3) := by decide +kernel
theorem dX9_pass_9 : decode cX9_pass 9 = .ok (.iconst 0, 1) := by decide +kernel
theorem dX9_pass_10 : decode cX9_pass 10 = .ok (.istore_n 1, 1) := by decide +kernel
theorem dX9_pass_11 : decode cX9_pass 11 = .ok (.iload_n 1, 1) := by decide +kernel
theorem dX9_pass_12 : decode cX9_pass 12 = .ok (.aload_n 0, 1) := by decide +kernel
theorem dX9_pass_13 : decode cX9_pass 13 = .ok (.getfield 9, 3) := by decide +kernel
theorem dX9_pass_16 : decode cX9_pass 16 = .ok (.getfield 37, 3) := by decide +kernel
theorem dX9_pass_19 : decode cX9_pass 19 = .ok (.if_icmp .ge 26, 3) := by decide +kernel
theorem dX9_pass_22 : decode cX9_pass 22 = .ok (.aload_n 0, 1) := by decide +kernel
theorem dX9_pass_23 : decode cX9_pass 23 = .ok (.getfield 9, 3) := by decide +kernel
theorem dX9_pass_26 : decode cX9_pass 26 = .ok (.iload_n 1, 1) := by decide +kernel
theorem dX9_pass_27 : decode cX9_pass 27 = .ok (.iconst 0, 1) := by decide +kernel
theorem dX9_pass_28 : decode cX9_pass 28 = .ok (.invokevirtual 42, 3) := by decide +kernel
theorem dX9_pass_31 : decode cX9_pass 31 = .ok (.ifCond .le 8, 3) := by decide +kernel
theorem dX9_pass_34 : decode cX9_pass 34 = .ok (.aload_n 0, 1) := by decide +kernel
theorem dX9_pass_35 : decode cX9_pass 35 = .ok (.iload_n 1, 1) := by decide +kernel
theorem dX9_pass_36 : decode cX9_pass 36 = .ok (.invokevirtual 46, 3) := by decide +kernel
theorem dX9_pass_39 : decode cX9_pass 39 = .ok (.iinc 1 1, 3) := by decide +kernel
theorem dX9_pass_42 : decode cX9_pass 42 = .ok (.goto (-31), 3) := by decide +kernel
theorem dX9_pass_45 : decode cX9_pass 45 = .ok (.iconst 0, 1) := by decide +kernel
theorem dX9_pass_46 : decode cX9_pass 46 = .ok (.istore_n 1, 1) := by decide +kernel
theorem dX9_pass_47 : decode cX9_pass 47 = .ok (.iload_n 1, 1) := by decide +kernel
theorem dX9_pass_48 : decode cX9_pass 48 = .ok (.aload_n 0, 1) := by decide +kernel
theorem dX9_pass_49 : decode cX9_pass 49 = .ok (.getfield 9, 3) := by decide +kernel
theorem dX9_pass_52 : decode cX9_pass 52 = .ok (.getfield 37, 3) := by decide +kernel
theorem dX9_pass_55 : decode cX9_pass 55 = .ok (.if_icmp .ge 14, 3) := by decide +kernel
theorem dX9_pass_58 : decode cX9_pass 58 = .ok (.aload_n 0, 1) := by decide +kernel
theorem dX9_pass_59 : decode cX9_pass 59 = .ok (.iload_n 1, 1) := by decide +kernel
theorem dX9_pass_60 : decode cX9_pass 60 = .ok (.invokevirtual 50, 3) := by decide +kernel
theorem dX9_pass_63 : decode cX9_pass 63 = .ok (.iinc 1 1, 3) := by decide +kernel
theorem dX9_pass_66 : decode cX9_pass 66 = .ok (.goto (-19), 3) := by decide +kernel
theorem dX9_pass_69 : decode cX9_pass 69 = .ok (.iconst 0, 1) := by decide +kernel
theorem dX9_pass_70 : decode cX9_pass 70 = .ok (.istore_n 1, 1) := by decide +kernel
theorem dX9_pass_71 : decode cX9_pass 71 = .ok (.iload_n 1, 1) := by decide +kernel
theorem dX9_pass_72 : decode cX9_pass 72 = .ok (.aload_n 0, 1) := by decide +kernel
theorem dX9_pass_73 : decode cX9_pass 73 = .ok (.getfield 9, 3) := by decide +kernel
theorem dX9_pass_76 : decode cX9_pass 76 = .ok (.getfield 37, 3) := by decide +kernel
theorem dX9_pass_79 : decode cX9_pass 79 = .ok (.if_icmp .ge 14, 3) := by decide +kernel
theorem dX9_pass_82 : decode cX9_pass 82 = .ok (.aload_n 0, 1) := by decide +kernel
theorem dX9_pass_83 : decode cX9_pass 83 = .ok (.iload_n 1, 1) := by decide +kernel
theorem dX9_pass_84 : decode cX9_pass 84 = .ok (.invokevirtual 53, 3) := by decide +kernel
theorem dX9_pass_87 : decode cX9_pass 87 = .ok (.iinc 1 1, 3) := by decide +kernel
theorem dX9_pass_90 : decode cX9_pass 90 = .ok (.goto (-19), 3) := by decide +kernel
theorem dX9_pass_93 : decode cX9_pass 93 = .ok (.aload_n 0, 1) := by decide +kernel
theorem dX9_pass_94 : decode cX9_pass 94 = .ok (.getfield 9, 3) := by decide +kernel
theorem dX9_pass_97 : decode cX9_pass 97 = .ok (.dup, 1) := by decide +kernel
theorem dX9_pass_98 : decode cX9_pass 98 = .ok (.getfield 56, 3) := by decide +kernel
theorem dX9_pass_101 : decode cX9_pass 101 = .ok (.iconst 1, 1) := by decide +kernel
theorem dX9_pass_102 : decode cX9_pass 102 = .ok (.iadd, 1) := by decide +kernel
theorem dX9_pass_103 : decode cX9_pass 103 = .ok (.putfield 56, 3) := by decide +kernel
theorem dX9_pass_106 : decode cX9_pass 106 = .ok (.return_, 1) := by decide +kernel
theorem dX9_canByHand_0 : decode cX9_canByHand 0 = .ok (.aload_n 0, 1) := by decide +kernel
theorem dX9_canByHand_1 : decode cX9_canByHand 1 = .ok (.getfield 9, 3) := by decide +kernel
theorem dX9_canByHand_4 : decode cX9_canByHand 4 = .ok (.iload_n 2, 1) := by decide +kernel
theorem dX9_canByHand_5 : decode cX9_canByHand 5 = .ok (.invokevirtual 59, 3) := by decide +kernel
theorem dX9_canByHand_8 : decode cX9_canByHand 8 = .ok (.ifCond .ne 5, 3) := by decide +kernel
theorem dX9_canByHand_11 : decode cX9_canByHand 11 = .ok (.iconst 0, 1) := by decide +kernel
theorem dX9_canByHand_12 : decode cX9_canByHand 12 = .ok (.ireturn, 1) := by decide +kernel
theorem dX9_canByHand_13 : decode cX9_canByHand 13 = .ok (.iload_n 1, 1) := by decide +kernel
theorem dX9_canByHand_14 : decode cX9_canByHand 14 = .ok (.tableswitch 141 0 4 #[34, 65, 85, 105, 124], 34) := by decide +kernel
theorem dX9_canByHand_48 : decode cX9_canByHand 48 = .ok (.aload_n 0, 1) := by decide +kernel
theorem dX9_canByHand_49 : decode cX9_canByHand 49 = .ok (.getfield 9, 3) := by decide +kernel
theorem dX9_canByHand_52 : decode cX9_canByHand 52 = .ok (.iload_n 2, 1) := by decide +kernel
theorem dX9_canByHand_53 : decode cX9_canByHand 53 = .ok (.iconst 0, 1) := by decide +kernel
theorem dX9_canByHand_54 : decode cX9_canByHand 54 = .ok (.invokevirtual 42, 3) := by decide +kernel
theorem dX9_canByHand_57 : decode cX9_canByHand 57 = .ok (.ifCond .le 20, 3) := by decide +kernel
theorem dX9_canByHand_60 : decode cX9_canByHand 60 = .ok (.aload_n 0, 1) := by decide +kernel
theorem dX9_canByHand_61 : decode cX9_canByHand 61 = .ok (.iload_n 2, 1) := by decide +kernel
theorem dX9_canByHand_62 : decode cX9_canByHand 62 = .ok (.aload_n 0, 1) := by decide +kernel
theorem dX9_canByHand_63 : decode cX9_canByHand 63 = .ok (.iload_n 2, 1) := by decide +kernel
theorem dX9_canByHand_64 : decode cX9_canByHand 64 = .ok (.invokevirtual 63, 3) := by decide +kernel
theorem dX9_canByHand_67 : decode cX9_canByHand 67 = .ok (.invokevirtual 67, 3) := by decide +kernel
theorem dX9_canByHand_70 : decode cX9_canByHand 70 = .ok (.ifCond .eq 7, 3) := by decide +kernel
theorem dX9_canByHand_73 : decode cX9_canByHand 73 = .ok (.iconst 1, 1) := by decide +kernel
theorem dX9_canByHand_74 : decode cX9_canByHand 74 = .ok (.goto 4, 3) := by decide +kernel
theorem dX9_canByHand_77 : decode cX9_canByHand 77 = .ok (.iconst 0, 1) := by decide +kernel
theorem dX9_canByHand_78 : decode cX9_canByHand 78 = .ok (.ireturn, 1) := by decide +kernel
theorem dX9_canByHand_79 : decode cX9_canByHand 79 = .ok (.aload_n 0, 1) := by decide +kernel
theorem dX9_canByHand_80 : decode cX9_canByHand 80 = .ok (.getfield 9, 3) := by decide +kernel
theorem dX9_canByHand_83 : decode cX9_canByHand 83 = .ok (.iload_n 2, 1) := by decide +kernel
theorem dX9_canByHand_84 : decode cX9_canByHand 84 = .ok (.iconst 0, 1) := by decide +kernel
theorem dX9_canByHand_85 : decode cX9_canByHand 85 = .ok (.invokevirtual 42, 3) := by decide +kernel
theorem dX9_canByHand_88 : decode cX9_canByHand 88 = .ok (.bipush 9, 2) := by decide +kernel
theorem dX9_canByHand_90 : decode cX9_canByHand 90 = .ok (.if_icmp .ge 7, 3) := by decide +kernel
theorem dX9_canByHand_93 : decode cX9_canByHand 93 = .ok (.iconst 1, 1) := by decide +kernel
theorem dX9_canByHand_94 : decode cX9_canByHand 94 = .ok (.goto 4, 3) := by decide +kernel
theorem dX9_canByHand_97 : decode cX9_canByHand 97 = .ok (.iconst 0, 1) := by decide +kernel
theorem dX9_canByHand_98 : decode cX9_canByHand 98 = .ok (.ireturn, 1) := by decide +kernel
theorem dX9_canByHand_99 : decode cX9_canByHand 99 = .ok (.aload_n 0, 1) := by decide +kernel
theorem dX9_canByHand_100 : decode cX9_canByHand 100 = .ok (.getfield 9, 3) := by decide +kernel
theorem dX9_canByHand_103 : decode cX9_canByHand 103 = .ok (.iload_n 2, 1) := by decide +kernel
theorem dX9_canByHand_104 : decode cX9_canByHand 104 = .ok (.iconst 1, 1) := by decide +kernel
theorem dX9_canByHand_105 : decode cX9_canByHand 105 = .ok (.invokevirtual 42, 3) := by decide +kernel
theorem dX9_canByHand_108 : decode cX9_canByHand 108 = .ok (.bipush 9, 2) := by decide +kernel
theorem dX9_canByHand_110 : decode cX9_canByHand 110 = .ok (.if_icmp .ge 7, 3) := by decide +kernel
theorem dX9_canByHand_113 : decode cX9_canByHand 113 = .ok (.iconst 1, 1) := by decide +kernel
theorem dX9_canByHand_114 : decode cX9_canByHand 114 = .ok (.goto 4, 3) := by decide +kernel
theorem dX9_canByHand_117 : decode cX9_canByHand 117 = .ok (.iconst 0, 1) := by decide +kernel
theorem dX9_canByHand_118 : decode cX9_canByHand 118 = .ok (.ireturn, 1) := by decide +kernel
theorem dX9_canByHand_119 : decode cX9_canByHand 119 = .ok (.aload_n 0, 1) := by decide +kernel
theorem dX9_canByHand_120 : decode cX9_canByHand 120 = .ok (.getfield 9, 3) := by decide +kernel
theorem dX9_canByHand_123 : decode cX9_canByHand 123 = .ok (.iload_n 2, 1) := by decide +kernel
theorem dX9_canByHand_124 : decode cX9_canByHand 124 = .ok (.iconst 4, 1) := by decide +kernel
theorem dX9_canByHand_125 : decode cX9_canByHand 125 = .ok (.invokevirtual 42, 3) := by decide +kernel
theorem dX9_canByHand_128 : decode cX9_canByHand 128 = .ok (.iconst 1, 1) := by decide +kernel
theorem dX9_canByHand_129 : decode cX9_canByHand 129 = .ok (.if_icmp .ne 7, 3) := by decide +kernel
theorem dX9_canByHand_132 : decode cX9_canByHand 132 = .ok (.iconst 1, 1) := by decide +kernel
theorem dX9_canByHand_133 : decode cX9_canByHand 133 = .ok (.goto 4, 3) := by decide +kernel
theorem dX9_canByHand_136 : decode cX9_canByHand 136 = .ok (.iconst 0, 1) := by decide +kernel
theorem dX9_canByHand_137 : decode cX9_canByHand 137 = .ok (.ireturn, 1) := by decide +kernel
theorem dX9_canByHand_138 : decode cX9_canByHand 138 = .ok (.aload_n 0, 1) := by decide +kernel
theorem dX9_canByHand_139 : decode cX9_canByHand 139 = .ok (.getfield 9, 3) := by decide +kernel
theorem dX9_canByHand_142 : decode cX9_canByHand 142 = .ok (.getfield 71, 3) := by decide +kernel
theorem dX9_canByHand_145 : decode cX9_canByHand 145 = .ok (.iload_n 2, 1) := by decide +kernel
theorem dX9_canByHand_146 : decode cX9_canByHand 146 = .ok (.if_icmp .eq 7, 3) := by decide +kernel
theorem dX9_canByHand_149 : decode cX9_canByHand 149 = .ok (.iconst 1, 1) := by decide +kernel
theorem dX9_canByHand_150 : decode cX9_canByHand 150 = .ok (.goto 4, 3) := by decide +kernel
theorem dX9_canByHand_153 : decode cX9_canByHand 153 = .ok (.iconst 0, 1) := by decide +kernel
theorem dX9_canByHand_154 : decode cX9_canByHand 154 = .ok (.ireturn, 1) := by decide +kernel
theorem dX9_canByHand_155 : decode cX9_canByHand 155 = .ok (.iconst 0, 1) := by decide +kernel
theorem dX9_canByHand_156 : decode cX9_canByHand 156 = .ok (.ireturn, 1) := by decide +kernel
theorem dX9_doByHand_0 : decode cX9_doByHand 0 = .ok (.iload_n 1, 1) := by decide +kernel
theorem dX9_doByHand_1 : decode cX9_doByHand 1 = .ok (.tableswitch 83 0 3 #[31, 44, 57, 70], 31) := by decide +kernel
theorem dX9_doByHand_32 : decode cX9_doByHand 32 = .ok (.aload_n 0, 1) := by decide +kernel
theorem dX9_doByHand_33 : decode cX9_doByHand 33 = .ok (.iload_n 2, 1) := by decide +kernel
theorem dX9_doByHand_34 : decode cX9_doByHand 34 = .ok (.aload_n 0, 1) := by decide +kernel
theorem dX9_doByHand_35 : decode cX9_doByHand 35 = .ok (.iload_n 2, 1) := by decide +kernel
theorem dX9_doByHand_36 : decode cX9_doByHand 36 = .ok (.invokevirtual 63, 3) := by decide +kernel
theorem dX9_doByHand_39 : decode cX9_doByHand 39 = .ok (.invokevirtual 74, 3) := by decide +kernel
theorem dX9_doByHand_42 : decode cX9_doByHand 42 = .ok (.goto 50, 3) := by decide +kernel
theorem dX9_doByHand_45 : decode cX9_doByHand 45 = .ok (.aload_n 0, 1) := by decide +kernel
theorem dX9_doByHand_46 : decode cX9_doByHand 46 = .ok (.getfield 9, 3) := by decide +kernel
theorem dX9_doByHand_49 : decode cX9_doByHand 49 = .ok (.iload_n 2, 1) := by decide +kernel
theorem dX9_doByHand_50 : decode cX9_doByHand 50 = .ok (.iconst 0, 1) := by decide +kernel
theorem dX9_doByHand_51 : decode cX9_doByHand 51 = .ok (.iconst 1, 1) := by decide +kernel
theorem dX9_doByHand_52 : decode cX9_doByHand 52 = .ok (.invokevirtual 78, 3) := by decide +kernel
theorem dX9_doByHand_55 : decode cX9_doByHand 55 = .ok (.goto 37, 3) := by decide +kernel
theorem dX9_doByHand_58 : decode cX9_doByHand 58 = .ok (.aload_n 0, 1) := by decide +kernel
theorem dX9_doByHand_59 : decode cX9_doByHand 59 = .ok (.getfield 9, 3) := by decide +kernel
theorem dX9_doByHand_62 : decode cX9_doByHand 62 = .ok (.iload_n 2, 1) := by decide +kernel
theorem dX9_doByHand_63 : decode cX9_doByHand 63 = .ok (.iconst 1, 1) := by decide +kernel
theorem dX9_doByHand_64 : decode cX9_doByHand 64 = .ok (.iconst 1, 1) := by decide +kernel
theorem dX9_doByHand_65 : decode cX9_doByHand 65 = .ok (.invokevirtual 78, 3) := by decide +kernel
theorem dX9_doByHand_68 : decode cX9_doByHand 68 = .ok (.goto 24, 3) := by decide +kernel
theorem dX9_doByHand_71 : decode cX9_doByHand 71 = .ok (.aload_n 0, 1) := by decide +kernel
theorem dX9_doByHand_72 : decode cX9_doByHand 72 = .ok (.getfield 9, 3) := by decide +kernel
theorem dX9_doByHand_75 : decode cX9_doByHand 75 = .ok (.iload_n 2, 1) := by decide +kernel
theorem dX9_doByHand_76 : decode cX9_doByHand 76 = .ok (.iconst 4, 1) := by decide +kernel
theorem dX9_doByHand_77 : decode cX9_doByHand 77 = .ok (.iconst 0, 1) := by decide +kernel
theorem dX9_doByHand_78 : decode cX9_doByHand 78 = .ok (.invokevirtual 82, 3) := by decide +kernel
theorem dX9_doByHand_81 : decode cX9_doByHand 81 = .ok (.goto 11, 3) := by decide +kernel
theorem dX9_doByHand_84 : decode cX9_doByHand 84 = .ok (.aload_n 0, 1) := by decide +kernel
theorem dX9_doByHand_85 : decode cX9_doByHand 85 = .ok (.getfield 9, 3) := by decide +kernel
theorem dX9_doByHand_88 : decode cX9_doByHand 88 = .ok (.iload_n 2, 1) := by decide +kernel
theorem dX9_doByHand_89 : decode cX9_doByHand 89 = .ok (.putfield 71, 3) := by decide +kernel
theorem dX9_doByHand_92 : decode cX9_doByHand 92 = .ok (.return_, 1) := by decide +kernel
theorem dX9_nextOf_0 : decode cX9_nextOf 0 = .ok (.aload_n 0, 1) := by decide +kernel
theorem dX9_nextOf_1 : decode cX9_nextOf 1 = .ok (.getfield 15, 3) := by decide +kernel
theorem dX9_nextOf_4 : decode cX9_nextOf 4 = .ok (.iload_n 1, 1) := by decide +kernel
theorem dX9_nextOf_5 : decode cX9_nextOf 5 = .ok (.invokevirtual 85, 3) := by decide +kernel
theorem dX9_nextOf_8 : decode cX9_nextOf 8 = .ok (.istore_n 2, 1) := by decide +kernel
theorem dX9_nextOf_9 : decode cX9_nextOf 9 = .ok (.iload_n 2, 1) := by decide +kernel
theorem dX9_nextOf_10 : decode cX9_nextOf 10 = .ok (.ifCond .ne 7, 3) := by decide +kernel
theorem dX9_nextOf_13 : decode cX9_nextOf 13 = .ok (.iconst 1, 1) := by decide +kernel
theorem dX9_nextOf_14 : decode cX9_nextOf 14 = .ok (.goto 4, 3) := by decide +kernel
theorem dX9_nextOf_17 : decode cX9_nextOf 17 = .ok (.iconst (-1), 1) := by decide +kernel
theorem dX9_nextOf_18 : decode cX9_nextOf 18 = .ok (.istore_n 3, 1) := by decide +kernel
theorem dX9_nextOf_19 : decode cX9_nextOf 19 = .ok (.iload_n 1, 1) := by decide +kernel
theorem dX9_nextOf_20 : decode cX9_nextOf 20 = .ok (.iload_n 3, 1) := by decide +kernel
theorem dX9_nextOf_21 : decode cX9_nextOf 21 = .ok (.iadd, 1) := by decide +kernel
theorem dX9_nextOf_22 : decode cX9_nextOf 22 = .ok (.istore 4, 2) := by decide +kernel
theorem dX9_nextOf_24 : decode cX9_nextOf 24 = .ok (.iload 4, 2) := by decide +kernel
theorem dX9_nextOf_26 : decode cX9_nextOf 26 = .ok (.ifCond .lt 40, 3) := by decide +kernel
theorem dX9_nextOf_29 : decode cX9_nextOf 29 = .ok (.iload 4, 2) := by decide +kernel
theorem dX9_nextOf_31 : decode cX9_nextOf 31 = .ok (.aload_n 0, 1) := by decide +kernel
theorem dX9_nextOf_32 : decode cX9_nextOf 32 = .ok (.getfield 9, 3) := by decide +kernel
theorem dX9_nextOf_35 : decode cX9_nextOf 35 = .ok (.getfield 37, 3) := by decide +kernel
theorem dX9_nextOf_38 : decode cX9_nextOf 38 = .ok (.if_icmp .ge 28, 3) := by decide +kernel
theorem dX9_nextOf_41 : decode cX9_nextOf 41 = .ok (.aload_n 0, 1) := by decide +kernel
theorem dX9_nextOf_42 : decode cX9_nextOf 42 = .ok (.getfield 15, 3) := by decide +kernel
theorem dX9_nextOf_45 : decode cX9_nextOf 45 = .ok (.iload 4, 2) := by decide +kernel
theorem dX9_nextOf_47 : decode cX9_nextOf 47 = .ok (.invokevirtual 85, 3) := by decide +kernel
theorem dX9_nextOf_50 : decode cX9_nextOf 50 = .ok (.iload_n 2, 1) := by decide +kernel
theorem dX9_nextOf_51 : decode cX9_nextOf 51 = .ok (.if_icmp .ne 6, 3) := by decide +kernel
theorem dX9_nextOf_54 : decode cX9_nextOf 54 = .ok (.iload 4, 2) := by decide +kernel
theorem dX9_nextOf_56 : decode cX9_nextOf 56 = .ok (.ireturn, 1) := by decide +kernel
theorem dX9_nextOf_57 : decode cX9_nextOf 57 = .ok (.iload 4, 2) := by decide +kernel
theorem dX9_nextOf_59 : decode cX9_nextOf 59 = .ok (.iload_n 3, 1) := by decide +kernel
theorem dX9_nextOf_60 : decode cX9_nextOf 60 = .ok (.iadd, 1) := by decide +kernel
theorem dX9_nextOf_61 : decode cX9_nextOf 61 = .ok (.istore 4, 2) := by decide +kernel
theorem dX9_nextOf_63 : decode cX9_nextOf 63 = .ok (.goto (-39), 3) := by decide +kernel
theorem dX9_nextOf_66 : decode cX9_nextOf 66 = .ok (.iconst (-1), 1) := by decide +kernel
theorem dX9_nextOf_67 : decode cX9_nextOf 67 = .ok (.ireturn, 1) := by decide +kernel
theorem dX9_carryOutPlans_0 : decode cX9_carryOutPlans 0 = .ok (.aload_n 0, 1) := by decide +kernel
theorem dX9_carryOutPlans_1 : decode cX9_carryOutPlans 1 = .ok (.getfield 15, 3) := by decide +kernel
theorem dX9_carryOutPlans_4 : decode cX9_carryOutPlans 4 = .ok (.getfield 90, 3) := by decide +kernel
theorem dX9_carryOutPlans_7 : decode cX9_carryOutPlans 7 = .ok (.getfield 94, 3) := by decide +kernel
theorem dX9_carryOutPlans_10 : decode cX9_carryOutPlans 10 = .ok (.istore_n 1, 1) := by decide +kernel
theorem dX9_carryOutPlans_11 : decode cX9_carryOutPlans 11 = .ok (.iconst 0, 1) := by decide +kernel
theorem dX9_carryOutPlans_12 : decode cX9_carryOutPlans 12 = .ok (.istore_n 2, 1) := by decide +kernel
theorem dX9_carryOutPlans_13 : decode cX9_carryOutPlans 13 = .ok (.iload_n 2, 1) := by decide +kernel
theorem dX9_carryOutPlans_14 : decode cX9_carryOutPlans 14 = .ok (.iload_n 1, 1) := by decide +kernel
theorem dX9_carryOutPlans_15 : decode cX9_carryOutPlans 15 = .ok (.if_icmp .ge 73, 3) := by decide +kernel
theorem dX9_carryOutPlans_18 : decode cX9_carryOutPlans 18 = .ok (.aload_n 0, 1) := by decide +kernel
theorem dX9_carryOutPlans_19 : decode cX9_carryOutPlans 19 = .ok (.getfield 15, 3) := by decide +kernel
theorem dX9_carryOutPlans_22 : decode cX9_carryOutPlans 22 = .ok (.getfield 90, 3) := by decide +kernel
theorem dX9_carryOutPlans_25 : decode cX9_carryOutPlans 25 = .ok (.iload_n 2, 1) := by decide +kernel
theorem dX9_carryOutPlans_26 : decode cX9_carryOutPlans 26 = .ok (.invokevirtual 99, 3) := by decide +kernel
theorem dX9_carryOutPlans_29 : decode cX9_carryOutPlans 29 = .ok (.aload_n 0, 1) := by decide +kernel
theorem dX9_carryOutPlans_30 : decode cX9_carryOutPlans 30 = .ok (.getfield 9, 3) := by decide +kernel
theorem dX9_carryOutPlans_33 : decode cX9_carryOutPlans 33 = .ok (.getfield 56, 3) := by decide +kernel
theorem dX9_carryOutPlans_36 : decode cX9_carryOutPlans 36 = .ok (.if_icmp .ne 46, 3) := by decide +kernel
theorem dX9_carryOutPlans_39 : decode cX9_carryOutPlans 39 = .ok (.aload_n 0, 1) := by decide +kernel
theorem dX9_carryOutPlans_40 : decode cX9_carryOutPlans 40 = .ok (.aload_n 0, 1) := by decide +kernel
theorem dX9_carryOutPlans_41 : decode cX9_carryOutPlans 41 = .ok (.getfield 15, 3) := by decide +kernel
theorem dX9_carryOutPlans_44 : decode cX9_carryOutPlans 44 = .ok (.getfield 90, 3) := by decide +kernel
theorem dX9_carryOutPlans_47 : decode cX9_carryOutPlans 47 = .ok (.iload_n 2, 1) := by decide +kernel
theorem dX9_carryOutPlans_48 : decode cX9_carryOutPlans 48 = .ok (.iconst 1, 1) := by decide +kernel
theorem dX9_carryOutPlans_49 : decode cX9_carryOutPlans 49 = .ok (.iadd, 1) := by decide +kernel
theorem dX9_carryOutPlans_50 : decode cX9_carryOutPlans 50 = .ok (.invokevirtual 99, 3) := by decide +kernel
theorem dX9_carryOutPlans_53 : decode cX9_carryOutPlans 53 = .ok (.aload_n 0, 1) := by decide +kernel
theorem dX9_carryOutPlans_54 : decode cX9_carryOutPlans 54 = .ok (.getfield 15, 3) := by decide +kernel
theorem dX9_carryOutPlans_57 : decode cX9_carryOutPlans 57 = .ok (.getfield 90, 3) := by decide +kernel
theorem dX9_carryOutPlans_60 : decode cX9_carryOutPlans 60 = .ok (.iload_n 2, 1) := by decide +kernel
theorem dX9_carryOutPlans_61 : decode cX9_carryOutPlans 61 = .ok (.iconst 2, 1) := by decide +kernel
theorem dX9_carryOutPlans_62 : decode cX9_carryOutPlans 62 = .ok (.iadd, 1) := by decide +kernel
theorem dX9_carryOutPlans_63 : decode cX9_carryOutPlans 63 = .ok (.invokevirtual 99, 3) := by decide +kernel
theorem dX9_carryOutPlans_66 : decode cX9_carryOutPlans 66 = .ok (.aload_n 0, 1) := by decide +kernel
theorem dX9_carryOutPlans_67 : decode cX9_carryOutPlans 67 = .ok (.getfield 15, 3) := by decide +kernel
theorem dX9_carryOutPlans_70 : decode cX9_carryOutPlans 70 = .ok (.getfield 90, 3) := by decide +kernel
theorem dX9_carryOutPlans_73 : decode cX9_carryOutPlans 73 = .ok (.iload_n 2, 1) := by decide +kernel
theorem dX9_carryOutPlans_74 : decode cX9_carryOutPlans 74 = .ok (.iconst 3, 1) := by decide +kernel
theorem dX9_carryOutPlans_75 : decode cX9_carryOutPlans 75 = .ok (.iadd, 1) := by decide +kernel
theorem dX9_carryOutPlans_76 : decode cX9_carryOutPlans 76 = .ok (.invokevirtual 99, 3) := by decide +kernel
theorem dX9_carryOutPlans_79 : decode cX9_carryOutPlans 79 = .ok (.invokevirtual 102, 3) := by decide +kernel
theorem dX9_carryOutPlans_82 : decode cX9_carryOutPlans 82 = .ok (.iinc 2 4, 3) := by decide +kernel
theorem dX9_carryOutPlans_85 : decode cX9_carryOutPlans 85 = .ok (.goto (-72), 3) := by decide +kernel
theorem dX9_carryOutPlans_88 : decode cX9_carryOutPlans 88 = .ok (.return_, 1) := by decide +kernel
theorem dX9_carryOut_0 : decode cX9_carryOut 0 = .ok (.iload_n 1, 1) := by decide +kernel
theorem dX9_carryOut_1 : decode cX9_carryOut 1 = .ok (.tableswitch 100 1 5 #[35, 48, 61, 74, 87], 35) := by decide +kernel
theorem dX9_carryOut_36 : decode cX9_carryOut 36 = .ok (.aload_n 0, 1) := by decide +kernel
theorem dX9_carryOut_37 : decode cX9_carryOut 37 = .ok (.getfield 9, 3) := by decide +kernel
theorem dX9_carryOut_40 : decode cX9_carryOut 40 = .ok (.iload_n 2, 1) := by decide +kernel
theorem dX9_carryOut_41 : decode cX9_carryOut 41 = .ok (.iconst 0, 1) := by decide +kernel
theorem dX9_carryOut_42 : decode cX9_carryOut 42 = .ok (.iconst 1, 1) := by decide +kernel
theorem dX9_carryOut_43 : decode cX9_carryOut 43 = .ok (.invokevirtual 78, 3) := by decide +kernel
theorem dX9_carryOut_46 : decode cX9_carryOut 46 = .ok (.goto 63, 3) := by decide +kernel
theorem dX9_carryOut_49 : decode cX9_carryOut 49 = .ok (.aload_n 0, 1) := by decide +kernel
theorem dX9_carryOut_50 : decode cX9_carryOut 50 = .ok (.getfield 9, 3) := by decide +kernel
theorem dX9_carryOut_53 : decode cX9_carryOut 53 = .ok (.iload_n 2, 1) := by decide +kernel
theorem dX9_carryOut_54 : decode cX9_carryOut 54 = .ok (.iconst 1, 1) := by decide +kernel
theorem dX9_carryOut_55 : decode cX9_carryOut 55 = .ok (.iconst 1, 1) := by decide +kernel
theorem dX9_carryOut_56 : decode cX9_carryOut 56 = .ok (.invokevirtual 78, 3) := by decide +kernel
theorem dX9_carryOut_59 : decode cX9_carryOut 59 = .ok (.goto 50, 3) := by decide +kernel
theorem dX9_carryOut_62 : decode cX9_carryOut 62 = .ok (.aload_n 0, 1) := by decide +kernel
theorem dX9_carryOut_63 : decode cX9_carryOut 63 = .ok (.getfield 9, 3) := by decide +kernel
theorem dX9_carryOut_66 : decode cX9_carryOut 66 = .ok (.iload_n 2, 1) := by decide +kernel
theorem dX9_carryOut_67 : decode cX9_carryOut 67 = .ok (.iconst 4, 1) := by decide +kernel
theorem dX9_carryOut_68 : decode cX9_carryOut 68 = .ok (.iconst 1, 1) := by decide +kernel
theorem dX9_carryOut_69 : decode cX9_carryOut 69 = .ok (.invokevirtual 82, 3) := by decide +kernel
theorem dX9_carryOut_72 : decode cX9_carryOut 72 = .ok (.goto 37, 3) := by decide +kernel
theorem dX9_carryOut_75 : decode cX9_carryOut 75 = .ok (.aload_n 0, 1) := by decide +kernel
theorem dX9_carryOut_76 : decode cX9_carryOut 76 = .ok (.getfield 9, 3) := by decide +kernel
theorem dX9_carryOut_79 : decode cX9_carryOut 79 = .ok (.iload_n 2, 1) := by decide +kernel
theorem dX9_carryOut_80 : decode cX9_carryOut 80 = .ok (.iconst 4, 1) := by decide +kernel
theorem dX9_carryOut_81 : decode cX9_carryOut 81 = .ok (.iconst 0, 1) := by decide +kernel
theorem dX9_carryOut_82 : decode cX9_carryOut 82 = .ok (.invokevirtual 82, 3) := by decide +kernel
theorem dX9_carryOut_85 : decode cX9_carryOut 85 = .ok (.goto 24, 3) := by decide +kernel
theorem dX9_carryOut_88 : decode cX9_carryOut 88 = .ok (.aload_n 0, 1) := by decide +kernel
theorem dX9_carryOut_89 : decode cX9_carryOut 89 = .ok (.getfield 9, 3) := by decide +kernel
theorem dX9_carryOut_92 : decode cX9_carryOut 92 = .ok (.iload_n 2, 1) := by decide +kernel
theorem dX9_carryOut_93 : decode cX9_carryOut 93 = .ok (.iconst 2, 1) := by decide +kernel
theorem dX9_carryOut_94 : decode cX9_carryOut 94 = .ok (.iload_n 3, 1) := by decide +kernel
theorem dX9_carryOut_95 : decode cX9_carryOut 95 = .ok (.invokevirtual 78, 3) := by decide +kernel
theorem dX9_carryOut_98 : decode cX9_carryOut 98 = .ok (.goto 11, 3) := by decide +kernel
theorem dX9_carryOut_101 : decode cX9_carryOut 101 = .ok (.aload_n 0, 1) := by decide +kernel
theorem dX9_carryOut_102 : decode cX9_carryOut 102 = .ok (.getfield 9, 3) := by decide +kernel
theorem dX9_carryOut_105 : decode cX9_carryOut 105 = .ok (.iload_n 2, 1) := by decide +kernel
theorem dX9_carryOut_106 : decode cX9_carryOut 106 = .ok (.putfield 71, 3) := by decide +kernel
theorem dX9_carryOut_109 : decode cX9_carryOut 109 = .ok (.return_, 1) := by decide +kernel
theorem dX9_lookForHusband_0 : decode cX9_lookForHusband 0 = .ok (.aload_n 0, 1) := by decide +kernel
theorem dX9_lookForHusband_1 : decode cX9_lookForHusband 1 = .ok (.iload_n 1, 1) := by decide +kernel
theorem dX9_lookForHusband_2 : decode cX9_lookForHusband 2 = .ok (.invokevirtual 63, 3) := by decide +kernel
theorem dX9_lookForHusband_5 : decode cX9_lookForHusband 5 = .ok (.istore_n 2, 1) := by decide +kernel
theorem dX9_lookForHusband_6 : decode cX9_lookForHusband 6 = .ok (.aload_n 0, 1) := by decide +kernel
theorem dX9_lookForHusband_7 : decode cX9_lookForHusband 7 = .ok (.iload_n 1, 1) := by decide +kernel
theorem dX9_lookForHusband_8 : decode cX9_lookForHusband 8 = .ok (.iload_n 2, 1) := by decide +kernel
theorem dX9_lookForHusband_9 : decode cX9_lookForHusband 9 = .ok (.invokevirtual 67, 3) := by decide +kernel
theorem dX9_lookForHusband_12 : decode cX9_lookForHusband 12 = .ok (.ifCond .ne 26, 3) := by decide +kernel
theorem dX9_lookForHusband_15 : decode cX9_lookForHusband 15 = .ok (.aload_n 0, 1) := by decide +kernel
theorem dX9_lookForHusband_16 : decode cX9_lookForHusband 16 = .ok (.getfield 9, 3) := by decide +kernel
theorem dX9_lookForHusband_19 : decode cX9_lookForHusband 19 = .ok (.dup, 1) := by decide +kernel
theorem dX9_lookForHusband_20 : decode cX9_lookForHusband 20 = .ok (.getfield 105, 3) := by decide +kernel
theorem dX9_lookForHusband_23 : decode cX9_lookForHusband 23 = .ok (.iconst 1, 1) := by decide +kernel
theorem dX9_lookForHusband_24 : decode cX9_lookForHusband 24 = .ok (.iadd, 1) := by decide +kernel
theorem dX9_lookForHusband_25 : decode cX9_lookForHusband 25 = .ok (.putfield 105, 3) := by decide +kernel
theorem dX9_lookForHusband_28 : decode cX9_lookForHusband 28 = .ok (.aload_n 0, 1) := by decide +kernel
theorem dX9_lookForHusband_29 : decode cX9_lookForHusband 29 = .ok (.iconst 2, 1) := by decide +kernel
theorem dX9_lookForHusband_30 : decode cX9_lookForHusband 30 = .ok (.iload_n 1, 1) := by decide +kernel
theorem dX9_lookForHusband_31 : decode cX9_lookForHusband 31 = .ok (.iload_n 2, 1) := by decide +kernel
theorem dX9_lookForHusband_32 : decode cX9_lookForHusband 32 = .ok (.invokevirtual 108, 3) := by decide +kernel
theorem dX9_lookForHusband_35 : decode cX9_lookForHusband 35 = .ok (.goto 39, 3) := by decide +kernel
theorem dX9_lookForHusband_38 : decode cX9_lookForHusband 38 = .ok (.aload_n 0, 1) := by decide +kernel
theorem dX9_lookForHusband_39 : decode cX9_lookForHusband 39 = .ok (.aload_n 0, 1) := by decide +kernel
theorem dX9_lookForHusband_40 : decode cX9_lookForHusband 40 = .ok (.iconst 0, 1) := by decide +kernel
theorem dX9_lookForHusband_41 : decode cX9_lookForHusband 41 = .ok (.iload_n 1, 1) := by decide +kernel
theorem dX9_lookForHusband_42 : decode cX9_lookForHusband 42 = .ok (.invokevirtual 111, 3) := by decide +kernel
theorem dX9_lookForHusband_45 : decode cX9_lookForHusband 45 = .ok (.invokevirtual 114, 3) := by decide +kernel
theorem dX9_lookForHusband_48 : decode cX9_lookForHusband 48 = .ok (.ifCond .eq 26, 3) := by decide +kernel
theorem dX9_lookForHusband_51 : decode cX9_lookForHusband 51 = .ok (.iload_n 2, 1) := by decide +kernel
theorem dX9_lookForHusband_52 : decode cX9_lookForHusband 52 = .ok (.iconst (-1), 1) := by decide +kernel
theorem dX9_lookForHusband_53 : decode cX9_lookForHusband 53 = .ok (.if_icmp .eq 15, 3) := by decide +kernel
theorem dX9_lookForHusband_56 : decode cX9_lookForHusband 56 = .ok (.aload_n 0, 1) := by decide +kernel
theorem dX9_lookForHusband_57 : decode cX9_lookForHusband 57 = .ok (.dup, 1) := by decide +kernel
theorem dX9_lookForHusband_58 : decode cX9_lookForHusband 58 = .ok (.getfield 33, 3) := by decide +kernel
theorem dX9_lookForHusband_61 : decode cX9_lookForHusband 61 = .ok (.iconst 1, 1) := by decide +kernel
theorem dX9_lookForHusband_62 : decode cX9_lookForHusband 62 = .ok (.iload_n 2, 1) := by decide +kernel
theorem dX9_lookForHusband_63 : decode cX9_lookForHusband 63 = .ok (.ishl, 1) := by decide +kernel
theorem dX9_lookForHusband_64 : decode cX9_lookForHusband 64 = .ok (.ior, 1) := by decide +kernel
theorem dX9_lookForHusband_65 : decode cX9_lookForHusband 65 = .ok (.putfield 33, 3) := by decide +kernel
theorem dX9_lookForHusband_68 : decode cX9_lookForHusband 68 = .ok (.aload_n 0, 1) := by decide +kernel
theorem dX9_lookForHusband_69 : decode cX9_lookForHusband 69 = .ok (.iload_n 1, 1) := by decide +kernel
theorem dX9_lookForHusband_70 : decode cX9_lookForHusband 70 = .ok (.iload_n 2, 1) := by decide +kernel
theorem dX9_lookForHusband_71 : decode cX9_lookForHusband 71 = .ok (.invokevirtual 74, 3) := by decide +kernel
theorem dX9_lookForHusband_74 : decode cX9_lookForHusband 74 = .ok (.return_, 1) := by decide +kernel
theorem dX9_canGo_0 : decode cX9_canGo 0 = .ok (.iload_n 2, 1) := by decide +kernel
theorem dX9_canGo_1 : decode cX9_canGo 1 = .ok (.iconst (-1), 1) := by decide +kernel
theorem dX9_canGo_2 : decode cX9_canGo 2 = .ok (.if_icmp .ne 5, 3) := by decide +kernel
theorem dX9_canGo_5 : decode cX9_canGo 5 = .ok (.iconst 1, 1) := by decide +kernel
theorem dX9_canGo_6 : decode cX9_canGo 6 = .ok (.ireturn, 1) := by decide +kernel
theorem dX9_canGo_7 : decode cX9_canGo 7 = .ok (.aload_n 0, 1) := by decide +kernel
theorem dX9_canGo_8 : decode cX9_canGo 8 = .ok (.getfield 9, 3) := by decide +kernel
theorem dX9_canGo_11 : decode cX9_canGo 11 = .ok (.iload_n 2, 1) := by decide +kernel
theorem dX9_canGo_12 : decode cX9_canGo 12 = .ok (.iconst 1, 1) := by decide +kernel
theorem dX9_canGo_13 : decode cX9_canGo 13 = .ok (.invokevirtual 42, 3) := by decide +kernel
theorem dX9_canGo_16 : decode cX9_canGo 16 = .ok (.ifCond .le 31, 3) := by decide +kernel
theorem dX9_canGo_19 : decode cX9_canGo 19 = .ok (.aload_n 0, 1) := by decide +kernel
theorem dX9_canGo_20 : decode cX9_canGo 20 = .ok (.getfield 9, 3) := by decide +kernel
theorem dX9_canGo_23 : decode cX9_canGo 23 = .ok (.iload_n 2, 1) := by decide +kernel
theorem dX9_canGo_24 : decode cX9_canGo 24 = .ok (.iconst 4, 1) := by decide +kernel
theorem dX9_canGo_25 : decode cX9_canGo 25 = .ok (.invokevirtual 42, 3) := by decide +kernel
theorem dX9_canGo_28 : decode cX9_canGo 28 = .ok (.ifCond .ne 19, 3) := by decide +kernel
theorem dX9_canGo_31 : decode cX9_canGo 31 = .ok (.aload_n 0, 1) := by decide +kernel
theorem dX9_canGo_32 : decode cX9_canGo 32 = .ok (.getfield 15, 3) := by decide +kernel
theorem dX9_canGo_35 : decode cX9_canGo 35 = .ok (.iload_n 1, 1) := by decide +kernel
theorem dX9_canGo_36 : decode cX9_canGo 36 = .ok (.iload_n 2, 1) := by decide +kernel
theorem dX9_canGo_37 : decode cX9_canGo 37 = .ok (.invokevirtual 117, 3) := by decide +kernel
theorem dX9_canGo_40 : decode cX9_canGo 40 = .ok (.ifCond .ne 7, 3) := by decide +kernel
theorem dX9_canGo_43 : decode cX9_canGo 43 = .ok (.iconst 1, 1) := by decide +kernel
theorem dX9_canGo_44 : decode cX9_canGo 44 = .ok (.goto 4, 3) := by decide +kernel
theorem dX9_canGo_47 : decode cX9_canGo 47 = .ok (.iconst 0, 1) := by decide +kernel
theorem dX9_canGo_48 : decode cX9_canGo 48 = .ok (.ireturn, 1) := by decide +kernel
theorem dX9_isLucky_0 : decode cX9_isLucky 0 = .ok (.aload_n 0, 1) := by decide +kernel
theorem dX9_isLucky_1 : decode cX9_isLucky 1 = .ok (.getfield 23, 3) := by decide +kernel
theorem dX9_isLucky_4 : decode cX9_isLucky 4 = .ok (.ifCond .eq 16, 3) := by decide +kernel
theorem dX9_isLucky_7 : decode cX9_isLucky 7 = .ok (.iload_n 1, 1) := by decide +kernel
theorem dX9_isLucky_8 : decode cX9_isLucky 8 = .ok (.sipush 500, 3) := by decide +kernel
theorem dX9_isLucky_11 : decode cX9_isLucky 11 = .ok (.if_icmp .lt 7, 3) := by decide +kernel
theorem dX9_isLucky_14 : decode cX9_isLucky 14 = .ok (.iconst 1, 1) := by decide +kernel
theorem dX9_isLucky_15 : decode cX9_isLucky 15 = .ok (.goto 4, 3) := by decide +kernel
theorem dX9_isLucky_18 : decode cX9_isLucky 18 = .ok (.iconst 0, 1) := by decide +kernel
theorem dX9_isLucky_19 : decode cX9_isLucky 19 = .ok (.ireturn, 1) := by decide +kernel
theorem dX9_isLucky_20 : decode cX9_isLucky 20 = .ok (.iload_n 1, 1) := by decide +kernel
theorem dX9_isLucky_21 : decode cX9_isLucky 21 = .ok (.ifCond .le 21, 3) := by decide +kernel
theorem dX9_isLucky_24 : decode cX9_isLucky 24 = .ok (.aload_n 0, 1) := by decide +kernel
theorem dX9_isLucky_25 : decode cX9_isLucky 25 = .ok (.getfield 9, 3) := by decide +kernel
theorem dX9_isLucky_28 : decode cX9_isLucky 28 = .ok (.sipush 1000, 3) := by decide +kernel
theorem dX9_isLucky_31 : decode cX9_isLucky 31 = .ok (.invokevirtual 120, 3) := by decide +kernel
theorem dX9_isLucky_34 : decode cX9_isLucky 34 = .ok (.iload_n 1, 1) := by decide +kernel
theorem dX9_isLucky_35 : decode cX9_isLucky 35 = .ok (.if_icmp .ge 7, 3) := by decide +kernel
theorem dX9_isLucky_38 : decode cX9_isLucky 38 = .ok (.iconst 1, 1) := by decide +kernel
theorem dX9_isLucky_39 : decode cX9_isLucky 39 = .ok (.goto 4, 3) := by decide +kernel
theorem dX9_isLucky_42 : decode cX9_isLucky 42 = .ok (.iconst 0, 1) := by decide +kernel
theorem dX9_isLucky_43 : decode cX9_isLucky 43 = .ok (.ireturn, 1) := by decide +kernel
theorem dX9_wed_0 : decode cX9_wed 0 = .ok (.aload_n 0, 1) := by decide +kernel
theorem dX9_wed_1 : decode cX9_wed 1 = .ok (.getfield 9, 3) := by decide +kernel
theorem dX9_wed_4 : decode cX9_wed 4 = .ok (.iload_n 1, 1) := by decide +kernel
theorem dX9_wed_5 : decode cX9_wed 5 = .ok (.iconst 0, 1) := by decide +kernel
theorem dX9_wed_6 : decode cX9_wed 6 = .ok (.iconst (-1), 1) := by decide +kernel
theorem dX9_wed_7 : decode cX9_wed 7 = .ok (.invokevirtual 78, 3) := by decide +kernel
theorem dX9_wed_10 : decode cX9_wed 10 = .ok (.aload_n 0, 1) := by decide +kernel
theorem dX9_wed_11 : decode cX9_wed 11 = .ok (.iconst 2, 1) := by decide +kernel
theorem dX9_wed_12 : decode cX9_wed 12 = .ok (.iload_n 1, 1) := by decide +kernel
theorem dX9_wed_13 : decode cX9_wed 13 = .ok (.invokevirtual 111, 3) := by decide +kernel
theorem dX9_wed_16 : decode cX9_wed 16 = .ok (.istore_n 3, 1) := by decide +kernel
theorem dX9_wed_17 : decode cX9_wed 17 = .ok (.aload_n 0, 1) := by decide +kernel
theorem dX9_wed_18 : decode cX9_wed 18 = .ok (.getfield 9, 3) := by decide +kernel
theorem dX9_wed_21 : decode cX9_wed 21 = .ok (.iload_n 1, 1) := by decide +kernel
theorem dX9_wed_22 : decode cX9_wed 22 = .ok (.iconst 2, 1) := by decide +kernel
theorem dX9_wed_23 : decode cX9_wed 23 = .ok (.iload_n 3, 1) := by decide +kernel
theorem dX9_wed_24 : decode cX9_wed 24 = .ok (.ineg, 1) := by decide +kernel
theorem dX9_wed_25 : decode cX9_wed 25 = .ok (.invokevirtual 78, 3) := by decide +kernel
theorem dX9_wed_28 : decode cX9_wed 28 = .ok (.aload_n 0, 1) := by decide +kernel
theorem dX9_wed_29 : decode cX9_wed 29 = .ok (.getfield 9, 3) := by decide +kernel
theorem dX9_wed_32 : decode cX9_wed 32 = .ok (.iload_n 1, 1) := by decide +kernel
theorem dX9_wed_33 : decode cX9_wed 33 = .ok (.iconst 5, 1) := by decide +kernel
theorem dX9_wed_34 : decode cX9_wed 34 = .ok (.invokevirtual 42, 3) := by decide +kernel
theorem dX9_wed_37 : decode cX9_wed 37 = .ok (.istore 4, 2) := by decide +kernel
theorem dX9_wed_39 : decode cX9_wed 39 = .ok (.aload_n 0, 1) := by decide +kernel
theorem dX9_wed_40 : decode cX9_wed 40 = .ok (.getfield 9, 3) := by decide +kernel
theorem dX9_wed_43 : decode cX9_wed 43 = .ok (.iload_n 1, 1) := by decide +kernel
theorem dX9_wed_44 : decode cX9_wed 44 = .ok (.iconst 5, 1) := by decide +kernel
theorem dX9_wed_45 : decode cX9_wed 45 = .ok (.iconst (-1), 1) := by decide +kernel
theorem dX9_wed_46 : decode cX9_wed 46 = .ok (.invokevirtual 82, 3) := by decide +kernel
theorem dX9_wed_49 : decode cX9_wed 49 = .ok (.iload_n 2, 1) := by decide +kernel
theorem dX9_wed_50 : decode cX9_wed 50 = .ok (.iconst (-1), 1) := by decide +kernel
theorem dX9_wed_51 : decode cX9_wed 51 = .ok (.if_icmp .ne 24, 3) := by decide +kernel
theorem dX9_wed_54 : decode cX9_wed 54 = .ok (.aload_n 0, 1) := by decide +kernel
theorem dX9_wed_55 : decode cX9_wed 55 = .ok (.getfield 9, 3) := by decide +kernel
theorem dX9_wed_58 : decode cX9_wed 58 = .ok (.dup, 1) := by decide +kernel
theorem dX9_wed_59 : decode cX9_wed 59 = .ok (.getfield 123, 3) := by decide +kernel
theorem dX9_wed_62 : decode cX9_wed 62 = .ok (.iconst 1, 1) := by decide +kernel
theorem dX9_wed_63 : decode cX9_wed 63 = .ok (.iadd, 1) := by decide +kernel
theorem dX9_wed_64 : decode cX9_wed 64 = .ok (.putfield 123, 3) := by decide +kernel
theorem dX9_wed_67 : decode cX9_wed 67 = .ok (.aload_n 0, 1) := by decide +kernel
theorem dX9_wed_68 : decode cX9_wed 68 = .ok (.iconst 1, 1) := by decide +kernel
theorem dX9_wed_69 : decode cX9_wed 69 = .ok (.iload_n 1, 1) := by decide +kernel
theorem dX9_wed_70 : decode cX9_wed 70 = .ok (.iload_n 3, 1) := by decide +kernel
theorem dX9_wed_71 : decode cX9_wed 71 = .ok (.invokevirtual 108, 3) := by decide +kernel
theorem dX9_wed_74 : decode cX9_wed 74 = .ok (.return_, 1) := by decide +kernel
theorem dX9_wed_75 : decode cX9_wed 75 = .ok (.aload_n 0, 1) := by decide +kernel
theorem dX9_wed_76 : decode cX9_wed 76 = .ok (.getfield 9, 3) := by decide +kernel
theorem dX9_wed_79 : decode cX9_wed 79 = .ok (.iload_n 2, 1) := by decide +kernel
theorem dX9_wed_80 : decode cX9_wed 80 = .ok (.iconst 2, 1) := by decide +kernel
theorem dX9_wed_81 : decode cX9_wed 81 = .ok (.iload_n 3, 1) := by decide +kernel
theorem dX9_wed_82 : decode cX9_wed 82 = .ok (.invokevirtual 78, 3) := by decide +kernel
theorem dX9_wed_85 : decode cX9_wed 85 = .ok (.aload_n 0, 1) := by decide +kernel
theorem dX9_wed_86 : decode cX9_wed 86 = .ok (.getfield 9, 3) := by decide +kernel
theorem dX9_wed_89 : decode cX9_wed 89 = .ok (.iload_n 2, 1) := by decide +kernel
theorem dX9_wed_90 : decode cX9_wed 90 = .ok (.iconst 1, 1) := by decide +kernel
theorem dX9_wed_91 : decode cX9_wed 91 = .ok (.iconst (-1), 1) := by decide +kernel
theorem dX9_wed_92 : decode cX9_wed 92 = .ok (.invokevirtual 78, 3) := by decide +kernel
theorem dX9_wed_95 : decode cX9_wed 95 = .ok (.aload_n 0, 1) := by decide +kernel
theorem dX9_wed_96 : decode cX9_wed 96 = .ok (.getfield 9, 3) := by decide +kernel
theorem dX9_wed_99 : decode cX9_wed 99 = .ok (.iload_n 2, 1) := by decide +kernel
theorem dX9_wed_100 : decode cX9_wed 100 = .ok (.iconst 3, 1) := by decide +kernel
theorem dX9_wed_101 : decode cX9_wed 101 = .ok (.iconst 1, 1) := by decide +kernel
theorem dX9_wed_102 : decode cX9_wed 102 = .ok (.invokevirtual 78, 3) := by decide +kernel
theorem dX9_wed_105 : decode cX9_wed 105 = .ok (.aload_n 0, 1) := by decide +kernel
theorem dX9_wed_106 : decode cX9_wed 106 = .ok (.getfield 9, 3) := by decide +kernel
theorem dX9_wed_109 : decode cX9_wed 109 = .ok (.dup, 1) := by decide +kernel
theorem dX9_wed_110 : decode cX9_wed 110 = .ok (.getfield 126, 3) := by decide +kernel
theorem dX9_wed_113 : decode cX9_wed 113 = .ok (.iconst 1, 1) := by decide +kernel
theorem dX9_wed_114 : decode cX9_wed 114 = .ok (.iadd, 1) := by decide +kernel
theorem dX9_wed_115 : decode cX9_wed 115 = .ok (.putfield 126, 3) := by decide +kernel
theorem dX9_wed_118 : decode cX9_wed 118 = .ok (.iload 4, 2) := by decide +kernel
theorem dX9_wed_120 : decode cX9_wed 120 = .ok (.iconst (-1), 1) := by decide +kernel
theorem dX9_wed_121 : decode cX9_wed 121 = .ok (.if_icmp .eq 14, 3) := by decide +kernel
theorem dX9_wed_124 : decode cX9_wed 124 = .ok (.aload_n 0, 1) := by decide +kernel
theorem dX9_wed_125 : decode cX9_wed 125 = .ok (.getfield 9, 3) := by decide +kernel
theorem dX9_wed_128 : decode cX9_wed 128 = .ok (.iload_n 2, 1) := by decide +kernel
theorem dX9_wed_129 : decode cX9_wed 129 = .ok (.iconst 5, 1) := by decide +kernel
theorem dX9_wed_130 : decode cX9_wed 130 = .ok (.iload 4, 2) := by decide +kernel
theorem dX9_wed_132 : decode cX9_wed 132 = .ok (.invokevirtual 82, 3) := by decide +kernel
theorem dX9_wed_135 : decode cX9_wed 135 = .ok (.aload_n 0, 1) := by decide +kernel
theorem dX9_wed_136 : decode cX9_wed 136 = .ok (.getfield 9, 3) := by decide +kernel
theorem dX9_wed_139 : decode cX9_wed 139 = .ok (.getfield 71, 3) := by decide +kernel
theorem dX9_wed_142 : decode cX9_wed 142 = .ok (.iload_n 1, 1) := by decide +kernel
theorem dX9_wed_143 : decode cX9_wed 143 = .ok (.if_icmp .ne 11, 3) := by decide +kernel
theorem dX9_wed_146 : decode cX9_wed 146 = .ok (.aload_n 0, 1) := by decide +kernel
theorem dX9_wed_147 : decode cX9_wed 147 = .ok (.getfield 9, 3) := by decide +kernel
theorem dX9_wed_150 : decode cX9_wed 150 = .ok (.iload_n 2, 1) := by decide +kernel
theorem dX9_wed_151 : decode cX9_wed 151 = .ok (.putfield 71, 3) := by decide +kernel
theorem dX9_wed_154 : decode cX9_wed 154 = .ok (.aload_n 0, 1) := by decide +kernel
theorem dX9_wed_155 : decode cX9_wed 155 = .ok (.iconst 0, 1) := by decide +kernel
theorem dX9_wed_156 : decode cX9_wed 156 = .ok (.iload_n 1, 1) := by decide +kernel
theorem dX9_wed_157 : decode cX9_wed 157 = .ok (.iload_n 3, 1) := by decide +kernel
theorem dX9_wed_158 : decode cX9_wed 158 = .ok (.invokevirtual 108, 3) := by decide +kernel
theorem dX9_wed_161 : decode cX9_wed 161 = .ok (.return_, 1) := by decide +kernel
theorem dX9_bear_0 : decode cX9_bear 0 = .ok (.aload_n 0, 1) := by decide +kernel
theorem dX9_bear_1 : decode cX9_bear 1 = .ok (.getfield 9, 3) := by decide +kernel
theorem dX9_bear_4 : decode cX9_bear 4 = .ok (.iload_n 1, 1) := by decide +kernel
theorem dX9_bear_5 : decode cX9_bear 5 = .ok (.iconst 3, 1) := by decide +kernel
theorem dX9_bear_6 : decode cX9_bear 6 = .ok (.invokevirtual 42, 3) := by decide +kernel
theorem dX9_bear_9 : decode cX9_bear 9 = .ok (.istore_n 2, 1) := by decide +kernel
theorem dX9_bear_10 : decode cX9_bear 10 = .ok (.iconst 0, 1) := by decide +kernel
theorem dX9_bear_11 : decode cX9_bear 11 = .ok (.istore_n 3, 1) := by decide +kernel
theorem dX9_bear_12 : decode cX9_bear 12 = .ok (.iconst 0, 1) := by decide +kernel
theorem dX9_bear_13 : decode cX9_bear 13 = .ok (.istore 4, 2) := by decide +kernel
theorem dX9_bear_15 : decode cX9_bear 15 = .ok (.iconst 0, 1) := by decide +kernel
theorem dX9_bear_16 : decode cX9_bear 16 = .ok (.istore 5, 2) := by decide +kernel
theorem dX9_bear_18 : decode cX9_bear 18 = .ok (.iload 5, 2) := by decide +kernel
theorem dX9_bear_20 : decode cX9_bear 20 = .ok (.iload_n 2, 1) := by decide +kernel
theorem dX9_bear_21 : decode cX9_bear 21 = .ok (.if_icmp .ge 96, 3) := by decide +kernel
theorem dX9_bear_24 : decode cX9_bear 24 = .ok (.aload_n 0, 1) := by decide +kernel
theorem dX9_bear_25 : decode cX9_bear 25 = .ok (.iconst 1, 1) := by decide +kernel
theorem dX9_bear_26 : decode cX9_bear 26 = .ok (.iload_n 1, 1) := by decide +kernel
theorem dX9_bear_27 : decode cX9_bear 27 = .ok (.invokevirtual 111, 3) := by decide +kernel
theorem dX9_bear_30 : decode cX9_bear 30 = .ok (.istore 6, 2) := by decide +kernel
theorem dX9_bear_32 : decode cX9_bear 32 = .ok (.iconst 0, 1) := by decide +kernel
theorem dX9_bear_33 : decode cX9_bear 33 = .ok (.istore 7, 2) := by decide +kernel
theorem dX9_bear_35 : decode cX9_bear 35 = .ok (.iload 7, 2) := by decide +kernel
theorem dX9_bear_37 : decode cX9_bear 37 = .ok (.iload 6, 2) := by decide +kernel
theorem dX9_bear_39 : decode cX9_bear 39 = .ok (.if_icmp .ge 72, 3) := by decide +kernel
theorem dX9_bear_42 : decode cX9_bear 42 = .ok (.aload_n 0, 1) := by decide +kernel
theorem dX9_bear_43 : decode cX9_bear 43 = .ok (.getfield 23, 3) := by decide +kernel
theorem dX9_bear_46 : decode cX9_bear 46 = .ok (.ifCond .eq 9, 3) := by decide +kernel
theorem dX9_bear_49 : decode cX9_bear 49 = .ok (.iload_n 3, 1) := by decide +kernel
theorem dX9_bear_50 : decode cX9_bear 50 = .ok (.iconst 2, 1) := by decide +kernel
theorem dX9_bear_51 : decode cX9_bear 51 = .ok (.irem, 1) := by decide +kernel
theorem dX9_bear_52 : decode cX9_bear 52 = .ok (.goto 11, 3) := by decide +kernel
theorem dX9_bear_55 : decode cX9_bear 55 = .ok (.aload_n 0, 1) := by decide +kernel
theorem dX9_bear_56 : decode cX9_bear 56 = .ok (.getfield 9, 3) := by decide +kernel
theorem dX9_bear_59 : decode cX9_bear 59 = .ok (.iconst 2, 1) := by decide +kernel
theorem dX9_bear_60 : decode cX9_bear 60 = .ok (.invokevirtual 120, 3) := by decide +kernel
theorem dX9_bear_63 : decode cX9_bear 63 = .ok (.ifCond .ne 7, 3) := by decide +kernel
theorem dX9_bear_66 : decode cX9_bear 66 = .ok (.iconst 0, 1) := by decide +kernel
theorem dX9_bear_67 : decode cX9_bear 67 = .ok (.goto 4, 3) := by decide +kernel
theorem dX9_bear_70 : decode cX9_bear 70 = .ok (.iconst 1, 1) := by decide +kernel
theorem dX9_bear_71 : decode cX9_bear 71 = .ok (.istore 8, 2) := by decide +kernel
theorem dX9_bear_73 : decode cX9_bear 73 = .ok (.iinc 3 1, 3) := by decide +kernel
theorem dX9_bear_76 : decode cX9_bear 76 = .ok (.aload_n 0, 1) := by decide +kernel
theorem dX9_bear_77 : decode cX9_bear 77 = .ok (.getfield 9, 3) := by decide +kernel
theorem dX9_bear_80 : decode cX9_bear 80 = .ok (.iload_n 1, 1) := by decide +kernel
theorem dX9_bear_81 : decode cX9_bear 81 = .ok (.iload 8, 2) := by decide +kernel
theorem dX9_bear_83 : decode cX9_bear 83 = .ok (.invokevirtual 42, 3) := by decide +kernel
theorem dX9_bear_86 : decode cX9_bear 86 = .ok (.bipush 9, 2) := by decide +kernel
theorem dX9_bear_88 : decode cX9_bear 88 = .ok (.if_icmp .ge 17, 3) := by decide +kernel
theorem dX9_bear_91 : decode cX9_bear 91 = .ok (.aload_n 0, 1) := by decide +kernel
theorem dX9_bear_92 : decode cX9_bear 92 = .ok (.getfield 9, 3) := by decide +kernel
theorem dX9_bear_95 : decode cX9_bear 95 = .ok (.iload_n 1, 1) := by decide +kernel
theorem dX9_bear_96 : decode cX9_bear 96 = .ok (.iload 8, 2) := by decide +kernel
theorem dX9_bear_98 : decode cX9_bear 98 = .ok (.iconst 1, 1) := by decide +kernel
theorem dX9_bear_99 : decode cX9_bear 99 = .ok (.invokevirtual 78, 3) := by decide +kernel
theorem dX9_bear_102 : decode cX9_bear 102 = .ok (.iinc 4 1, 3) := by decide +kernel
theorem dX9_bear_105 : decode cX9_bear 105 = .ok (.iinc 7 1, 3) := by decide +kernel
theorem dX9_bear_108 : decode cX9_bear 108 = .ok (.goto (-73), 3) := by decide +kernel
theorem dX9_bear_111 : decode cX9_bear 111 = .ok (.iinc 5 1, 3) := by decide +kernel
theorem dX9_bear_114 : decode cX9_bear 114 = .ok (.goto (-96), 3) := by decide +kernel
theorem dX9_bear_117 : decode cX9_bear 117 = .ok (.aload_n 0, 1) := by decide +kernel
theorem dX9_bear_118 : decode cX9_bear 118 = .ok (.getfield 9, 3) := by decide +kernel
theorem dX9_bear_121 : decode cX9_bear 121 = .ok (.iload_n 1, 1) := by decide +kernel
theorem dX9_bear_122 : decode cX9_bear 122 = .ok (.iconst 3, 1) := by decide +kernel
theorem dX9_bear_123 : decode cX9_bear 123 = .ok (.iconst 0, 1) := by decide +kernel
theorem dX9_bear_124 : decode cX9_bear 124 = .ok (.invokevirtual 82, 3) := by decide +kernel
theorem dX9_bear_127 : decode cX9_bear 127 = .ok (.iload 4, 2) := by decide +kernel
theorem dX9_bear_129 : decode cX9_bear 129 = .ok (.ifCond .le 11, 3) := by decide +kernel
theorem dX9_bear_132 : decode cX9_bear 132 = .ok (.aload_n 0, 1) := by decide +kernel
theorem dX9_bear_133 : decode cX9_bear 133 = .ok (.iconst 3, 1) := by decide +kernel
theorem dX9_bear_134 : decode cX9_bear 134 = .ok (.iload_n 1, 1) := by decide +kernel
theorem dX9_bear_135 : decode cX9_bear 135 = .ok (.iload 4, 2) := by decide +kernel
theorem dX9_bear_137 : decode cX9_bear 137 = .ok (.invokevirtual 108, 3) := by decide +kernel
theorem dX9_bear_140 : decode cX9_bear 140 = .ok (.return_, 1) := by decide +kernel
theorem dX9_beWidowed_0 : decode cX9_beWidowed 0 = .ok (.aload_n 0, 1) := by decide +kernel
theorem dX9_beWidowed_1 : decode cX9_beWidowed 1 = .ok (.getfield 33, 3) := by decide +kernel
theorem dX9_beWidowed_4 : decode cX9_beWidowed 4 = .ok (.iload_n 1, 1) := by decide +kernel
theorem dX9_beWidowed_5 : decode cX9_beWidowed 5 = .ok (.ishr, 1) := by decide +kernel
theorem dX9_beWidowed_6 : decode cX9_beWidowed 6 = .ok (.iconst 1, 1) := by decide +kernel
theorem dX9_beWidowed_7 : decode cX9_beWidowed 7 = .ok (.iand, 1) := by decide +kernel
theorem dX9_beWidowed_8 : decode cX9_beWidowed 8 = .ok (.ifCond .ne 31, 3) := by decide +kernel
theorem dX9_beWidowed_11 : decode cX9_beWidowed 11 = .ok (.aload_n 0, 1) := by decide +kernel
theorem dX9_beWidowed_12 : decode cX9_beWidowed 12 = .ok (.getfield 9, 3) := by decide +kernel
theorem dX9_beWidowed_15 : decode cX9_beWidowed 15 = .ok (.iload_n 1, 1) := by decide +kernel
theorem dX9_beWidowed_16 : decode cX9_beWidowed 16 = .ok (.iconst 1, 1) := by decide +kernel
theorem dX9_beWidowed_17 : decode cX9_beWidowed 17 = .ok (.invokevirtual 42, 3) := by decide +kernel
theorem dX9_beWidowed_20 : decode cX9_beWidowed 20 = .ok (.ifCond .le 19, 3) := by decide +kernel
theorem dX9_beWidowed_23 : decode cX9_beWidowed 23 = .ok (.aload_n 0, 1) := by decide +kernel
theorem dX9_beWidowed_24 : decode cX9_beWidowed 24 = .ok (.getfield 9, 3) := by decide +kernel
theorem dX9_beWidowed_27 : decode cX9_beWidowed 27 = .ok (.iload_n 1, 1) := by decide +kernel
theorem dX9_beWidowed_28 : decode cX9_beWidowed 28 = .ok (.iconst 0, 1) := by decide +kernel
theorem dX9_beWidowed_29 : decode cX9_beWidowed 29 = .ok (.invokevirtual 42, 3) := by decide +kernel
theorem dX9_beWidowed_32 : decode cX9_beWidowed 32 = .ok (.ifCond .ne 7, 3) := by decide +kernel
theorem dX9_beWidowed_35 : decode cX9_beWidowed 35 = .ok (.iconst 1, 1) := by decide +kernel
theorem dX9_beWidowed_36 : decode cX9_beWidowed 36 = .ok (.goto 4, 3) := by decide +kernel
theorem dX9_beWidowed_39 : decode cX9_beWidowed 39 = .ok (.iconst 0, 1) := by decide +kernel
theorem dX9_beWidowed_40 : decode cX9_beWidowed 40 = .ok (.istore_n 2, 1) := by decide +kernel
theorem dX9_beWidowed_41 : decode cX9_beWidowed 41 = .ok (.iload_n 2, 1) := by decide +kernel
theorem dX9_beWidowed_42 : decode cX9_beWidowed 42 = .ok (.ifCond .eq 32, 3) := by decide +kernel
theorem dX9_beWidowed_45 : decode cX9_beWidowed 45 = .ok (.aload_n 0, 1) := by decide +kernel
theorem dX9_beWidowed_46 : decode cX9_beWidowed 46 = .ok (.getfield 9, 3) := by decide +kernel
theorem dX9_beWidowed_49 : decode cX9_beWidowed 49 = .ok (.iload_n 1, 1) := by decide +kernel
theorem dX9_beWidowed_50 : decode cX9_beWidowed 50 = .ok (.iconst 4, 1) := by decide +kernel
theorem dX9_beWidowed_51 : decode cX9_beWidowed 51 = .ok (.invokevirtual 42, 3) := by decide +kernel
theorem dX9_beWidowed_54 : decode cX9_beWidowed 54 = .ok (.ifCond .ne 20, 3) := by decide +kernel
theorem dX9_beWidowed_57 : decode cX9_beWidowed 57 = .ok (.aload_n 0, 1) := by decide +kernel
theorem dX9_beWidowed_58 : decode cX9_beWidowed 58 = .ok (.getfield 9, 3) := by decide +kernel
theorem dX9_beWidowed_61 : decode cX9_beWidowed 61 = .ok (.iload_n 1, 1) := by decide +kernel
theorem dX9_beWidowed_62 : decode cX9_beWidowed 62 = .ok (.iconst 4, 1) := by decide +kernel
theorem dX9_beWidowed_63 : decode cX9_beWidowed 63 = .ok (.iconst 1, 1) := by decide +kernel
theorem dX9_beWidowed_64 : decode cX9_beWidowed 64 = .ok (.invokevirtual 82, 3) := by decide +kernel
theorem dX9_beWidowed_67 : decode cX9_beWidowed 67 = .ok (.aload_n 0, 1) := by decide +kernel
theorem dX9_beWidowed_68 : decode cX9_beWidowed 68 = .ok (.iconst 4, 1) := by decide +kernel
theorem dX9_beWidowed_69 : decode cX9_beWidowed 69 = .ok (.iload_n 1, 1) := by decide +kernel
theorem dX9_beWidowed_70 : decode cX9_beWidowed 70 = .ok (.iconst 0, 1) := by decide +kernel
theorem dX9_beWidowed_71 : decode cX9_beWidowed 71 = .ok (.invokevirtual 108, 3) := by decide +kernel
theorem dX9_beWidowed_74 : decode cX9_beWidowed 74 = .ok (.return_, 1) := by decide +kernel
theorem dX9_note_0 : decode cX9_note 0 = .ok (.aload_n 0, 1) := by decide +kernel
theorem dX9_note_1 : decode cX9_note 1 = .ok (.getfield 23, 3) := by decide +kernel
theorem dX9_note_4 : decode cX9_note 4 = .ok (.ifCond .ne 26, 3) := by decide +kernel
theorem dX9_note_7 : decode cX9_note 7 = .ok (.aload_n 0, 1) := by decide +kernel
theorem dX9_note_8 : decode cX9_note 8 = .ok (.getfield 9, 3) := by decide +kernel
theorem dX9_note_11 : decode cX9_note 11 = .ok (.getfield 129, 3) := by decide +kernel
theorem dX9_note_14 : decode cX9_note 14 = .ok (.ifCond .lt 16, 3) := by decide +kernel
theorem dX9_note_17 : decode cX9_note 17 = .ok (.aload_n 0, 1) := by decide +kernel
theorem dX9_note_18 : decode cX9_note 18 = .ok (.getfield 9, 3) := by decide +kernel
theorem dX9_note_21 : decode cX9_note 21 = .ok (.getfield 129, 3) := by decide +kernel
theorem dX9_note_24 : decode cX9_note 24 = .ok (.sipush 150, 3) := by decide +kernel
theorem dX9_note_27 : decode cX9_note 27 = .ok (.if_icmp .lt 4, 3) := by decide +kernel
theorem dX9_note_30 : decode cX9_note 30 = .ok (.return_, 1) := by decide +kernel
theorem dX9_note_31 : decode cX9_note 31 = .ok (.aload_n 0, 1) := by decide +kernel
theorem dX9_note_32 : decode cX9_note 32 = .ok (.getfield 9, 3) := by decide +kernel
theorem dX9_note_35 : decode cX9_note 35 = .ok (.getfield 129, 3) := by decide +kernel
theorem dX9_note_38 : decode cX9_note 38 = .ok (.iconst 4, 1) := by decide +kernel
theorem dX9_note_39 : decode cX9_note 39 = .ok (.imul, 1) := by decide +kernel
theorem dX9_note_40 : decode cX9_note 40 = .ok (.istore 4, 2) := by decide +kernel
theorem dX9_note_42 : decode cX9_note 42 = .ok (.aload_n 0, 1) := by decide +kernel
theorem dX9_note_43 : decode cX9_note 43 = .ok (.getfield 19, 3) := by decide +kernel
theorem dX9_note_46 : decode cX9_note 46 = .ok (.iload 4, 2) := by decide +kernel
theorem dX9_note_48 : decode cX9_note 48 = .ok (.aload_n 0, 1) := by decide +kernel
theorem dX9_note_49 : decode cX9_note 49 = .ok (.getfield 9, 3) := by decide +kernel
theorem dX9_note_52 : decode cX9_note 52 = .ok (.getfield 56, 3) := by decide +kernel
theorem dX9_note_55 : decode cX9_note 55 = .ok (.iastore, 1) := by decide +kernel
theorem dX9_note_56 : decode cX9_note 56 = .ok (.aload_n 0, 1) := by decide +kernel
theorem dX9_note_57 : decode cX9_note 57 = .ok (.getfield 19, 3) := by decide +kernel
theorem dX9_note_60 : decode cX9_note 60 = .ok (.iload 4, 2) := by decide +kernel
theorem dX9_note_62 : decode cX9_note 62 = .ok (.iconst 1, 1) := by decide +kernel
theorem dX9_note_63 : decode cX9_note 63 = .ok (.iadd, 1) := by decide +kernel
theorem dX9_note_64 : decode cX9_note 64 = .ok (.iload_n 1, 1) := by decide +kernel
theorem dX9_note_65 : decode cX9_note 65 = .ok (.iastore, 1) := by decide +kernel
theorem dX9_note_66 : decode cX9_note 66 = .ok (.aload_n 0, 1) := by decide +kernel
theorem dX9_note_67 : decode cX9_note 67 = .ok (.getfield 19, 3) := by decide +kernel
theorem dX9_note_70 : decode cX9_note 70 = .ok (.iload 4, 2) := by decide +kernel
theorem dX9_note_72 : decode cX9_note 72 = .ok (.iconst 2, 1) := by decide +kernel
theorem dX9_note_73 : decode cX9_note 73 = .ok (.iadd, 1) := by decide +kernel
theorem dX9_note_74 : decode cX9_note 74 = .ok (.iload_n 2, 1) := by decide +kernel
theorem dX9_note_75 : decode cX9_note 75 = .ok (.iastore, 1) := by decide +kernel
theorem dX9_note_76 : decode cX9_note 76 = .ok (.aload_n 0, 1) := by decide +kernel
theorem dX9_note_77 : decode cX9_note 77 = .ok (.getfield 19, 3) := by decide +kernel
theorem dX9_note_80 : decode cX9_note 80 = .ok (.iload 4, 2) := by decide +kernel
theorem dX9_note_82 : decode cX9_note 82 = .ok (.iconst 3, 1) := by decide +kernel
theorem dX9_note_83 : decode cX9_note 83 = .ok (.iadd, 1) := by decide +kernel
theorem dX9_note_84 : decode cX9_note 84 = .ok (.iload_n 3, 1) := by decide +kernel
theorem dX9_note_85 : decode cX9_note 85 = .ok (.iastore, 1) := by decide +kernel
theorem dX9_note_86 : decode cX9_note 86 = .ok (.aload_n 0, 1) := by decide +kernel
theorem dX9_note_87 : decode cX9_note 87 = .ok (.getfield 9, 3) := by decide +kernel
theorem dX9_note_90 : decode cX9_note 90 = .ok (.dup, 1) := by decide +kernel
theorem dX9_note_91 : decode cX9_note 91 = .ok (.getfield 129, 3) := by decide +kernel
theorem dX9_note_94 : decode cX9_note 94 = .ok (.iconst 1, 1) := by decide +kernel
theorem dX9_note_95 : decode cX9_note 95 = .ok (.iadd, 1) := by decide +kernel
theorem dX9_note_96 : decode cX9_note 96 = .ok (.putfield 129, 3) := by decide +kernel
theorem dX9_note_99 : decode cX9_note 99 = .ok (.return_, 1) := by decide +kernel
theorem dX9_ask_0 : decode cX9_ask 0 = .ok (.aload_n 0, 1) := by decide +kernel
theorem dX9_ask_1 : decode cX9_ask 1 = .ok (.iload_n 1, 1) := by decide +kernel
theorem dX9_ask_2 : decode cX9_ask 2 = .ok (.iload_n 2, 1) := by decide +kernel
theorem dX9_ask_3 : decode cX9_ask 3 = .ok (.invokevirtual 132, 3) := by decide +kernel
theorem dX9_ask_6 : decode cX9_ask 6 = .ok (.istore_n 3, 1) := by decide +kernel
theorem dX9_ask_7 : decode cX9_ask 7 = .ok (.aload_n 0, 1) := by decide +kernel
theorem dX9_ask_8 : decode cX9_ask 8 = .ok (.getfield 15, 3) := by decide +kernel
theorem dX9_ask_11 : decode cX9_ask 11 = .ok (.getfield 135, 3) := by decide +kernel
theorem dX9_ask_14 : decode cX9_ask 14 = .ok (.getfield 94, 3) := by decide +kernel
theorem dX9_ask_17 : decode cX9_ask 17 = .ok (.istore 4, 2) := by decide +kernel
theorem dX9_ask_19 : decode cX9_ask 19 = .ok (.iconst 0, 1) := by decide +kernel
theorem dX9_ask_20 : decode cX9_ask 20 = .ok (.istore 5, 2) := by decide +kernel
theorem dX9_ask_22 : decode cX9_ask 22 = .ok (.iload 5, 2) := by decide +kernel
theorem dX9_ask_24 : decode cX9_ask 24 = .ok (.iload 4, 2) := by decide +kernel
theorem dX9_ask_26 : decode cX9_ask 26 = .ok (.if_icmp .ge 101, 3) := by decide +kernel
theorem dX9_ask_29 : decode cX9_ask 29 = .ok (.aload_n 0, 1) := by decide +kernel
theorem dX9_ask_30 : decode cX9_ask 30 = .ok (.getfield 15, 3) := by decide +kernel
theorem dX9_ask_33 : decode cX9_ask 33 = .ok (.getfield 135, 3) := by decide +kernel
theorem dX9_ask_36 : decode cX9_ask 36 = .ok (.iload 5, 2) := by decide +kernel
theorem dX9_ask_38 : decode cX9_ask 38 = .ok (.iconst 2, 1) := by decide +kernel
theorem dX9_ask_39 : decode cX9_ask 39 = .ok (.iadd, 1) := by decide +kernel
theorem dX9_ask_40 : decode cX9_ask 40 = .ok (.invokevirtual 99, 3) := by decide +kernel
theorem dX9_ask_43 : decode cX9_ask 43 = .ok (.istore 6, 2) := by decide +kernel
theorem dX9_ask_45 : decode cX9_ask 45 = .ok (.aload_n 0, 1) := by decide +kernel
theorem dX9_ask_46 : decode cX9_ask 46 = .ok (.getfield 15, 3) := by decide +kernel
theorem dX9_ask_49 : decode cX9_ask 49 = .ok (.getfield 135, 3) := by decide +kernel
theorem dX9_ask_52 : decode cX9_ask 52 = .ok (.iload 5, 2) := by decide +kernel
theorem dX9_ask_54 : decode cX9_ask 54 = .ok (.iconst 3, 1) := by decide +kernel
theorem dX9_ask_55 : decode cX9_ask 55 = .ok (.iadd, 1) := by decide +kernel
theorem dX9_ask_56 : decode cX9_ask 56 = .ok (.invokevirtual 99, 3) := by decide +kernel
theorem dX9_ask_59 : decode cX9_ask 59 = .ok (.istore 7, 2) := by decide +kernel
theorem dX9_ask_61 : decode cX9_ask 61 = .ok (.aload_n 0, 1) := by decide +kernel
theorem dX9_ask_62 : decode cX9_ask 62 = .ok (.getfield 15, 3) := by decide +kernel
theorem dX9_ask_65 : decode cX9_ask 65 = .ok (.getfield 135, 3) := by decide +kernel
theorem dX9_ask_68 : decode cX9_ask 68 = .ok (.iload 5, 2) := by decide +kernel
theorem dX9_ask_70 : decode cX9_ask 70 = .ok (.invokevirtual 99, 3) := by decide +kernel
theorem dX9_ask_73 : decode cX9_ask 73 = .ok (.iload_n 1, 1) := by decide +kernel
theorem dX9_ask_74 : decode cX9_ask 74 = .ok (.if_icmp .ne 47, 3) := by decide +kernel
theorem dX9_ask_77 : decode cX9_ask 77 = .ok (.iload 6, 2) := by decide +kernel
theorem dX9_ask_79 : decode cX9_ask 79 = .ok (.iload 7, 2) := by decide +kernel
theorem dX9_ask_81 : decode cX9_ask 81 = .ok (.if_icmp .eq 15, 3) := by decide +kernel
theorem dX9_ask_84 : decode cX9_ask 84 = .ok (.aload_n 0, 1) := by decide +kernel
theorem dX9_ask_85 : decode cX9_ask 85 = .ok (.iload 6, 2) := by decide +kernel
theorem dX9_ask_87 : decode cX9_ask 87 = .ok (.iload 7, 2) := by decide +kernel
theorem dX9_ask_89 : decode cX9_ask 89 = .ok (.iload_n 2, 1) := by decide +kernel
theorem dX9_ask_90 : decode cX9_ask 90 = .ok (.invokevirtual 138, 3) := by decide +kernel
theorem dX9_ask_93 : decode cX9_ask 93 = .ok (.ifCond .eq 28, 3) := by decide +kernel
theorem dX9_ask_96 : decode cX9_ask 96 = .ok (.aload_n 0, 1) := by decide +kernel
theorem dX9_ask_97 : decode cX9_ask 97 = .ok (.aload_n 0, 1) := by decide +kernel
theorem dX9_ask_98 : decode cX9_ask 98 = .ok (.getfield 15, 3) := by decide +kernel
theorem dX9_ask_101 : decode cX9_ask 101 = .ok (.getfield 135, 3) := by decide +kernel
theorem dX9_ask_104 : decode cX9_ask 104 = .ok (.iload 5, 2) := by decide +kernel
theorem dX9_ask_106 : decode cX9_ask 106 = .ok (.iconst 1, 1) := by decide +kernel
theorem dX9_ask_107 : decode cX9_ask 107 = .ok (.iadd, 1) := by decide +kernel
theorem dX9_ask_108 : decode cX9_ask 108 = .ok (.invokevirtual 99, 3) := by decide +kernel
theorem dX9_ask_111 : decode cX9_ask 111 = .ok (.iload 6, 2) := by decide +kernel
theorem dX9_ask_113 : decode cX9_ask 113 = .ok (.iload_n 2, 1) := by decide +kernel
theorem dX9_ask_114 : decode cX9_ask 114 = .ok (.invokevirtual 138, 3) := by decide +kernel
theorem dX9_ask_117 : decode cX9_ask 117 = .ok (.istore_n 3, 1) := by decide +kernel
theorem dX9_ask_118 : decode cX9_ask 118 = .ok (.goto 9, 3) := by decide +kernel
theorem dX9_ask_121 : decode cX9_ask 121 = .ok (.iinc 5 4, 3) := by decide +kernel
theorem dX9_ask_124 : decode cX9_ask 124 = .ok (.goto (-102), 3) := by decide +kernel
theorem dX9_ask_127 : decode cX9_ask 127 = .ok (.iconst 0, 1) := by decide +kernel
theorem dX9_ask_128 : decode cX9_ask 128 = .ok (.iload_n 3, 1) := by decide +kernel
theorem dX9_ask_129 : decode cX9_ask 129 = .ok (.aload_n 0, 1) := by decide +kernel
theorem dX9_ask_130 : decode cX9_ask 130 = .ok (.iload_n 1, 1) := by decide +kernel
theorem dX9_ask_131 : decode cX9_ask 131 = .ok (.iload_n 2, 1) := by decide +kernel
theorem dX9_ask_132 : decode cX9_ask 132 = .ok (.invokevirtual 142, 3) := by decide +kernel
theorem dX9_ask_135 : decode cX9_ask 135 = .ok (.invokestatic 145, 3) := by decide +kernel
theorem dX9_ask_138 : decode cX9_ask 138 = .ok (.invokestatic 150, 3) := by decide +kernel
theorem dX9_ask_141 : decode cX9_ask 141 = .ok (.ireturn, 1) := by decide +kernel
theorem dX9_usual_0 : decode cX9_usual 0 = .ok (.iload_n 1, 1) := by decide +kernel
theorem dX9_usual_1 : decode cX9_usual 1 = .ok (.lookupswitch 44 #[(0, 27), (1, 42)], 27) := by decide +kernel
theorem dX9_usual_28 : decode cX9_usual 28 = .ok (.sipush 800, 3) := by decide +kernel
theorem dX9_usual_31 : decode cX9_usual 31 = .ok (.bipush 100, 2) := by decide +kernel
theorem dX9_usual_33 : decode cX9_usual 33 = .ok (.aload_n 0, 1) := by decide +kernel
theorem dX9_usual_34 : decode cX9_usual 34 = .ok (.getfield 9, 3) := by decide +kernel
theorem dX9_usual_37 : decode cX9_usual 37 = .ok (.getfield 105, 3) := by decide +kernel
theorem dX9_usual_40 : decode cX9_usual 40 = .ok (.imul, 1) := by decide +kernel
theorem dX9_usual_41 : decode cX9_usual 41 = .ok (.isub, 1) := by decide +kernel
theorem dX9_usual_42 : decode cX9_usual 42 = .ok (.ireturn, 1) := by decide +kernel
theorem dX9_usual_43 : decode cX9_usual 43 = .ok (.iconst 2, 1) := by decide +kernel
theorem dX9_usual_44 : decode cX9_usual 44 = .ok (.ireturn, 1) := by decide +kernel
theorem dX9_usual_45 : decode cX9_usual 45 = .ok (.aload_n 0, 1) := by decide +kernel
theorem dX9_usual_46 : decode cX9_usual 46 = .ok (.getfield 9, 3) := by decide +kernel
theorem dX9_usual_49 : decode cX9_usual 49 = .ok (.iload_n 2, 1) := by decide +kernel
theorem dX9_usual_50 : decode cX9_usual 50 = .ok (.iconst 2, 1) := by decide +kernel
theorem dX9_usual_51 : decode cX9_usual 51 = .ok (.invokevirtual 42, 3) := by decide +kernel
theorem dX9_usual_54 : decode cX9_usual 54 = .ok (.iconst 2, 1) := by decide +kernel
theorem dX9_usual_55 : decode cX9_usual 55 = .ok (.idiv, 1) := by decide +kernel
theorem dX9_usual_56 : decode cX9_usual 56 = .ok (.ireturn, 1) := by decide +kernel
theorem dX9_mostFor_0 : decode cX9_mostFor 0 = .ok (.iload_n 1, 1) := by decide +kernel
theorem dX9_mostFor_1 : decode cX9_mostFor 1 = .ok (.lookupswitch 33 #[(0, 27), (1, 31)], 27) := by decide +kernel
theorem dX9_mostFor_28 : decode cX9_mostFor 28 = .ok (.sipush 1000, 3) := by decide +kernel
theorem dX9_mostFor_31 : decode cX9_mostFor 31 = .ok (.ireturn, 1) := by decide +kernel
theorem dX9_mostFor_32 : decode cX9_mostFor 32 = .ok (.iconst 5, 1) := by decide +kernel
theorem dX9_mostFor_33 : decode cX9_mostFor 33 = .ok (.ireturn, 1) := by decide +kernel
theorem dX9_mostFor_34 : decode cX9_mostFor 34 = .ok (.aload_n 0, 1) := by decide +kernel
theorem dX9_mostFor_35 : decode cX9_mostFor 35 = .ok (.getfield 9, 3) := by decide +kernel
theorem dX9_mostFor_38 : decode cX9_mostFor 38 = .ok (.iload_n 2, 1) := by decide +kernel
theorem dX9_mostFor_39 : decode cX9_mostFor 39 = .ok (.iconst 2, 1) := by decide +kernel
theorem dX9_mostFor_40 : decode cX9_mostFor 40 = .ok (.invokevirtual 42, 3) := by decide +kernel
theorem dX9_mostFor_43 : decode cX9_mostFor 43 = .ok (.ireturn, 1) := by decide +kernel
theorem dX9_reckon_0 : decode cX9_reckon 0 = .ok (.iconst 0, 1) := by decide +kernel
theorem dX9_reckon_1 : decode cX9_reckon 1 = .ok (.istore 4, 2) := by decide +kernel
theorem dX9_reckon_3 : decode cX9_reckon 3 = .ok (.iload_n 1, 1) := by decide +kernel
theorem dX9_reckon_4 : decode cX9_reckon 4 = .ok (.istore 5, 2) := by decide +kernel
theorem dX9_reckon_6 : decode cX9_reckon 6 = .ok (.iload 5, 2) := by decide +kernel
theorem dX9_reckon_8 : decode cX9_reckon 8 = .ok (.iload_n 2, 1) := by decide +kernel
theorem dX9_reckon_9 : decode cX9_reckon 9 = .ok (.if_icmp .ge 167, 3) := by decide +kernel
theorem dX9_reckon_12 : decode cX9_reckon 12 = .ok (.aload_n 0, 1) := by decide +kernel
theorem dX9_reckon_13 : decode cX9_reckon 13 = .ok (.getfield 15, 3) := by decide +kernel
theorem dX9_reckon_16 : decode cX9_reckon 16 = .ok (.getfield 153, 3) := by decide +kernel
theorem dX9_reckon_19 : decode cX9_reckon 19 = .ok (.iload 5, 2) := by decide +kernel
theorem dX9_reckon_21 : decode cX9_reckon 21 = .ok (.invokevirtual 99, 3) := by decide +kernel
theorem dX9_reckon_24 : decode cX9_reckon 24 = .ok (.istore 6, 2) := by decide +kernel
theorem dX9_reckon_26 : decode cX9_reckon 26 = .ok (.iload 6, 2) := by decide +kernel
theorem dX9_reckon_28 : decode cX9_reckon 28 = .ok (.ifCond .ge 10, 3) := by decide +kernel
theorem dX9_reckon_31 : decode cX9_reckon 31 = .ok (.iload 6, 2) := by decide +kernel
theorem dX9_reckon_33 : decode cX9_reckon 33 = .ok (.bipush (-100), 2) := by decide +kernel
theorem dX9_reckon_35 : decode cX9_reckon 35 = .ok (.if_icmp .gt 7, 3) := by decide +kernel
theorem dX9_reckon_38 : decode cX9_reckon 38 = .ok (.iconst 1, 1) := by decide +kernel
theorem dX9_reckon_39 : decode cX9_reckon 39 = .ok (.goto 4, 3) := by decide +kernel
theorem dX9_reckon_42 : decode cX9_reckon 42 = .ok (.iconst 0, 1) := by decide +kernel
theorem dX9_reckon_43 : decode cX9_reckon 43 = .ok (.istore 7, 2) := by decide +kernel
theorem dX9_reckon_45 : decode cX9_reckon 45 = .ok (.iload 7, 2) := by decide +kernel
theorem dX9_reckon_47 : decode cX9_reckon 47 = .ok (.ifCond .eq 43, 3) := by decide +kernel
theorem dX9_reckon_50 : decode cX9_reckon 50 = .ok (.iload 4, 2) := by decide +kernel
theorem dX9_reckon_52 : decode cX9_reckon 52 = .ok (.bipush 48, 2) := by decide +kernel
theorem dX9_reckon_54 : decode cX9_reckon 54 = .ok (.if_icmp .ge 36, 3) := by decide +kernel
theorem dX9_reckon_57 : decode cX9_reckon 57 = .ok (.aload_n 0, 1) := by decide +kernel
theorem dX9_reckon_58 : decode cX9_reckon 58 = .ok (.getfield 27, 3) := by decide +kernel
theorem dX9_reckon_61 : decode cX9_reckon 61 = .ok (.iload 4, 2) := by decide +kernel
theorem dX9_reckon_63 : decode cX9_reckon 63 = .ok (.iload 6, 2) := by decide +kernel
theorem dX9_reckon_65 : decode cX9_reckon 65 = .ok (.ifCond .lt 8, 3) := by decide +kernel
theorem dX9_reckon_68 : decode cX9_reckon 68 = .ok (.iload 6, 2) := by decide +kernel
theorem dX9_reckon_70 : decode cX9_reckon 70 = .ok (.goto 13, 3) := by decide +kernel
theorem dX9_reckon_73 : decode cX9_reckon 73 = .ok (.aload_n 0, 1) := by decide +kernel
theorem dX9_reckon_74 : decode cX9_reckon 74 = .ok (.bipush (-100), 2) := by decide +kernel
theorem dX9_reckon_76 : decode cX9_reckon 76 = .ok (.iload 6, 2) := by decide +kernel
theorem dX9_reckon_78 : decode cX9_reckon 78 = .ok (.isub, 1) := by decide +kernel
theorem dX9_reckon_79 : decode cX9_reckon 79 = .ok (.iload_n 3, 1) := by decide +kernel
theorem dX9_reckon_80 : decode cX9_reckon 80 = .ok (.invokevirtual 156, 3) := by decide +kernel
theorem dX9_reckon_83 : decode cX9_reckon 83 = .ok (.iastore, 1) := by decide +kernel
theorem dX9_reckon_84 : decode cX9_reckon 84 = .ok (.iinc 4 1, 3) := by decide +kernel
theorem dX9_reckon_87 : decode cX9_reckon 87 = .ok (.goto 83, 3) := by decide +kernel
theorem dX9_reckon_90 : decode cX9_reckon 90 = .ok (.iload 6, 2) := by decide +kernel
theorem dX9_reckon_92 : decode cX9_reckon 92 = .ok (.bipush (-2), 2) := by decide +kernel
theorem dX9_reckon_94 : decode cX9_reckon 94 = .ok (.if_icmp .ne 32, 3) := by decide +kernel
theorem dX9_reckon_97 : decode cX9_reckon 97 = .ok (.iload 4, 2) := by decide +kernel
theorem dX9_reckon_99 : decode cX9_reckon 99 = .ok (.iconst 1, 1) := by decide +kernel
theorem dX9_reckon_100 : decode cX9_reckon 100 = .ok (.if_icmp .lt 26, 3) := by decide +kernel
theorem dX9_reckon_103 : decode cX9_reckon 103 = .ok (.aload_n 0, 1) := by decide +kernel
theorem dX9_reckon_104 : decode cX9_reckon 104 = .ok (.getfield 27, 3) := by decide +kernel
theorem dX9_reckon_107 : decode cX9_reckon 107 = .ok (.iload 4, 2) := by decide +kernel
theorem dX9_reckon_109 : decode cX9_reckon 109 = .ok (.iconst 1, 1) := by decide +kernel
theorem dX9_reckon_110 : decode cX9_reckon 110 = .ok (.isub, 1) := by decide +kernel
theorem dX9_reckon_111 : decode cX9_reckon 111 = .ok (.iconst 1, 1) := by decide +kernel
theorem dX9_reckon_112 : decode cX9_reckon 112 = .ok (.aload_n 0, 1) := by decide +kernel
theorem dX9_reckon_113 : decode cX9_reckon 113 = .ok (.getfield 27, 3) := by decide +kernel
theorem dX9_reckon_116 : decode cX9_reckon 116 = .ok (.iload 4, 2) := by decide +kernel
theorem dX9_reckon_118 : decode cX9_reckon 118 = .ok (.iconst 1, 1) := by decide +kernel
theorem dX9_reckon_119 : decode cX9_reckon 119 = .ok (.isub, 1) := by decide +kernel
theorem dX9_reckon_120 : decode cX9_reckon 120 = .ok (.iaload, 1) := by decide +kernel
theorem dX9_reckon_121 : decode cX9_reckon 121 = .ok (.isub, 1) := by decide +kernel
theorem dX9_reckon_122 : decode cX9_reckon 122 = .ok (.iastore, 1) := by decide +kernel
theorem dX9_reckon_123 : decode cX9_reckon 123 = .ok (.goto 47, 3) := by decide +kernel
theorem dX9_reckon_126 : decode cX9_reckon 126 = .ok (.iload 7, 2) := by decide +kernel
theorem dX9_reckon_128 : decode cX9_reckon 128 = .ok (.ifCond .ne 42, 3) := by decide +kernel
theorem dX9_reckon_131 : decode cX9_reckon 131 = .ok (.iload 4, 2) := by decide +kernel
theorem dX9_reckon_133 : decode cX9_reckon 133 = .ok (.iconst 2, 1) := by decide +kernel
theorem dX9_reckon_134 : decode cX9_reckon 134 = .ok (.if_icmp .lt 36, 3) := by decide +kernel
theorem dX9_reckon_137 : decode cX9_reckon 137 = .ok (.iinc 4 (-1), 3) := by decide +kernel
theorem dX9_reckon_140 : decode cX9_reckon 140 = .ok (.aload_n 0, 1) := by decide +kernel
theorem dX9_reckon_141 : decode cX9_reckon 141 = .ok (.getfield 27, 3) := by decide +kernel
theorem dX9_reckon_144 : decode cX9_reckon 144 = .ok (.iload 4, 2) := by decide +kernel
theorem dX9_reckon_146 : decode cX9_reckon 146 = .ok (.iconst 1, 1) := by decide +kernel
theorem dX9_reckon_147 : decode cX9_reckon 147 = .ok (.isub, 1) := by decide +kernel
theorem dX9_reckon_148 : decode cX9_reckon 148 = .ok (.iload 6, 2) := by decide +kernel
theorem dX9_reckon_150 : decode cX9_reckon 150 = .ok (.aload_n 0, 1) := by decide +kernel
theorem dX9_reckon_151 : decode cX9_reckon 151 = .ok (.getfield 27, 3) := by decide +kernel
theorem dX9_reckon_154 : decode cX9_reckon 154 = .ok (.iload 4, 2) := by decide +kernel
theorem dX9_reckon_156 : decode cX9_reckon 156 = .ok (.iconst 1, 1) := by decide +kernel
theorem dX9_reckon_157 : decode cX9_reckon 157 = .ok (.isub, 1) := by decide +kernel
theorem dX9_reckon_158 : decode cX9_reckon 158 = .ok (.iaload, 1) := by decide +kernel
theorem dX9_reckon_159 : decode cX9_reckon 159 = .ok (.aload_n 0, 1) := by decide +kernel
theorem dX9_reckon_160 : decode cX9_reckon 160 = .ok (.getfield 27, 3) := by decide +kernel
theorem dX9_reckon_163 : decode cX9_reckon 163 = .ok (.iload 4, 2) := by decide +kernel
theorem dX9_reckon_165 : decode cX9_reckon 165 = .ok (.iaload, 1) := by decide +kernel
theorem dX9_reckon_166 : decode cX9_reckon 166 = .ok (.invokestatic 159, 3) := by decide +kernel
theorem dX9_reckon_169 : decode cX9_reckon 169 = .ok (.iastore, 1) := by decide +kernel
theorem dX9_reckon_170 : decode cX9_reckon 170 = .ok (.iinc 5 1, 3) := by decide +kernel
theorem dX9_reckon_173 : decode cX9_reckon 173 = .ok (.goto (-167), 3) := by decide +kernel
theorem dX9_reckon_176 : decode cX9_reckon 176 = .ok (.aload_n 0, 1) := by decide +kernel
theorem dX9_reckon_177 : decode cX9_reckon 177 = .ok (.getfield 27, 3) := by decide +kernel
theorem dX9_reckon_180 : decode cX9_reckon 180 = .ok (.iconst 0, 1) := by decide +kernel
theorem dX9_reckon_181 : decode cX9_reckon 181 = .ok (.iaload, 1) := by decide +kernel
theorem dX9_reckon_182 : decode cX9_reckon 182 = .ok (.ireturn, 1) := by decide +kernel
theorem dX9_joined_0 : decode cX9_joined 0 = .ok (.iload_n 0, 1) := by decide +kernel
theorem dX9_joined_1 : decode cX9_joined 1 = .ok (.lookupswitch 136 #[(-62, 121), (-61, 110), (-60, 99), (-47, 87), (-45, 79), (-43, 75), (-42, 83), (-3, 132)], 75) := by decide +kernel
theorem dX9_joined_76 : decode cX9_joined 76 = .ok (.iload_n 1, 1) := by decide +kernel
theorem dX9_joined_77 : decode cX9_joined 77 = .ok (.iload_n 2, 1) := by decide +kernel
theorem dX9_joined_78 : decode cX9_joined 78 = .ok (.iadd, 1) := by decide +kernel
theorem dX9_joined_79 : decode cX9_joined 79 = .ok (.ireturn, 1) := by decide +kernel
theorem dX9_joined_80 : decode cX9_joined 80 = .ok (.iload_n 1, 1) := by decide +kernel
theorem dX9_joined_81 : decode cX9_joined 81 = .ok (.iload_n 2, 1) := by decide +kernel
theorem dX9_joined_82 : decode cX9_joined 82 = .ok (.isub, 1) := by decide +kernel
theorem dX9_joined_83 : decode cX9_joined 83 = .ok (.ireturn, 1) := by decide +kernel
theorem dX9_joined_84 : decode cX9_joined 84 = .ok (.iload_n 1, 1) := by decide +kernel
theorem dX9_joined_85 : decode cX9_joined 85 = .ok (.iload_n 2, 1) := by decide +kernel
theorem dX9_joined_86 : decode cX9_joined 86 = .ok (.imul, 1) := by decide +kernel
theorem dX9_joined_87 : decode cX9_joined 87 = .ok (.ireturn, 1) := by decide +kernel
theorem dX9_joined_88 : decode cX9_joined 88 = .ok (.iload_n 2, 1) := by decide +kernel
theorem dX9_joined_89 : decode cX9_joined 89 = .ok (.ifCond .ne 7, 3) := by decide +kernel
theorem dX9_joined_92 : decode cX9_joined 92 = .ok (.iconst 0, 1) := by decide +kernel
theorem dX9_joined_93 : decode cX9_joined 93 = .ok (.goto 6, 3) := by decide +kernel
theorem dX9_joined_96 : decode cX9_joined 96 = .ok (.iload_n 1, 1) := by decide +kernel
theorem dX9_joined_97 : decode cX9_joined 97 = .ok (.iload_n 2, 1) := by decide +kernel
theorem dX9_joined_98 : decode cX9_joined 98 = .ok (.idiv, 1) := by decide +kernel
theorem dX9_joined_99 : decode cX9_joined 99 = .ok (.ireturn, 1) := by decide +kernel
theorem dX9_joined_100 : decode cX9_joined 100 = .ok (.iload_n 1, 1) := by decide +kernel
theorem dX9_joined_101 : decode cX9_joined 101 = .ok (.iload_n 2, 1) := by decide +kernel
theorem dX9_joined_102 : decode cX9_joined 102 = .ok (.if_icmp .ge 7, 3) := by decide +kernel
theorem dX9_joined_105 : decode cX9_joined 105 = .ok (.iconst 1, 1) := by decide +kernel
theorem dX9_joined_106 : decode cX9_joined 106 = .ok (.goto 4, 3) := by decide +kernel
theorem dX9_joined_109 : decode cX9_joined 109 = .ok (.iconst 0, 1) := by decide +kernel
theorem dX9_joined_110 : decode cX9_joined 110 = .ok (.ireturn, 1) := by decide +kernel
theorem dX9_joined_111 : decode cX9_joined 111 = .ok (.iload_n 1, 1) := by decide +kernel
theorem dX9_joined_112 : decode cX9_joined 112 = .ok (.iload_n 2, 1) := by decide +kernel
theorem dX9_joined_113 : decode cX9_joined 113 = .ok (.if_icmp .ne 7, 3) := by decide +kernel
theorem dX9_joined_116 : decode cX9_joined 116 = .ok (.iconst 1, 1) := by decide +kernel
theorem dX9_joined_117 : decode cX9_joined 117 = .ok (.goto 4, 3) := by decide +kernel
theorem dX9_joined_120 : decode cX9_joined 120 = .ok (.iconst 0, 1) := by decide +kernel
theorem dX9_joined_121 : decode cX9_joined 121 = .ok (.ireturn, 1) := by decide +kernel
theorem dX9_joined_122 : decode cX9_joined 122 = .ok (.iload_n 1, 1) := by decide +kernel
theorem dX9_joined_123 : decode cX9_joined 123 = .ok (.iload_n 2, 1) := by decide +kernel
theorem dX9_joined_124 : decode cX9_joined 124 = .ok (.if_icmp .le 7, 3) := by decide +kernel
theorem dX9_joined_127 : decode cX9_joined 127 = .ok (.iconst 1, 1) := by decide +kernel
theorem dX9_joined_128 : decode cX9_joined 128 = .ok (.goto 4, 3) := by decide +kernel
theorem dX9_joined_131 : decode cX9_joined 131 = .ok (.iconst 0, 1) := by decide +kernel
theorem dX9_joined_132 : decode cX9_joined 132 = .ok (.ireturn, 1) := by decide +kernel
theorem dX9_joined_133 : decode cX9_joined 133 = .ok (.iload_n 1, 1) := by decide +kernel
theorem dX9_joined_134 : decode cX9_joined 134 = .ok (.iload_n 2, 1) := by decide +kernel
theorem dX9_joined_135 : decode cX9_joined 135 = .ok (.iand, 1) := by decide +kernel
theorem dX9_joined_136 : decode cX9_joined 136 = .ok (.ireturn, 1) := by decide +kernel
theorem dX9_joined_137 : decode cX9_joined 137 = .ok (.iload_n 1, 1) := by decide +kernel
theorem dX9_joined_138 : decode cX9_joined 138 = .ok (.iload_n 2, 1) := by decide +kernel
theorem dX9_joined_139 : decode cX9_joined 139 = .ok (.ior, 1) := by decide +kernel
theorem dX9_joined_140 : decode cX9_joined 140 = .ok (.ireturn, 1) := by decide +kernel
theorem dX9_named_0 : decode cX9_named 0 = .ok (.iload_n 1, 1) := by decide +kernel
theorem dX9_named_1 : decode cX9_named 1 = .ok (.tableswitch 137 7 15 #[51, 61, 71, 81, 91, 101, 103, 112, 129], 51) := by decide +kernel
theorem dX9_named_52 : decode cX9_named 52 = .ok (.aload_n 0, 1) := by decide +kernel
theorem dX9_named_53 : decode cX9_named 53 = .ok (.getfield 9, 3) := by decide +kernel
theorem dX9_named_56 : decode cX9_named 56 = .ok (.iload_n 2, 1) := by decide +kernel
theorem dX9_named_57 : decode cX9_named 57 = .ok (.iconst 0, 1) := by decide +kernel
theorem dX9_named_58 : decode cX9_named 58 = .ok (.invokevirtual 42, 3) := by decide +kernel
theorem dX9_named_61 : decode cX9_named 61 = .ok (.ireturn, 1) := by decide +kernel
theorem dX9_named_62 : decode cX9_named 62 = .ok (.aload_n 0, 1) := by decide +kernel
theorem dX9_named_63 : decode cX9_named 63 = .ok (.getfield 9, 3) := by decide +kernel
theorem dX9_named_66 : decode cX9_named 66 = .ok (.iload_n 2, 1) := by decide +kernel
theorem dX9_named_67 : decode cX9_named 67 = .ok (.iconst 1, 1) := by decide +kernel
theorem dX9_named_68 : decode cX9_named 68 = .ok (.invokevirtual 42, 3) := by decide +kernel
theorem dX9_named_71 : decode cX9_named 71 = .ok (.ireturn, 1) := by decide +kernel
theorem dX9_named_72 : decode cX9_named 72 = .ok (.aload_n 0, 1) := by decide +kernel
theorem dX9_named_73 : decode cX9_named 73 = .ok (.getfield 9, 3) := by decide +kernel
theorem dX9_named_76 : decode cX9_named 76 = .ok (.iload_n 2, 1) := by decide +kernel
theorem dX9_named_77 : decode cX9_named 77 = .ok (.iconst 3, 1) := by decide +kernel
theorem dX9_named_78 : decode cX9_named 78 = .ok (.invokevirtual 42, 3) := by decide +kernel
theorem dX9_named_81 : decode cX9_named 81 = .ok (.ireturn, 1) := by decide +kernel
theorem dX9_named_82 : decode cX9_named 82 = .ok (.aload_n 0, 1) := by decide +kernel
theorem dX9_named_83 : decode cX9_named 83 = .ok (.getfield 9, 3) := by decide +kernel
theorem dX9_named_86 : decode cX9_named 86 = .ok (.iload_n 2, 1) := by decide +kernel
theorem dX9_named_87 : decode cX9_named 87 = .ok (.iconst 2, 1) := by decide +kernel
theorem dX9_named_88 : decode cX9_named 88 = .ok (.invokevirtual 42, 3) := by decide +kernel
theorem dX9_named_91 : decode cX9_named 91 = .ok (.ireturn, 1) := by decide +kernel
theorem dX9_named_92 : decode cX9_named 92 = .ok (.aload_n 0, 1) := by decide +kernel
theorem dX9_named_93 : decode cX9_named 93 = .ok (.getfield 9, 3) := by decide +kernel
theorem dX9_named_96 : decode cX9_named 96 = .ok (.iload_n 2, 1) := by decide +kernel
theorem dX9_named_97 : decode cX9_named 97 = .ok (.iconst 4, 1) := by decide +kernel
theorem dX9_named_98 : decode cX9_named 98 = .ok (.invokevirtual 42, 3) := by decide +kernel
theorem dX9_named_101 : decode cX9_named 101 = .ok (.ireturn, 1) := by decide +kernel
theorem dX9_named_102 : decode cX9_named 102 = .ok (.iload_n 2, 1) := by decide +kernel
theorem dX9_named_103 : decode cX9_named 103 = .ok (.ireturn, 1) := by decide +kernel
theorem dX9_named_104 : decode cX9_named 104 = .ok (.aload_n 0, 1) := by decide +kernel
theorem dX9_named_105 : decode cX9_named 105 = .ok (.getfield 15, 3) := by decide +kernel
theorem dX9_named_108 : decode cX9_named 108 = .ok (.iload_n 2, 1) := by decide +kernel
theorem dX9_named_109 : decode cX9_named 109 = .ok (.invokevirtual 85, 3) := by decide +kernel
theorem dX9_named_112 : decode cX9_named 112 = .ok (.ireturn, 1) := by decide +kernel
theorem dX9_named_113 : decode cX9_named 113 = .ok (.aload_n 0, 1) := by decide +kernel
theorem dX9_named_114 : decode cX9_named 114 = .ok (.getfield 9, 3) := by decide +kernel
theorem dX9_named_117 : decode cX9_named 117 = .ok (.getfield 71, 3) := by decide +kernel
theorem dX9_named_120 : decode cX9_named 120 = .ok (.iload_n 2, 1) := by decide +kernel
theorem dX9_named_121 : decode cX9_named 121 = .ok (.if_icmp .ne 7, 3) := by decide +kernel
theorem dX9_named_124 : decode cX9_named 124 = .ok (.iconst 1, 1) := by decide +kernel
theorem dX9_named_125 : decode cX9_named 125 = .ok (.goto 4, 3) := by decide +kernel
theorem dX9_named_128 : decode cX9_named 128 = .ok (.iconst 0, 1) := by decide +kernel
theorem dX9_named_129 : decode cX9_named 129 = .ok (.ireturn, 1) := by decide +kernel
theorem dX9_named_130 : decode cX9_named 130 = .ok (.aload_n 0, 1) := by decide +kernel
theorem dX9_named_131 : decode cX9_named 131 = .ok (.getfield 9, 3) := by decide +kernel
theorem dX9_named_134 : decode cX9_named 134 = .ok (.getfield 105, 3) := by decide +kernel
theorem dX9_named_137 : decode cX9_named 137 = .ok (.ireturn, 1) := by decide +kernel
theorem dX9_named_138 : decode cX9_named 138 = .ok (.aload_n 0, 1) := by decide +kernel
theorem dX9_named_139 : decode cX9_named 139 = .ok (.getfield 9, 3) := by decide +kernel
theorem dX9_named_142 : decode cX9_named 142 = .ok (.getfield 56, 3) := by decide +kernel
theorem dX9_named_145 : decode cX9_named 145 = .ok (.ireturn, 1) := by decide +kernel
theorem dJ6_bitCount_0f7a4_0 : decode cJ6_bitCount_0f7a4 0 = .ok (.iload_n 0, 1) := by decide +kernel
theorem dJ6_bitCount_0f7a4_1 : decode cJ6_bitCount_0f7a4 1 = .ok (.iload_n 0, 1) := by decide +kernel
theorem dJ6_bitCount_0f7a4_2 : decode cJ6_bitCount_0f7a4 2 = .ok (.iconst 1, 1) := by decide +kernel
theorem dJ6_bitCount_0f7a4_3 : decode cJ6_bitCount_0f7a4 3 = .ok (.iushr, 1) := by decide +kernel
theorem dJ6_bitCount_0f7a4_4 : decode cJ6_bitCount_0f7a4 4 = .ok (.ldc_w 265, 3) := by decide +kernel
theorem dJ6_bitCount_0f7a4_7 : decode cJ6_bitCount_0f7a4 7 = .ok (.iand, 1) := by decide +kernel
theorem dJ6_bitCount_0f7a4_8 : decode cJ6_bitCount_0f7a4 8 = .ok (.isub, 1) := by decide +kernel
theorem dJ6_bitCount_0f7a4_9 : decode cJ6_bitCount_0f7a4 9 = .ok (.istore_n 0, 1) := by decide +kernel
theorem dJ6_bitCount_0f7a4_10 : decode cJ6_bitCount_0f7a4 10 = .ok (.iload_n 0, 1) := by decide +kernel
theorem dJ6_bitCount_0f7a4_11 : decode cJ6_bitCount_0f7a4 11 = .ok (.ldc_w 266, 3) := by decide +kernel
theorem dJ6_bitCount_0f7a4_14 : decode cJ6_bitCount_0f7a4 14 = .ok (.iand, 1) := by decide +kernel
theorem dJ6_bitCount_0f7a4_15 : decode cJ6_bitCount_0f7a4 15 = .ok (.iload_n 0, 1) := by decide +kernel
theorem dJ6_bitCount_0f7a4_16 : decode cJ6_bitCount_0f7a4 16 = .ok (.iconst 2, 1) := by decide +kernel
theorem dJ6_bitCount_0f7a4_17 : decode cJ6_bitCount_0f7a4 17 = .ok (.iushr, 1) := by decide +kernel
theorem dJ6_bitCount_0f7a4_18 : decode cJ6_bitCount_0f7a4 18 = .ok (.ldc_w 266, 3) := by decide +kernel
theorem dJ6_bitCount_0f7a4_21 : decode cJ6_bitCount_0f7a4 21 = .ok (.iand, 1) := by decide +kernel
theorem dJ6_bitCount_0f7a4_22 : decode cJ6_bitCount_0f7a4 22 = .ok (.iadd, 1) := by decide +kernel
theorem dJ6_bitCount_0f7a4_23 : decode cJ6_bitCount_0f7a4 23 = .ok (.istore_n 0, 1) := by decide +kernel
theorem dJ6_bitCount_0f7a4_24 : decode cJ6_bitCount_0f7a4 24 = .ok (.iload_n 0, 1) := by decide +kernel
theorem dJ6_bitCount_0f7a4_25 : decode cJ6_bitCount_0f7a4 25 = .ok (.iload_n 0, 1) := by decide +kernel
theorem dJ6_bitCount_0f7a4_26 : decode cJ6_bitCount_0f7a4 26 = .ok (.iconst 4, 1) := by decide +kernel
theorem dJ6_bitCount_0f7a4_27 : decode cJ6_bitCount_0f7a4 27 = .ok (.iushr, 1) := by decide +kernel
theorem dJ6_bitCount_0f7a4_28 : decode cJ6_bitCount_0f7a4 28 = .ok (.iadd, 1) := by decide +kernel
theorem dJ6_bitCount_0f7a4_29 : decode cJ6_bitCount_0f7a4 29 = .ok (.ldc_w 267, 3) := by decide +kernel
theorem dJ6_bitCount_0f7a4_32 : decode cJ6_bitCount_0f7a4 32 = .ok (.iand, 1) := by decide +kernel
theorem dJ6_bitCount_0f7a4_33 : decode cJ6_bitCount_0f7a4 33 = .ok (.istore_n 0, 1) := by decide +kernel
theorem dJ6_bitCount_0f7a4_34 : decode cJ6_bitCount_0f7a4 34 = .ok (.iload_n 0, 1) := by decide +kernel
theorem dJ6_bitCount_0f7a4_35 : decode cJ6_bitCount_0f7a4 35 = .ok (.iload_n 0, 1) := by decide +kernel
theorem dJ6_bitCount_0f7a4_36 : decode cJ6_bitCount_0f7a4 36 = .ok (.bipush 8, 2) := by decide +kernel
theorem dJ6_bitCount_0f7a4_38 : decode cJ6_bitCount_0f7a4 38 = .ok (.iushr, 1) := by decide +kernel
theorem dJ6_bitCount_0f7a4_39 : decode cJ6_bitCount_0f7a4 39 = .ok (.iadd, 1) := by decide +kernel
theorem dJ6_bitCount_0f7a4_40 : decode cJ6_bitCount_0f7a4 40 = .ok (.istore_n 0, 1) := by decide +kernel
theorem dJ6_bitCount_0f7a4_41 : decode cJ6_bitCount_0f7a4 41 = .ok (.iload_n 0, 1) := by decide +kernel
theorem dJ6_bitCount_0f7a4_42 : decode cJ6_bitCount_0f7a4 42 = .ok (.iload_n 0, 1) := by decide +kernel
theorem dJ6_bitCount_0f7a4_43 : decode cJ6_bitCount_0f7a4 43 = .ok (.bipush 16, 2) := by decide +kernel
theorem dJ6_bitCount_0f7a4_45 : decode cJ6_bitCount_0f7a4 45 = .ok (.iushr, 1) := by decide +kernel
theorem dJ6_bitCount_0f7a4_46 : decode cJ6_bitCount_0f7a4 46 = .ok (.iadd, 1) := by decide +kernel
theorem dJ6_bitCount_0f7a4_47 : decode cJ6_bitCount_0f7a4 47 = .ok (.istore_n 0, 1) := by decide +kernel
theorem dJ6_bitCount_0f7a4_48 : decode cJ6_bitCount_0f7a4 48 = .ok (.iload_n 0, 1) := by decide +kernel
theorem dJ6_bitCount_0f7a4_49 : decode cJ6_bitCount_0f7a4 49 = .ok (.bipush 63, 2) := by decide +kernel
theorem dJ6_bitCount_0f7a4_51 : decode cJ6_bitCount_0f7a4 51 = .ok (.iand, 1) := by decide +kernel
theorem dJ6_bitCount_0f7a4_52 : decode cJ6_bitCount_0f7a4 52 = .ok (.ireturn, 1) := by decide +kernel
theorem dJ9_floorMod_7cf53_0 : decode cJ9_floorMod_7cf53 0 = .ok (.iload_n 0, 1) := by decide +kernel
theorem dJ9_floorMod_7cf53_1 : decode cJ9_floorMod_7cf53 1 = .ok (.iload_n 1, 1) := by decide +kernel
theorem dJ9_floorMod_7cf53_2 : decode cJ9_floorMod_7cf53 2 = .ok (.irem, 1) := by decide +kernel
theorem dJ9_floorMod_7cf53_3 : decode cJ9_floorMod_7cf53 3 = .ok (.istore_n 2, 1) := by decide +kernel
theorem dJ9_floorMod_7cf53_4 : decode cJ9_floorMod_7cf53 4 = .ok (.iload_n 0, 1) := by decide +kernel
theorem dJ9_floorMod_7cf53_5 : decode cJ9_floorMod_7cf53 5 = .ok (.iload_n 1, 1) := by decide +kernel
theorem dJ9_floorMod_7cf53_6 : decode cJ9_floorMod_7cf53 6 = .ok (.ixor, 1) := by decide +kernel
theorem dJ9_floorMod_7cf53_7 : decode cJ9_floorMod_7cf53 7 = .ok (.ifCond .ge 11, 3) := by decide +kernel
theorem dJ9_floorMod_7cf53_10 : decode cJ9_floorMod_7cf53 10 = .ok (.iload_n 2, 1) := by decide +kernel
theorem dJ9_floorMod_7cf53_11 : decode cJ9_floorMod_7cf53 11 = .ok (.ifCond .eq 7, 3) := by decide +kernel
theorem dJ9_floorMod_7cf53_14 : decode cJ9_floorMod_7cf53 14 = .ok (.iload_n 2, 1) := by decide +kernel
theorem dJ9_floorMod_7cf53_15 : decode cJ9_floorMod_7cf53 15 = .ok (.iload_n 1, 1) := by decide +kernel
theorem dJ9_floorMod_7cf53_16 : decode cJ9_floorMod_7cf53 16 = .ok (.iadd, 1) := by decide +kernel
theorem dJ9_floorMod_7cf53_17 : decode cJ9_floorMod_7cf53 17 = .ok (.ireturn, 1) := by decide +kernel
theorem dJ9_floorMod_7cf53_18 : decode cJ9_floorMod_7cf53 18 = .ok (.iload_n 2, 1) := by decide +kernel
theorem dJ9_floorMod_7cf53_19 : decode cJ9_floorMod_7cf53 19 = .ok (.ireturn, 1) := by decide +kernel
theorem dJ0_length_8abf5_0 : decode cJ0_length_8abf5 0 = .ok (.aload_n 0, 1) := by decide +kernel
theorem dJ0_length_8abf5_1 : decode cJ0_length_8abf5 1 = .ok (.getfield 9, 3) := by decide +kernel
theorem dJ0_length_8abf5_4 : decode cJ0_length_8abf5 4 = .ok (.arraylength, 1) := by decide +kernel
theorem dJ0_length_8abf5_5 : decode cJ0_length_8abf5 5 = .ok (.aload_n 0, 1) := by decide +kernel
theorem dJ0_length_8abf5_6 : decode cJ0_length_8abf5 6 = .ok (.invokevirtual 335, 3) := by decide +kernel
theorem dJ0_length_8abf5_9 : decode cJ0_length_8abf5 9 = .ok (.ishr, 1) := by decide +kernel
theorem dJ0_length_8abf5_10 : decode cJ0_length_8abf5 10 = .ok (.ireturn, 1) := by decide +kernel
theorem dJ0_charAt_5068e_0 : decode cJ0_charAt_5068e 0 = .ok (.aload_n 0, 1) := by decide +kernel
theorem dJ0_charAt_5068e_1 : decode cJ0_charAt_5068e 1 = .ok (.invokevirtual 492, 3) := by decide +kernel
theorem dJ0_charAt_5068e_4 : decode cJ0_charAt_5068e 4 = .ok (.ifCond .eq 12, 3) := by decide +kernel
theorem dJ0_charAt_5068e_7 : decode cJ0_charAt_5068e 7 = .ok (.aload_n 0, 1) := by decide +kernel
theorem dJ0_charAt_5068e_8 : decode cJ0_charAt_5068e 8 = .ok (.getfield 9, 3) := by decide +kernel
theorem dJ0_charAt_5068e_11 : decode cJ0_charAt_5068e 11 = .ok (.iload_n 1, 1) := by decide +kernel
theorem dJ0_charAt_5068e_12 : decode cJ0_charAt_5068e 12 = .ok (.invokestatic 495, 3) := by decide +kernel
theorem dJ0_charAt_5068e_15 : decode cJ0_charAt_5068e 15 = .ok (.ireturn, 1) := by decide +kernel
theorem dJ0_charAt_5068e_16 : decode cJ0_charAt_5068e 16 = .ok (.aload_n 0, 1) := by decide +kernel
theorem dJ0_charAt_5068e_17 : decode cJ0_charAt_5068e 17 = .ok (.getfield 9, 3) := by decide +kernel
theorem dJ0_charAt_5068e_20 : decode cJ0_charAt_5068e 20 = .ok (.iload_n 1, 1) := by decide +kernel
theorem dJ0_charAt_5068e_21 : decode cJ0_charAt_5068e 21 = .ok (.invokestatic 498, 3) := by decide +kernel
theorem dJ0_charAt_5068e_24 : decode cJ0_charAt_5068e 24 = .ok (.ireturn, 1) := by decide +kernel
theorem dJ0_indexOf_0f7a4_0 : decode cJ0_indexOf_0f7a4 0 = .ok (.aload_n 0, 1) := by decide +kernel
theorem dJ0_indexOf_0f7a4_1 : decode cJ0_indexOf_0f7a4 1 = .ok (.iload_n 1, 1) := by decide +kernel
theorem dJ0_indexOf_0f7a4_2 : decode cJ0_indexOf_0f7a4 2 = .ok (.iconst 0, 1) := by decide +kernel
theorem dJ0_indexOf_0f7a4_3 : decode cJ0_indexOf_0f7a4 3 = .ok (.invokevirtual 633, 3) := by decide +kernel
theorem dJ0_indexOf_0f7a4_6 : decode cJ0_indexOf_0f7a4 6 = .ok (.ireturn, 1) := by decide +kernel
theorem dJ0_indexOf_7cf53_0 : decode cJ0_indexOf_7cf53 0 = .ok (.aload_n 0, 1) := by decide +kernel
theorem dJ0_indexOf_7cf53_1 : decode cJ0_indexOf_7cf53 1 = .ok (.invokevirtual 492, 3) := by decide +kernel
theorem dJ0_indexOf_7cf53_4 : decode cJ0_indexOf_7cf53 4 = .ok (.ifCond .eq 19, 3) := by decide +kernel
theorem dJ0_indexOf_7cf53_7 : decode cJ0_indexOf_7cf53 7 = .ok (.aload_n 0, 1) := by decide +kernel
theorem dJ0_indexOf_7cf53_8 : decode cJ0_indexOf_7cf53 8 = .ok (.getfield 9, 3) := by decide +kernel
theorem dJ0_indexOf_7cf53_11 : decode cJ0_indexOf_7cf53 11 = .ok (.iload_n 1, 1) := by decide +kernel
theorem dJ0_indexOf_7cf53_12 : decode cJ0_indexOf_7cf53 12 = .ok (.iload_n 2, 1) := by decide +kernel
theorem dJ0_indexOf_7cf53_13 : decode cJ0_indexOf_7cf53 13 = .ok (.aload_n 0, 1) := by decide +kernel
theorem dJ0_indexOf_7cf53_14 : decode cJ0_indexOf_7cf53 14 = .ok (.invokevirtual 505, 3) := by decide +kernel
theorem dJ0_indexOf_7cf53_17 : decode cJ0_indexOf_7cf53 17 = .ok (.invokestatic 637, 3) := by decide +kernel
theorem dJ0_indexOf_7cf53_20 : decode cJ0_indexOf_7cf53 20 = .ok (.goto 16, 3) := by decide +kernel
theorem dJ0_indexOf_7cf53_23 : decode cJ0_indexOf_7cf53 23 = .ok (.aload_n 0, 1) := by decide +kernel
theorem dJ0_indexOf_7cf53_24 : decode cJ0_indexOf_7cf53 24 = .ok (.getfield 9, 3) := by decide +kernel
theorem dJ0_indexOf_7cf53_27 : decode cJ0_indexOf_7cf53 27 = .ok (.iload_n 1, 1) := by decide +kernel
theorem dJ0_indexOf_7cf53_28 : decode cJ0_indexOf_7cf53 28 = .ok (.iload_n 2, 1) := by decide +kernel
theorem dJ0_indexOf_7cf53_29 : decode cJ0_indexOf_7cf53 29 = .ok (.aload_n 0, 1) := by decide +kernel
theorem dJ0_indexOf_7cf53_30 : decode cJ0_indexOf_7cf53 30 = .ok (.invokevirtual 505, 3) := by decide +kernel
theorem dJ0_indexOf_7cf53_33 : decode cJ0_indexOf_7cf53 33 = .ok (.invokestatic 640, 3) := by decide +kernel
theorem dJ0_indexOf_7cf53_36 : decode cJ0_indexOf_7cf53 36 = .ok (.ireturn, 1) := by decide +kernel
theorem dJ0_coder_7d493_0 : decode cJ0_coder_7d493 0 = .ok (.getstatic 38, 3) := by decide +kernel
theorem dJ0_coder_7d493_3 : decode cJ0_coder_7d493 3 = .ok (.ifCond .eq 10, 3) := by decide +kernel
theorem dJ0_coder_7d493_6 : decode cJ0_coder_7d493 6 = .ok (.aload_n 0, 1) := by decide +kernel
theorem dJ0_coder_7d493_7 : decode cJ0_coder_7d493 7 = .ok (.getfield 15, 3) := by decide +kernel
theorem dJ0_coder_7d493_10 : decode cJ0_coder_7d493 10 = .ok (.goto 4, 3) := by decide +kernel
theorem dJ0_coder_7d493_13 : decode cJ0_coder_7d493 13 = .ok (.iconst 1, 1) := by decide +kernel
theorem dJ0_coder_7d493_14 : decode cJ0_coder_7d493 14 = .ok (.ireturn, 1) := by decide +kernel
theorem dJ0_isLatin1_aae02_0 : decode cJ0_isLatin1_aae02 0 = .ok (.getstatic 38, 3) := by decide +kernel
theorem dJ0_isLatin1_aae02_3 : decode cJ0_isLatin1_aae02 3 = .ok (.ifCond .eq 14, 3) := by decide +kernel
theorem dJ0_isLatin1_aae02_6 : decode cJ0_isLatin1_aae02 6 = .ok (.aload_n 0, 1) := by decide +kernel
theorem dJ0_isLatin1_aae02_7 : decode cJ0_isLatin1_aae02 7 = .ok (.getfield 15, 3) := by decide +kernel
theorem dJ0_isLatin1_aae02_10 : decode cJ0_isLatin1_aae02 10 = .ok (.ifCond .ne 7, 3) := by decide +kernel
theorem dJ0_isLatin1_aae02_13 : decode cJ0_isLatin1_aae02 13 = .ok (.iconst 1, 1) := by decide +kernel
theorem dJ0_isLatin1_aae02_14 : decode cJ0_isLatin1_aae02 14 = .ok (.goto 4, 3) := by decide +kernel
theorem dJ0_isLatin1_aae02_17 : decode cJ0_isLatin1_aae02 17 = .ok (.iconst 0, 1) := by decide +kernel
theorem dJ0_isLatin1_aae02_18 : decode cJ0_isLatin1_aae02 18 = .ok (.ireturn, 1) := by decide +kernel
theorem dJ1_charAt_3b067_0 : decode cJ1_charAt_3b067 0 = .ok (.iload_n 1, 1) := by decide +kernel
theorem dJ1_charAt_3b067_1 : decode cJ1_charAt_3b067 1 = .ok (.aload_n 0, 1) := by decide +kernel
theorem dJ1_charAt_3b067_2 : decode cJ1_charAt_3b067 2 = .ok (.arraylength, 1) := by decide +kernel
theorem dJ1_charAt_3b067_3 : decode cJ1_charAt_3b067 3 = .ok (.invokestatic 9, 3) := by decide +kernel
theorem dJ1_charAt_3b067_6 : decode cJ1_charAt_3b067 6 = .ok (.aload_n 0, 1) := by decide +kernel
theorem dJ1_charAt_3b067_7 : decode cJ1_charAt_3b067 7 = .ok (.iload_n 1, 1) := by decide +kernel
theorem dJ1_charAt_3b067_8 : decode cJ1_charAt_3b067 8 = .ok (.baload, 1) := by decide +kernel
theorem dJ1_charAt_3b067_9 : decode cJ1_charAt_3b067 9 = .ok (.sipush 255, 3) := by decide +kernel
theorem dJ1_charAt_3b067_12 : decode cJ1_charAt_3b067 12 = .ok (.iand, 1) := by decide +kernel
theorem dJ1_charAt_3b067_13 : decode cJ1_charAt_3b067 13 = .ok (.i2c, 1) := by decide +kernel
theorem dJ1_charAt_3b067_14 : decode cJ1_charAt_3b067 14 = .ok (.ireturn, 1) := by decide +kernel
theorem dJ1_canEncode_9a6ad_0 : decode cJ1_canEncode_9a6ad 0 = .ok (.iload_n 0, 1) := by decide +kernel
theorem dJ1_canEncode_9a6ad_1 : decode cJ1_canEncode_9a6ad 1 = .ok (.ifCond .lt 14, 3) := by decide +kernel
theorem dJ1_canEncode_9a6ad_4 : decode cJ1_canEncode_9a6ad 4 = .ok (.iload_n 0, 1) := by decide +kernel
theorem dJ1_canEncode_9a6ad_5 : decode cJ1_canEncode_9a6ad 5 = .ok (.sipush 255, 3) := by decide +kernel
theorem dJ1_canEncode_9a6ad_8 : decode cJ1_canEncode_9a6ad 8 = .ok (.if_icmp .gt 7, 3) := by decide +kernel
theorem dJ1_canEncode_9a6ad_11 : decode cJ1_canEncode_9a6ad 11 = .ok (.iconst 1, 1) := by decide +kernel
theorem dJ1_canEncode_9a6ad_12 : decode cJ1_canEncode_9a6ad 12 = .ok (.goto 4, 3) := by decide +kernel
theorem dJ1_canEncode_9a6ad_15 : decode cJ1_canEncode_9a6ad 15 = .ok (.iconst 0, 1) := by decide +kernel
theorem dJ1_canEncode_9a6ad_16 : decode cJ1_canEncode_9a6ad 16 = .ok (.ireturn, 1) := by decide +kernel
theorem dJ1_indexOf_4cfef_0 : decode cJ1_indexOf_4cfef 0 = .ok (.iload_n 1, 1) := by decide +kernel
theorem dJ1_indexOf_4cfef_1 : decode cJ1_indexOf_4cfef 1 = .ok (.invokestatic 88, 3) := by decide +kernel
theorem dJ1_indexOf_4cfef_4 : decode cJ1_indexOf_4cfef 4 = .ok (.ifCond .ne 5, 3) := by decide +kernel
theorem dJ1_indexOf_4cfef_7 : decode cJ1_indexOf_4cfef 7 = .ok (.iconst (-1), 1) := by decide +kernel
theorem dJ1_indexOf_4cfef_8 : decode cJ1_indexOf_4cfef 8 = .ok (.ireturn, 1) := by decide +kernel
theorem dJ1_indexOf_4cfef_9 : decode cJ1_indexOf_4cfef 9 = .ok (.iload_n 2, 1) := by decide +kernel
theorem dJ1_indexOf_4cfef_10 : decode cJ1_indexOf_4cfef 10 = .ok (.iconst 0, 1) := by decide +kernel
theorem dJ1_indexOf_4cfef_11 : decode cJ1_indexOf_4cfef 11 = .ok (.invokestatic 92, 3) := by decide +kernel
theorem dJ1_indexOf_4cfef_14 : decode cJ1_indexOf_4cfef 14 = .ok (.istore_n 2, 1) := by decide +kernel
theorem dJ1_indexOf_4cfef_15 : decode cJ1_indexOf_4cfef 15 = .ok (.iload_n 3, 1) := by decide +kernel
theorem dJ1_indexOf_4cfef_16 : decode cJ1_indexOf_4cfef 16 = .ok (.aload_n 0, 1) := by decide +kernel
theorem dJ1_indexOf_4cfef_17 : decode cJ1_indexOf_4cfef 17 = .ok (.arraylength, 1) := by decide +kernel
theorem dJ1_indexOf_4cfef_18 : decode cJ1_indexOf_4cfef 18 = .ok (.invokestatic 38, 3) := by decide +kernel
theorem dJ1_indexOf_4cfef_21 : decode cJ1_indexOf_4cfef 21 = .ok (.istore_n 3, 1) := by decide +kernel
theorem dJ1_indexOf_4cfef_22 : decode cJ1_indexOf_4cfef 22 = .ok (.iload_n 2, 1) := by decide +kernel
theorem dJ1_indexOf_4cfef_23 : decode cJ1_indexOf_4cfef 23 = .ok (.iload_n 3, 1) := by decide +kernel
theorem dJ1_indexOf_4cfef_24 : decode cJ1_indexOf_4cfef 24 = .ok (.if_icmp .lt 5, 3) := by decide +kernel
theorem dJ1_indexOf_4cfef_27 : decode cJ1_indexOf_4cfef 27 = .ok (.iconst (-1), 1) := by decide +kernel
theorem dJ1_indexOf_4cfef_28 : decode cJ1_indexOf_4cfef 28 = .ok (.ireturn, 1) := by decide +kernel
theorem dJ1_indexOf_4cfef_29 : decode cJ1_indexOf_4cfef 29 = .ok (.aload_n 0, 1) := by decide +kernel
theorem dJ1_indexOf_4cfef_30 : decode cJ1_indexOf_4cfef 30 = .ok (.iload_n 1, 1) := by decide +kernel
theorem dJ1_indexOf_4cfef_31 : decode cJ1_indexOf_4cfef 31 = .ok (.iload_n 2, 1) := by decide +kernel
theorem dJ1_indexOf_4cfef_32 : decode cJ1_indexOf_4cfef 32 = .ok (.iload_n 3, 1) := by decide +kernel
theorem dJ1_indexOf_4cfef_33 : decode cJ1_indexOf_4cfef 33 = .ok (.invokestatic 95, 3) := by decide +kernel
theorem dJ1_indexOf_4cfef_36 : decode cJ1_indexOf_4cfef 36 = .ok (.ireturn, 1) := by decide +kernel
theorem dJ1_indexOfChar_4cfef_0 : decode cJ1_indexOfChar_4cfef 0 = .ok (.iload_n 1, 1) := by decide +kernel
theorem dJ1_indexOfChar_4cfef_1 : decode cJ1_indexOfChar_4cfef 1 = .ok (.i2b, 1) := by decide +kernel
theorem dJ1_indexOfChar_4cfef_2 : decode cJ1_indexOfChar_4cfef 2 = .ok (.istore 4, 2) := by decide +kernel
theorem dJ1_indexOfChar_4cfef_4 : decode cJ1_indexOfChar_4cfef 4 = .ok (.iload_n 2, 1) := by decide +kernel
theorem dJ1_indexOfChar_4cfef_5 : decode cJ1_indexOfChar_4cfef 5 = .ok (.istore 5, 2) := by decide +kernel
theorem dJ1_indexOfChar_4cfef_7 : decode cJ1_indexOfChar_4cfef 7 = .ok (.iload 5, 2) := by decide +kernel
theorem dJ1_indexOfChar_4cfef_9 : decode cJ1_indexOfChar_4cfef 9 = .ok (.iload_n 3, 1) := by decide +kernel
theorem dJ1_indexOfChar_4cfef_10 : decode cJ1_indexOfChar_4cfef 10 = .ok (.if_icmp .ge 21, 3) := by decide +kernel
theorem dJ1_indexOfChar_4cfef_13 : decode cJ1_indexOfChar_4cfef 13 = .ok (.aload_n 0, 1) := by decide +kernel
theorem dJ1_indexOfChar_4cfef_14 : decode cJ1_indexOfChar_4cfef 14 = .ok (.iload 5, 2) := by decide +kernel
theorem dJ1_indexOfChar_4cfef_16 : decode cJ1_indexOfChar_4cfef 16 = .ok (.baload, 1) := by decide +kernel
theorem dJ1_indexOfChar_4cfef_17 : decode cJ1_indexOfChar_4cfef 17 = .ok (.iload 4, 2) := by decide +kernel
theorem dJ1_indexOfChar_4cfef_19 : decode cJ1_indexOfChar_4cfef 19 = .ok (.if_icmp .ne 6, 3) := by decide +kernel
theorem dJ1_indexOfChar_4cfef_22 : decode cJ1_indexOfChar_4cfef 22 = .ok (.iload 5, 2) := by decide +kernel
theorem dJ1_indexOfChar_4cfef_24 : decode cJ1_indexOfChar_4cfef 24 = .ok (.ireturn, 1) := by decide +kernel
theorem dJ1_indexOfChar_4cfef_25 : decode cJ1_indexOfChar_4cfef 25 = .ok (.iinc 5 1, 3) := by decide +kernel
theorem dJ1_indexOfChar_4cfef_28 : decode cJ1_indexOfChar_4cfef 28 = .ok (.goto (-21), 3) := by decide +kernel
theorem dJ1_indexOfChar_4cfef_31 : decode cJ1_indexOfChar_4cfef 31 = .ok (.iconst (-1), 1) := by decide +kernel
theorem dJ1_indexOfChar_4cfef_32 : decode cJ1_indexOfChar_4cfef 32 = .ok (.ireturn, 1) := by decide +kernel
theorem dJ7_fill_53178_0 : decode cJ7_fill_53178 0 = .ok (.iconst 0, 1) := by decide +kernel
theorem dJ7_fill_53178_1 : decode cJ7_fill_53178 1 = .ok (.istore_n 2, 1) := by decide +kernel
theorem dJ7_fill_53178_2 : decode cJ7_fill_53178 2 = .ok (.aload_n 0, 1) := by decide +kernel
theorem dJ7_fill_53178_3 : decode cJ7_fill_53178 3 = .ok (.arraylength, 1) := by decide +kernel
theorem dJ7_fill_53178_4 : decode cJ7_fill_53178 4 = .ok (.istore_n 3, 1) := by decide +kernel
theorem dJ7_fill_53178_5 : decode cJ7_fill_53178 5 = .ok (.iload_n 2, 1) := by decide +kernel
theorem dJ7_fill_53178_6 : decode cJ7_fill_53178 6 = .ok (.iload_n 3, 1) := by decide +kernel
theorem dJ7_fill_53178_7 : decode cJ7_fill_53178 7 = .ok (.if_icmp .ge 13, 3) := by decide +kernel
theorem dJ7_fill_53178_10 : decode cJ7_fill_53178 10 = .ok (.aload_n 0, 1) := by decide +kernel
theorem dJ7_fill_53178_11 : decode cJ7_fill_53178 11 = .ok (.iload_n 2, 1) := by decide +kernel
theorem dJ7_fill_53178_12 : decode cJ7_fill_53178 12 = .ok (.iload_n 1, 1) := by decide +kernel
theorem dJ7_fill_53178_13 : decode cJ7_fill_53178 13 = .ok (.iastore, 1) := by decide +kernel
theorem dJ7_fill_53178_14 : decode cJ7_fill_53178 14 = .ok (.iinc 2 1, 3) := by decide +kernel
theorem dJ7_fill_53178_17 : decode cJ7_fill_53178 17 = .ok (.goto (-12), 3) := by decide +kernel
theorem dJ7_fill_53178_20 : decode cJ7_fill_53178 20 = .ok (.return_, 1) := by decide +kernel
