theorem dX11_isIn_0 : decode cX11_isIn 0 = .ok (.iload_n 1, 1) := by decide +kernel
theorem dX11_isIn_1 : decode cX11_isIn 1 = .ok (.iload_n 2, 1) := by decide +kernel
theorem dX11_isIn_2 : decode cX11_isIn 2 = .ok (.if_icmp .lt 12, 3) := by decide +kernel
theorem dX11_isIn_5 : decode cX11_isIn 5 = .ok (.iload_n 1, 1) := by decide +kernel
theorem dX11_isIn_6 : decode cX11_isIn 6 = .ok (.iload_n 3, 1) := by decide +kernel
theorem dX11_isIn_7 : decode cX11_isIn 7 = .ok (.if_icmp .gt 7, 3) := by decide +kernel
theorem dX11_isIn_10 : decode cX11_isIn 10 = .ok (.iconst 1, 1) := by decide +kernel
theorem dX11_isIn_11 : decode cX11_isIn 11 = .ok (.goto 4, 3) := by decide +kernel
theorem dX11_isIn_14 : decode cX11_isIn 14 = .ok (.iconst 0, 1) := by decide +kernel
theorem dX11_isIn_15 : decode cX11_isIn 15 = .ok (.ireturn, 1) := by decide +kernel
theorem dX11_held_0 : decode cX11_held 0 = .ok (.iload_n 1, 1) := by decide +kernel
theorem dX11_held_1 : decode cX11_held 1 = .ok (.iload_n 2, 1) := by decide +kernel
theorem dX11_held_2 : decode cX11_held 2 = .ok (.if_icmp .ge 7, 3) := by decide +kernel
theorem dX11_held_5 : decode cX11_held 5 = .ok (.iload_n 2, 1) := by decide +kernel
theorem dX11_held_6 : decode cX11_held 6 = .ok (.goto 13, 3) := by decide +kernel
theorem dX11_held_9 : decode cX11_held 9 = .ok (.iload_n 1, 1) := by decide +kernel
theorem dX11_held_10 : decode cX11_held 10 = .ok (.iload_n 3, 1) := by decide +kernel
theorem dX11_held_11 : decode cX11_held 11 = .ok (.if_icmp .le 7, 3) := by decide +kernel
theorem dX11_held_14 : decode cX11_held 14 = .ok (.iload_n 3, 1) := by decide +kernel
theorem dX11_held_15 : decode cX11_held 15 = .ok (.goto 4, 3) := by decide +kernel
theorem dX11_held_18 : decode cX11_held 18 = .ok (.iload_n 1, 1) := by decide +kernel
theorem dX11_held_19 : decode cX11_held 19 = .ok (.ireturn, 1) := by decide +kernel
theorem dX11_greater_0 : decode cX11_greater 0 = .ok (.iload_n 1, 1) := by decide +kernel
theorem dX11_greater_1 : decode cX11_greater 1 = .ok (.iload_n 2, 1) := by decide +kernel
theorem dX11_greater_2 : decode cX11_greater 2 = .ok (.if_icmp .le 7, 3) := by decide +kernel
theorem dX11_greater_5 : decode cX11_greater 5 = .ok (.iload_n 1, 1) := by decide +kernel
theorem dX11_greater_6 : decode cX11_greater 6 = .ok (.goto 4, 3) := by decide +kernel
theorem dX11_greater_9 : decode cX11_greater 9 = .ok (.iload_n 2, 1) := by decide +kernel
theorem dX11_greater_10 : decode cX11_greater 10 = .ok (.ireturn, 1) := by decide +kernel
theorem dX11_lesser_0 : decode cX11_lesser 0 = .ok (.iload_n 1, 1) := by decide +kernel
theorem dX11_lesser_1 : decode cX11_lesser 1 = .ok (.iload_n 2, 1) := by decide +kernel
theorem dX11_lesser_2 : decode cX11_lesser 2 = .ok (.if_icmp .ge 7, 3) := by decide +kernel
theorem dX11_lesser_5 : decode cX11_lesser 5 = .ok (.iload_n 1, 1) := by decide +kernel
theorem dX11_lesser_6 : decode cX11_lesser 6 = .ok (.goto 4, 3) := by decide +kernel
theorem dX11_lesser_9 : decode cX11_lesser 9 = .ok (.iload_n 2, 1) := by decide +kernel
theorem dX11_lesser_10 : decode cX11_lesser 10 = .ok (.ireturn, 1) := by decide +kernel
theorem dX11_common_0 : decode cX11_common 0 = .ok (.iload_n 1, 1) := by decide +kernel
theorem dX11_common_1 : decode cX11_common 1 = .ok (.ifCond .ge 8, 3) := by decide +kernel
theorem dX11_common_4 : decode cX11_common 4 = .ok (.iload_n 1, 1) := by decide +kernel
theorem dX11_common_5 : decode cX11_common 5 = .ok (.ineg, 1) := by decide +kernel
theorem dX11_common_6 : decode cX11_common 6 = .ok (.goto 4, 3) := by decide +kernel
theorem dX11_common_9 : decode cX11_common 9 = .ok (.iload_n 1, 1) := by decide +kernel
theorem dX11_common_10 : decode cX11_common 10 = .ok (.istore_n 3, 1) := by decide +kernel
theorem dX11_common_11 : decode cX11_common 11 = .ok (.iload_n 2, 1) := by decide +kernel
theorem dX11_common_12 : decode cX11_common 12 = .ok (.ifCond .ge 8, 3) := by decide +kernel
theorem dX11_common_15 : decode cX11_common 15 = .ok (.iload_n 2, 1) := by decide +kernel
theorem dX11_common_16 : decode cX11_common 16 = .ok (.ineg, 1) := by decide +kernel
theorem dX11_common_17 : decode cX11_common 17 = .ok (.goto 4, 3) := by decide +kernel
theorem dX11_common_20 : decode cX11_common 20 = .ok (.iload_n 2, 1) := by decide +kernel
theorem dX11_common_21 : decode cX11_common 21 = .ok (.istore 4, 2) := by decide +kernel
theorem dX11_common_23 : decode cX11_common 23 = .ok (.iload 4, 2) := by decide +kernel
theorem dX11_common_25 : decode cX11_common 25 = .ok (.ifCond .eq 19, 3) := by decide +kernel
theorem dX11_common_28 : decode cX11_common 28 = .ok (.iload_n 3, 1) := by decide +kernel
theorem dX11_common_29 : decode cX11_common 29 = .ok (.iload 4, 2) := by decide +kernel
theorem dX11_common_31 : decode cX11_common 31 = .ok (.irem, 1) := by decide +kernel
theorem dX11_common_32 : decode cX11_common 32 = .ok (.istore 5, 2) := by decide +kernel
theorem dX11_common_34 : decode cX11_common 34 = .ok (.iload 4, 2) := by decide +kernel
theorem dX11_common_36 : decode cX11_common 36 = .ok (.istore_n 3, 1) := by decide +kernel
theorem dX11_common_37 : decode cX11_common 37 = .ok (.iload 5, 2) := by decide +kernel
theorem dX11_common_39 : decode cX11_common 39 = .ok (.istore 4, 2) := by decide +kernel
theorem dX11_common_41 : decode cX11_common 41 = .ok (.goto (-18), 3) := by decide +kernel
theorem dX11_common_44 : decode cX11_common 44 = .ok (.iload_n 3, 1) := by decide +kernel
theorem dX11_common_45 : decode cX11_common 45 = .ok (.ireturn, 1) := by decide +kernel
theorem dX11_onesOf_0 : decode cX11_onesOf 0 = .ok (.iconst 0, 1) := by decide +kernel
theorem dX11_onesOf_1 : decode cX11_onesOf 1 = .ok (.istore_n 2, 1) := by decide +kernel
theorem dX11_onesOf_2 : decode cX11_onesOf 2 = .ok (.iload_n 1, 1) := by decide +kernel
theorem dX11_onesOf_3 : decode cX11_onesOf 3 = .ok (.istore_n 3, 1) := by decide +kernel
theorem dX11_onesOf_4 : decode cX11_onesOf 4 = .ok (.iload_n 3, 1) := by decide +kernel
theorem dX11_onesOf_5 : decode cX11_onesOf 5 = .ok (.ifCond .eq 16, 3) := by decide +kernel
theorem dX11_onesOf_8 : decode cX11_onesOf 8 = .ok (.iload_n 2, 1) := by decide +kernel
theorem dX11_onesOf_9 : decode cX11_onesOf 9 = .ok (.iconst 1, 1) := by decide +kernel
theorem dX11_onesOf_10 : decode cX11_onesOf 10 = .ok (.iadd, 1) := by decide +kernel
theorem dX11_onesOf_11 : decode cX11_onesOf 11 = .ok (.istore_n 2, 1) := by decide +kernel
theorem dX11_onesOf_12 : decode cX11_onesOf 12 = .ok (.iload_n 3, 1) := by decide +kernel
theorem dX11_onesOf_13 : decode cX11_onesOf 13 = .ok (.iload_n 3, 1) := by decide +kernel
theorem dX11_onesOf_14 : decode cX11_onesOf 14 = .ok (.iconst 1, 1) := by decide +kernel
theorem dX11_onesOf_15 : decode cX11_onesOf 15 = .ok (.isub, 1) := by decide +kernel
theorem dX11_onesOf_16 : decode cX11_onesOf 16 = .ok (.iand, 1) := by decide +kernel
theorem dX11_onesOf_17 : decode cX11_onesOf 17 = .ok (.istore_n 3, 1) := by decide +kernel
theorem dX11_onesOf_18 : decode cX11_onesOf 18 = .ok (.goto (-14), 3) := by decide +kernel
theorem dX11_onesOf_21 : decode cX11_onesOf 21 = .ok (.iload_n 2, 1) := by decide +kernel
theorem dX11_onesOf_22 : decode cX11_onesOf 22 = .ok (.ireturn, 1) := by decide +kernel
theorem dX11_has_0 : decode cX11_has 0 = .ok (.iload_n 1, 1) := by decide +kernel
theorem dX11_has_1 : decode cX11_has 1 = .ok (.iload_n 2, 1) := by decide +kernel
theorem dX11_has_2 : decode cX11_has 2 = .ok (.ishr, 1) := by decide +kernel
theorem dX11_has_3 : decode cX11_has 3 = .ok (.iconst 1, 1) := by decide +kernel
theorem dX11_has_4 : decode cX11_has 4 = .ok (.iand, 1) := by decide +kernel
theorem dX11_has_5 : decode cX11_has 5 = .ok (.iconst 1, 1) := by decide +kernel
theorem dX11_has_6 : decode cX11_has 6 = .ok (.if_icmp .ne 7, 3) := by decide +kernel
theorem dX11_has_9 : decode cX11_has 9 = .ok (.iconst 1, 1) := by decide +kernel
theorem dX11_has_10 : decode cX11_has 10 = .ok (.goto 4, 3) := by decide +kernel
theorem dX11_has_13 : decode cX11_has 13 = .ok (.iconst 0, 1) := by decide +kernel
theorem dX11_has_14 : decode cX11_has 14 = .ok (.ireturn, 1) := by decide +kernel
theorem dX11_keepsAhead_0 : decode cX11_keepsAhead 0 = .ok (.aload_n 0, 1) := by decide +kernel
theorem dX11_keepsAhead_1 : decode cX11_keepsAhead 1 = .ok (.getfield 135, 3) := by decide +kernel
theorem dX11_keepsAhead_4 : decode cX11_keepsAhead 4 = .ok (.bipush 6, 2) := by decide +kernel
theorem dX11_keepsAhead_6 : decode cX11_keepsAhead 6 = .ok (.if_icmp .ne 47, 3) := by decide +kernel
theorem dX11_keepsAhead_9 : decode cX11_keepsAhead 9 = .ok (.aload_n 0, 1) := by decide +kernel
theorem dX11_keepsAhead_10 : decode cX11_keepsAhead 10 = .ok (.aload_n 0, 1) := by decide +kernel
theorem dX11_keepsAhead_11 : decode cX11_keepsAhead 11 = .ok (.getfield 135, 3) := by decide +kernel
theorem dX11_keepsAhead_14 : decode cX11_keepsAhead 14 = .ok (.iconst 1, 1) := by decide +kernel
theorem dX11_keepsAhead_15 : decode cX11_keepsAhead 15 = .ok (.isub, 1) := by decide +kernel
theorem dX11_keepsAhead_16 : decode cX11_keepsAhead 16 = .ok (.putfield 135, 3) := by decide +kernel
theorem dX11_keepsAhead_19 : decode cX11_keepsAhead 19 = .ok (.iconst 0, 1) := by decide +kernel
theorem dX11_keepsAhead_20 : decode cX11_keepsAhead 20 = .ok (.istore_n 1, 1) := by decide +kernel
theorem dX11_keepsAhead_21 : decode cX11_keepsAhead 21 = .ok (.iload_n 1, 1) := by decide +kernel
theorem dX11_keepsAhead_22 : decode cX11_keepsAhead 22 = .ok (.bipush 103, 2) := by decide +kernel
theorem dX11_keepsAhead_24 : decode cX11_keepsAhead 24 = .ok (.aload_n 0, 1) := by decide +kernel
theorem dX11_keepsAhead_25 : decode cX11_keepsAhead 25 = .ok (.getfield 135, 3) := by decide +kernel
theorem dX11_keepsAhead_28 : decode cX11_keepsAhead 28 = .ok (.imul, 1) := by decide +kernel
theorem dX11_keepsAhead_29 : decode cX11_keepsAhead 29 = .ok (.if_icmp .ge 24, 3) := by decide +kernel
theorem dX11_keepsAhead_32 : decode cX11_keepsAhead 32 = .ok (.aload_n 0, 1) := by decide +kernel
theorem dX11_keepsAhead_33 : decode cX11_keepsAhead 33 = .ok (.getfield 13, 3) := by decide +kernel
theorem dX11_keepsAhead_36 : decode cX11_keepsAhead 36 = .ok (.iload_n 1, 1) := by decide +kernel
theorem dX11_keepsAhead_37 : decode cX11_keepsAhead 37 = .ok (.aload_n 0, 1) := by decide +kernel
theorem dX11_keepsAhead_38 : decode cX11_keepsAhead 38 = .ok (.getfield 13, 3) := by decide +kernel
theorem dX11_keepsAhead_41 : decode cX11_keepsAhead 41 = .ok (.iload_n 1, 1) := by decide +kernel
theorem dX11_keepsAhead_42 : decode cX11_keepsAhead 42 = .ok (.bipush 103, 2) := by decide +kernel
theorem dX11_keepsAhead_44 : decode cX11_keepsAhead 44 = .ok (.iadd, 1) := by decide +kernel
theorem dX11_keepsAhead_45 : decode cX11_keepsAhead 45 = .ok (.iaload, 1) := by decide +kernel
theorem dX11_keepsAhead_46 : decode cX11_keepsAhead 46 = .ok (.iastore, 1) := by decide +kernel
theorem dX11_keepsAhead_47 : decode cX11_keepsAhead 47 = .ok (.iinc 1 1, 3) := by decide +kernel
theorem dX11_keepsAhead_50 : decode cX11_keepsAhead 50 = .ok (.goto (-29), 3) := by decide +kernel
theorem dX11_keepsAhead_53 : decode cX11_keepsAhead 53 = .ok (.iconst 0, 1) := by decide +kernel
theorem dX11_keepsAhead_54 : decode cX11_keepsAhead 54 = .ok (.istore_n 1, 1) := by decide +kernel
theorem dX11_keepsAhead_55 : decode cX11_keepsAhead 55 = .ok (.iload_n 1, 1) := by decide +kernel
theorem dX11_keepsAhead_56 : decode cX11_keepsAhead 56 = .ok (.bipush 103, 2) := by decide +kernel
theorem dX11_keepsAhead_58 : decode cX11_keepsAhead 58 = .ok (.if_icmp .ge 29, 3) := by decide +kernel
theorem dX11_keepsAhead_61 : decode cX11_keepsAhead 61 = .ok (.aload_n 0, 1) := by decide +kernel
theorem dX11_keepsAhead_62 : decode cX11_keepsAhead 62 = .ok (.getfield 13, 3) := by decide +kernel
theorem dX11_keepsAhead_65 : decode cX11_keepsAhead 65 = .ok (.bipush 103, 2) := by decide +kernel
theorem dX11_keepsAhead_67 : decode cX11_keepsAhead 67 = .ok (.aload_n 0, 1) := by decide +kernel
theorem dX11_keepsAhead_68 : decode cX11_keepsAhead 68 = .ok (.getfield 135, 3) := by decide +kernel
theorem dX11_keepsAhead_71 : decode cX11_keepsAhead 71 = .ok (.imul, 1) := by decide +kernel
theorem dX11_keepsAhead_72 : decode cX11_keepsAhead 72 = .ok (.iload_n 1, 1) := by decide +kernel
theorem dX11_keepsAhead_73 : decode cX11_keepsAhead 73 = .ok (.iadd, 1) := by decide +kernel
theorem dX11_keepsAhead_74 : decode cX11_keepsAhead 74 = .ok (.aload_n 0, 1) := by decide +kernel
theorem dX11_keepsAhead_75 : decode cX11_keepsAhead 75 = .ok (.getfield 7, 3) := by decide +kernel
theorem dX11_keepsAhead_78 : decode cX11_keepsAhead 78 = .ok (.iload_n 1, 1) := by decide +kernel
theorem dX11_keepsAhead_79 : decode cX11_keepsAhead 79 = .ok (.iaload, 1) := by decide +kernel
theorem dX11_keepsAhead_80 : decode cX11_keepsAhead 80 = .ok (.iastore, 1) := by decide +kernel
theorem dX11_keepsAhead_81 : decode cX11_keepsAhead 81 = .ok (.iinc 1 1, 3) := by decide +kernel
theorem dX11_keepsAhead_84 : decode cX11_keepsAhead 84 = .ok (.goto (-29), 3) := by decide +kernel
theorem dX11_keepsAhead_87 : decode cX11_keepsAhead 87 = .ok (.aload_n 0, 1) := by decide +kernel
theorem dX11_keepsAhead_88 : decode cX11_keepsAhead 88 = .ok (.aload_n 0, 1) := by decide +kernel
theorem dX11_keepsAhead_89 : decode cX11_keepsAhead 89 = .ok (.getfield 135, 3) := by decide +kernel
theorem dX11_keepsAhead_92 : decode cX11_keepsAhead 92 = .ok (.iconst 1, 1) := by decide +kernel
theorem dX11_keepsAhead_93 : decode cX11_keepsAhead 93 = .ok (.iadd, 1) := by decide +kernel
theorem dX11_keepsAhead_94 : decode cX11_keepsAhead 94 = .ok (.putfield 135, 3) := by decide +kernel
theorem dX11_keepsAhead_97 : decode cX11_keepsAhead 97 = .ok (.return_, 1) := by decide +kernel
theorem dX11_undo_0 : decode cX11_undo 0 = .ok (.aload_n 0, 1) := by decide +kernel
theorem dX11_undo_1 : decode cX11_undo 1 = .ok (.iconst 0, 1) := by decide +kernel
theorem dX11_undo_2 : decode cX11_undo 2 = .ok (.putfield 132, 3) := by decide +kernel
theorem dX11_undo_5 : decode cX11_undo 5 = .ok (.aload_n 0, 1) := by decide +kernel
theorem dX11_undo_6 : decode cX11_undo 6 = .ok (.getfield 135, 3) := by decide +kernel
theorem dX11_undo_9 : decode cX11_undo 9 = .ok (.ifCond .ne 5, 3) := by decide +kernel
theorem dX11_undo_12 : decode cX11_undo 12 = .ok (.iconst 0, 1) := by decide +kernel
theorem dX11_undo_13 : decode cX11_undo 13 = .ok (.ireturn, 1) := by decide +kernel
theorem dX11_undo_14 : decode cX11_undo 14 = .ok (.aload_n 0, 1) := by decide +kernel
theorem dX11_undo_15 : decode cX11_undo 15 = .ok (.aload_n 0, 1) := by decide +kernel
theorem dX11_undo_16 : decode cX11_undo 16 = .ok (.getfield 135, 3) := by decide +kernel
theorem dX11_undo_19 : decode cX11_undo 19 = .ok (.iconst 1, 1) := by decide +kernel
theorem dX11_undo_20 : decode cX11_undo 20 = .ok (.isub, 1) := by decide +kernel
theorem dX11_undo_21 : decode cX11_undo 21 = .ok (.putfield 135, 3) := by decide +kernel
theorem dX11_undo_24 : decode cX11_undo 24 = .ok (.iconst 0, 1) := by decide +kernel
theorem dX11_undo_25 : decode cX11_undo 25 = .ok (.istore_n 1, 1) := by decide +kernel
theorem dX11_undo_26 : decode cX11_undo 26 = .ok (.iload_n 1, 1) := by decide +kernel
theorem dX11_undo_27 : decode cX11_undo 27 = .ok (.bipush 103, 2) := by decide +kernel
theorem dX11_undo_29 : decode cX11_undo 29 = .ok (.if_icmp .ge 29, 3) := by decide +kernel
theorem dX11_undo_32 : decode cX11_undo 32 = .ok (.aload_n 0, 1) := by decide +kernel
theorem dX11_undo_33 : decode cX11_undo 33 = .ok (.getfield 7, 3) := by decide +kernel
theorem dX11_undo_36 : decode cX11_undo 36 = .ok (.iload_n 1, 1) := by decide +kernel
theorem dX11_undo_37 : decode cX11_undo 37 = .ok (.aload_n 0, 1) := by decide +kernel
theorem dX11_undo_38 : decode cX11_undo 38 = .ok (.getfield 13, 3) := by decide +kernel
theorem dX11_undo_41 : decode cX11_undo 41 = .ok (.bipush 103, 2) := by decide +kernel
theorem dX11_undo_43 : decode cX11_undo 43 = .ok (.aload_n 0, 1) := by decide +kernel
theorem dX11_undo_44 : decode cX11_undo 44 = .ok (.getfield 135, 3) := by decide +kernel
theorem dX11_undo_47 : decode cX11_undo 47 = .ok (.imul, 1) := by decide +kernel
theorem dX11_undo_48 : decode cX11_undo 48 = .ok (.iload_n 1, 1) := by decide +kernel
theorem dX11_undo_49 : decode cX11_undo 49 = .ok (.iadd, 1) := by decide +kernel
theorem dX11_undo_50 : decode cX11_undo 50 = .ok (.iaload, 1) := by decide +kernel
theorem dX11_undo_51 : decode cX11_undo 51 = .ok (.iastore, 1) := by decide +kernel
theorem dX11_undo_52 : decode cX11_undo 52 = .ok (.iinc 1 1, 3) := by decide +kernel
theorem dX11_undo_55 : decode cX11_undo 55 = .ok (.goto (-29), 3) := by decide +kernel
theorem dX11_undo_58 : decode cX11_undo 58 = .ok (.iconst 1, 1) := by decide +kernel
theorem dX11_undo_59 : decode cX11_undo 59 = .ok (.ireturn, 1) := by decide +kernel
theorem dX11_thinks_0 : decode cX11_thinks 0 = .ok (.iconst 0, 1) := by decide +kernel
theorem dX11_thinks_1 : decode cX11_thinks 1 = .ok (.istore_n 1, 1) := by decide +kernel
theorem dX11_thinks_2 : decode cX11_thinks 2 = .ok (.iload_n 1, 1) := by decide +kernel
theorem dX11_thinks_3 : decode cX11_thinks 3 = .ok (.bipush 103, 2) := by decide +kernel
theorem dX11_thinks_5 : decode cX11_thinks 5 = .ok (.if_icmp .ge 21, 3) := by decide +kernel
theorem dX11_thinks_8 : decode cX11_thinks 8 = .ok (.aload_n 0, 1) := by decide +kernel
theorem dX11_thinks_9 : decode cX11_thinks 9 = .ok (.getfield 16, 3) := by decide +kernel
theorem dX11_thinks_12 : decode cX11_thinks 12 = .ok (.iload_n 1, 1) := by decide +kernel
theorem dX11_thinks_13 : decode cX11_thinks 13 = .ok (.aload_n 0, 1) := by decide +kernel
theorem dX11_thinks_14 : decode cX11_thinks 14 = .ok (.getfield 7, 3) := by decide +kernel
theorem dX11_thinks_17 : decode cX11_thinks 17 = .ok (.iload_n 1, 1) := by decide +kernel
theorem dX11_thinks_18 : decode cX11_thinks 18 = .ok (.iaload, 1) := by decide +kernel
theorem dX11_thinks_19 : decode cX11_thinks 19 = .ok (.iastore, 1) := by decide +kernel
theorem dX11_thinks_20 : decode cX11_thinks 20 = .ok (.iinc 1 1, 3) := by decide +kernel
theorem dX11_thinks_23 : decode cX11_thinks 23 = .ok (.goto (-21), 3) := by decide +kernel
theorem dX11_thinks_26 : decode cX11_thinks 26 = .ok (.aload_n 0, 1) := by decide +kernel
theorem dX11_thinks_27 : decode cX11_thinks 27 = .ok (.iconst 1, 1) := by decide +kernel
theorem dX11_thinks_28 : decode cX11_thinks 28 = .ok (.putfield 138, 3) := by decide +kernel
theorem dX11_thinks_31 : decode cX11_thinks 31 = .ok (.return_, 1) := by decide +kernel
theorem dX11_endsThought_0 : decode cX11_endsThought 0 = .ok (.iconst 0, 1) := by decide +kernel
theorem dX11_endsThought_1 : decode cX11_endsThought 1 = .ok (.istore_n 1, 1) := by decide +kernel
theorem dX11_endsThought_2 : decode cX11_endsThought 2 = .ok (.iload_n 1, 1) := by decide +kernel
theorem dX11_endsThought_3 : decode cX11_endsThought 3 = .ok (.bipush 103, 2) := by decide +kernel
theorem dX11_endsThought_5 : decode cX11_endsThought 5 = .ok (.if_icmp .ge 21, 3) := by decide +kernel
theorem dX11_endsThought_8 : decode cX11_endsThought 8 = .ok (.aload_n 0, 1) := by decide +kernel
theorem dX11_endsThought_9 : decode cX11_endsThought 9 = .ok (.getfield 7, 3) := by decide +kernel
theorem dX11_endsThought_12 : decode cX11_endsThought 12 = .ok (.iload_n 1, 1) := by decide +kernel
theorem dX11_endsThought_13 : decode cX11_endsThought 13 = .ok (.aload_n 0, 1) := by decide +kernel
theorem dX11_endsThought_14 : decode cX11_endsThought 14 = .ok (.getfield 16, 3) := by decide +kernel
theorem dX11_endsThought_17 : decode cX11_endsThought 17 = .ok (.iload_n 1, 1) := by decide +kernel
theorem dX11_endsThought_18 : decode cX11_endsThought 18 = .ok (.iaload, 1) := by decide +kernel
theorem dX11_endsThought_19 : decode cX11_endsThought 19 = .ok (.iastore, 1) := by decide +kernel
theorem dX11_endsThought_20 : decode cX11_endsThought 20 = .ok (.iinc 1 1, 3) := by decide +kernel
theorem dX11_endsThought_23 : decode cX11_endsThought 23 = .ok (.goto (-21), 3) := by decide +kernel
theorem dX11_endsThought_26 : decode cX11_endsThought 26 = .ok (.aload_n 0, 1) := by decide +kernel
theorem dX11_endsThought_27 : decode cX11_endsThought 27 = .ok (.iconst 0, 1) := by decide +kernel
theorem dX11_endsThought_28 : decode cX11_endsThought 28 = .ok (.putfield 138, 3) := by decide +kernel
theorem dX11_endsThought_31 : decode cX11_endsThought 31 = .ok (.return_, 1) := by decide +kernel
theorem dX11_state_0 : decode cX11_state 0 = .ok (.aload_n 0, 1) := by decide +kernel
theorem dX11_state_1 : decode cX11_state 1 = .ok (.iconst 0, 1) := by decide +kernel
theorem dX11_state_2 : decode cX11_state 2 = .ok (.putfield 132, 3) := by decide +kernel
theorem dX11_state_5 : decode cX11_state 5 = .ok (.aload_n 0, 1) := by decide +kernel
theorem dX11_state_6 : decode cX11_state 6 = .ok (.getfield 7, 3) := by decide +kernel
theorem dX11_state_9 : decode cX11_state 9 = .ok (.iconst 1, 1) := by decide +kernel
theorem dX11_state_10 : decode cX11_state 10 = .ok (.iaload, 1) := by decide +kernel
theorem dX11_state_11 : decode cX11_state 11 = .ok (.istore_n 2, 1) := by decide +kernel
theorem dX11_state_12 : decode cX11_state 12 = .ok (.aload_n 0, 1) := by decide +kernel
theorem dX11_state_13 : decode cX11_state 13 = .ok (.getfield 7, 3) := by decide +kernel
theorem dX11_state_16 : decode cX11_state 16 = .ok (.iconst 1, 1) := by decide +kernel
theorem dX11_state_17 : decode cX11_state 17 = .ok (.iload_n 1, 1) := by decide +kernel
theorem dX11_state_18 : decode cX11_state 18 = .ok (.iastore, 1) := by decide +kernel
theorem dX11_state_19 : decode cX11_state 19 = .ok (.aload_n 0, 1) := by decide +kernel
theorem dX11_state_20 : decode cX11_state 20 = .ok (.iconst 0, 1) := by decide +kernel
theorem dX11_state_21 : decode cX11_state 21 = .ok (.putfield 135, 3) := by decide +kernel
theorem dX11_state_24 : decode cX11_state 24 = .ok (.iload_n 2, 1) := by decide +kernel
theorem dX11_state_25 : decode cX11_state 25 = .ok (.ireturn, 1) := by decide +kernel
theorem dX11_draw_0 : decode cX11_draw 0 = .ok (.aload_n 0, 1) := by decide +kernel
theorem dX11_draw_1 : decode cX11_draw 1 = .ok (.getfield 7, 3) := by decide +kernel
theorem dX11_draw_4 : decode cX11_draw 4 = .ok (.iconst 1, 1) := by decide +kernel
theorem dX11_draw_5 : decode cX11_draw 5 = .ok (.ldc 142, 2) := by decide +kernel
theorem dX11_draw_7 : decode cX11_draw 7 = .ok (.aload_n 0, 1) := by decide +kernel
theorem dX11_draw_8 : decode cX11_draw 8 = .ok (.getfield 7, 3) := by decide +kernel
theorem dX11_draw_11 : decode cX11_draw 11 = .ok (.iconst 1, 1) := by decide +kernel
theorem dX11_draw_12 : decode cX11_draw 12 = .ok (.iaload, 1) := by decide +kernel
theorem dX11_draw_13 : decode cX11_draw 13 = .ok (.imul, 1) := by decide +kernel
theorem dX11_draw_14 : decode cX11_draw 14 = .ok (.ldc 143, 2) := by decide +kernel
theorem dX11_draw_16 : decode cX11_draw 16 = .ok (.iadd, 1) := by decide +kernel
theorem dX11_draw_17 : decode cX11_draw 17 = .ok (.iastore, 1) := by decide +kernel
theorem dX11_draw_18 : decode cX11_draw 18 = .ok (.aload_n 0, 1) := by decide +kernel
theorem dX11_draw_19 : decode cX11_draw 19 = .ok (.getfield 7, 3) := by decide +kernel
theorem dX11_draw_22 : decode cX11_draw 22 = .ok (.iconst 1, 1) := by decide +kernel
theorem dX11_draw_23 : decode cX11_draw 23 = .ok (.iaload, 1) := by decide +kernel
theorem dX11_draw_24 : decode cX11_draw 24 = .ok (.bipush 8, 2) := by decide +kernel
theorem dX11_draw_26 : decode cX11_draw 26 = .ok (.iushr, 1) := by decide +kernel
theorem dX11_draw_27 : decode cX11_draw 27 = .ok (.iload_n 1, 1) := by decide +kernel
theorem dX11_draw_28 : decode cX11_draw 28 = .ok (.irem, 1) := by decide +kernel
theorem dX11_draw_29 : decode cX11_draw 29 = .ok (.ireturn, 1) := by decide +kernel
theorem dX11_isHouse_0 : decode cX11_isHouse 0 = .ok (.iload_n 1, 1) := by decide +kernel
theorem dX11_isHouse_1 : decode cX11_isHouse 1 = .ok (.ifCond .lt 15, 3) := by decide +kernel
theorem dX11_isHouse_4 : decode cX11_isHouse 4 = .ok (.iload_n 1, 1) := by decide +kernel
theorem dX11_isHouse_5 : decode cX11_isHouse 5 = .ok (.aload_n 0, 1) := by decide +kernel
theorem dX11_isHouse_6 : decode cX11_isHouse 6 = .ok (.getfield 144, 3) := by decide +kernel
theorem dX11_isHouse_9 : decode cX11_isHouse 9 = .ok (.if_icmp .ge 7, 3) := by decide +kernel
theorem dX11_isHouse_12 : decode cX11_isHouse 12 = .ok (.iconst 1, 1) := by decide +kernel
theorem dX11_isHouse_13 : decode cX11_isHouse 13 = .ok (.goto 4, 3) := by decide +kernel
theorem dX11_isHouse_16 : decode cX11_isHouse 16 = .ok (.iconst 0, 1) := by decide +kernel
theorem dX11_isHouse_17 : decode cX11_isHouse 17 = .ok (.ireturn, 1) := by decide +kernel
theorem dX11_house_0 : decode cX11_house 0 = .ok (.aload_n 0, 1) := by decide +kernel
theorem dX11_house_1 : decode cX11_house 1 = .ok (.iconst 0, 1) := by decide +kernel
theorem dX11_house_2 : decode cX11_house 2 = .ok (.putfield 132, 3) := by decide +kernel
theorem dX11_house_5 : decode cX11_house 5 = .ok (.aload_n 0, 1) := by decide +kernel
theorem dX11_house_6 : decode cX11_house 6 = .ok (.iload_n 1, 1) := by decide +kernel
theorem dX11_house_7 : decode cX11_house 7 = .ok (.iconst 0, 1) := by decide +kernel
theorem dX11_house_8 : decode cX11_house 8 = .ok (.bipush 9, 2) := by decide +kernel
theorem dX11_house_10 : decode cX11_house 10 = .ok (.invokevirtual 147, 3) := by decide +kernel
theorem dX11_house_13 : decode cX11_house 13 = .ok (.ifCond .eq 35, 3) := by decide +kernel
theorem dX11_house_16 : decode cX11_house 16 = .ok (.aload_n 0, 1) := by decide +kernel
theorem dX11_house_17 : decode cX11_house 17 = .ok (.iload_n 2, 1) := by decide +kernel
theorem dX11_house_18 : decode cX11_house 18 = .ok (.iconst 0, 1) := by decide +kernel
theorem dX11_house_19 : decode cX11_house 19 = .ok (.bipush 9, 2) := by decide +kernel
theorem dX11_house_21 : decode cX11_house 21 = .ok (.invokevirtual 147, 3) := by decide +kernel
theorem dX11_house_24 : decode cX11_house 24 = .ok (.ifCond .eq 24, 3) := by decide +kernel
theorem dX11_house_27 : decode cX11_house 27 = .ok (.aload_n 0, 1) := by decide +kernel
theorem dX11_house_28 : decode cX11_house 28 = .ok (.iload_n 3, 1) := by decide +kernel
theorem dX11_house_29 : decode cX11_house 29 = .ok (.iconst 0, 1) := by decide +kernel
theorem dX11_house_30 : decode cX11_house 30 = .ok (.sipush 9999, 3) := by decide +kernel
theorem dX11_house_33 : decode cX11_house 33 = .ok (.invokevirtual 147, 3) := by decide +kernel
theorem dX11_house_36 : decode cX11_house 36 = .ok (.ifCond .eq 12, 3) := by decide +kernel
theorem dX11_house_39 : decode cX11_house 39 = .ok (.aload_n 0, 1) := by decide +kernel
theorem dX11_house_40 : decode cX11_house 40 = .ok (.getfield 144, 3) := by decide +kernel
theorem dX11_house_43 : decode cX11_house 43 = .ok (.bipush 16, 2) := by decide +kernel
theorem dX11_house_45 : decode cX11_house 45 = .ok (.if_icmp .ne 5, 3) := by decide +kernel
theorem dX11_house_48 : decode cX11_house 48 = .ok (.iconst (-1), 1) := by decide +kernel
theorem dX11_house_49 : decode cX11_house 49 = .ok (.ireturn, 1) := by decide +kernel
theorem dX11_house_50 : decode cX11_house 50 = .ok (.aload_n 0, 1) := by decide +kernel
theorem dX11_house_51 : decode cX11_house 51 = .ok (.getfield 7, 3) := by decide +kernel
theorem dX11_house_54 : decode cX11_house 54 = .ok (.bipush 7, 2) := by decide +kernel
theorem dX11_house_56 : decode cX11_house 56 = .ok (.aload_n 0, 1) := by decide +kernel
theorem dX11_house_57 : decode cX11_house 57 = .ok (.getfield 144, 3) := by decide +kernel
theorem dX11_house_60 : decode cX11_house 60 = .ok (.iadd, 1) := by decide +kernel
theorem dX11_house_61 : decode cX11_house 61 = .ok (.iload_n 1, 1) := by decide +kernel
theorem dX11_house_62 : decode cX11_house 62 = .ok (.iastore, 1) := by decide +kernel
theorem dX11_house_63 : decode cX11_house 63 = .ok (.aload_n 0, 1) := by decide +kernel
theorem dX11_house_64 : decode cX11_house 64 = .ok (.getfield 7, 3) := by decide +kernel
theorem dX11_house_67 : decode cX11_house 67 = .ok (.bipush 23, 2) := by decide +kernel
theorem dX11_house_69 : decode cX11_house 69 = .ok (.aload_n 0, 1) := by decide +kernel
theorem dX11_house_70 : decode cX11_house 70 = .ok (.getfield 144, 3) := by decide +kernel
theorem dX11_house_73 : decode cX11_house 73 = .ok (.iadd, 1) := by decide +kernel
theorem dX11_house_74 : decode cX11_house 74 = .ok (.iload_n 2, 1) := by decide +kernel
theorem dX11_house_75 : decode cX11_house 75 = .ok (.iastore, 1) := by decide +kernel
theorem dX11_house_76 : decode cX11_house 76 = .ok (.aload_n 0, 1) := by decide +kernel
theorem dX11_house_77 : decode cX11_house 77 = .ok (.getfield 7, 3) := by decide +kernel
theorem dX11_house_80 : decode cX11_house 80 = .ok (.bipush 39, 2) := by decide +kernel
theorem dX11_house_82 : decode cX11_house 82 = .ok (.aload_n 0, 1) := by decide +kernel
theorem dX11_house_83 : decode cX11_house 83 = .ok (.getfield 144, 3) := by decide +kernel
theorem dX11_house_86 : decode cX11_house 86 = .ok (.iadd, 1) := by decide +kernel
theorem dX11_house_87 : decode cX11_house 87 = .ok (.iconst 0, 1) := by decide +kernel
theorem dX11_house_88 : decode cX11_house 88 = .ok (.iastore, 1) := by decide +kernel
theorem dX11_house_89 : decode cX11_house 89 = .ok (.aload_n 0, 1) := by decide +kernel
theorem dX11_house_90 : decode cX11_house 90 = .ok (.getfield 7, 3) := by decide +kernel
theorem dX11_house_93 : decode cX11_house 93 = .ok (.bipush 55, 2) := by decide +kernel
theorem dX11_house_95 : decode cX11_house 95 = .ok (.aload_n 0, 1) := by decide +kernel
theorem dX11_house_96 : decode cX11_house 96 = .ok (.getfield 144, 3) := by decide +kernel
theorem dX11_house_99 : decode cX11_house 99 = .ok (.iadd, 1) := by decide +kernel
theorem dX11_house_100 : decode cX11_house 100 = .ok (.iload_n 3, 1) := by decide +kernel
theorem dX11_house_101 : decode cX11_house 101 = .ok (.iastore, 1) := by decide +kernel
theorem dX11_house_102 : decode cX11_house 102 = .ok (.aload_n 0, 1) := by decide +kernel
theorem dX11_house_103 : decode cX11_house 103 = .ok (.getfield 7, 3) := by decide +kernel
theorem dX11_house_106 : decode cX11_house 106 = .ok (.bipush 71, 2) := by decide +kernel
theorem dX11_house_108 : decode cX11_house 108 = .ok (.aload_n 0, 1) := by decide +kernel
theorem dX11_house_109 : decode cX11_house 109 = .ok (.getfield 144, 3) := by decide +kernel
theorem dX11_house_112 : decode cX11_house 112 = .ok (.iadd, 1) := by decide +kernel
theorem dX11_house_113 : decode cX11_house 113 = .ok (.aload_n 0, 1) := by decide +kernel
theorem dX11_house_114 : decode cX11_house 114 = .ok (.getfield 144, 3) := by decide +kernel
theorem dX11_house_117 : decode cX11_house 117 = .ok (.iconst 1, 1) := by decide +kernel
theorem dX11_house_118 : decode cX11_house 118 = .ok (.iadd, 1) := by decide +kernel
theorem dX11_house_119 : decode cX11_house 119 = .ok (.iastore, 1) := by decide +kernel
theorem dX11_house_120 : decode cX11_house 120 = .ok (.aload_n 0, 1) := by decide +kernel
theorem dX11_house_121 : decode cX11_house 121 = .ok (.getfield 7, 3) := by decide +kernel
theorem dX11_house_124 : decode cX11_house 124 = .ok (.bipush 87, 2) := by decide +kernel
theorem dX11_house_126 : decode cX11_house 126 = .ok (.aload_n 0, 1) := by decide +kernel
theorem dX11_house_127 : decode cX11_house 127 = .ok (.getfield 144, 3) := by decide +kernel
theorem dX11_house_130 : decode cX11_house 130 = .ok (.iadd, 1) := by decide +kernel
theorem dX11_house_131 : decode cX11_house 131 = .ok (.iconst 0, 1) := by decide +kernel
theorem dX11_house_132 : decode cX11_house 132 = .ok (.iastore, 1) := by decide +kernel
theorem dX11_house_133 : decode cX11_house 133 = .ok (.aload_n 0, 1) := by decide +kernel
theorem dX11_house_134 : decode cX11_house 134 = .ok (.aload_n 0, 1) := by decide +kernel
theorem dX11_house_135 : decode cX11_house 135 = .ok (.getfield 144, 3) := by decide +kernel
theorem dX11_house_138 : decode cX11_house 138 = .ok (.iconst 1, 1) := by decide +kernel
theorem dX11_house_139 : decode cX11_house 139 = .ok (.iadd, 1) := by decide +kernel
theorem dX11_house_140 : decode cX11_house 140 = .ok (.putfield 144, 3) := by decide +kernel
theorem dX11_house_143 : decode cX11_house 143 = .ok (.aload_n 0, 1) := by decide +kernel
theorem dX11_house_144 : decode cX11_house 144 = .ok (.iconst 0, 1) := by decide +kernel
theorem dX11_house_145 : decode cX11_house 145 = .ok (.putfield 135, 3) := by decide +kernel
theorem dX11_house_148 : decode cX11_house 148 = .ok (.aload_n 0, 1) := by decide +kernel
theorem dX11_house_149 : decode cX11_house 149 = .ok (.getfield 144, 3) := by decide +kernel
theorem dX11_house_152 : decode cX11_house 152 = .ok (.iconst 1, 1) := by decide +kernel
theorem dX11_house_153 : decode cX11_house 153 = .ok (.isub, 1) := by decide +kernel
theorem dX11_house_154 : decode cX11_house 154 = .ok (.ireturn, 1) := by decide +kernel
theorem dX11_set_0 : decode cX11_set 0 = .ok (.aload_n 0, 1) := by decide +kernel
theorem dX11_set_1 : decode cX11_set 1 = .ok (.iconst 0, 1) := by decide +kernel
theorem dX11_set_2 : decode cX11_set 2 = .ok (.putfield 132, 3) := by decide +kernel
theorem dX11_set_5 : decode cX11_set 5 = .ok (.aload_n 0, 1) := by decide +kernel
theorem dX11_set_6 : decode cX11_set 6 = .ok (.iload_n 1, 1) := by decide +kernel
theorem dX11_set_7 : decode cX11_set 7 = .ok (.iconst 0, 1) := by decide +kernel
theorem dX11_set_8 : decode cX11_set 8 = .ok (.iconst 4, 1) := by decide +kernel
theorem dX11_set_9 : decode cX11_set 9 = .ok (.invokevirtual 147, 3) := by decide +kernel
theorem dX11_set_12 : decode cX11_set 12 = .ok (.ifCond .eq 42, 3) := by decide +kernel
theorem dX11_set_15 : decode cX11_set 15 = .ok (.aload_n 0, 1) := by decide +kernel
theorem dX11_set_16 : decode cX11_set 16 = .ok (.iload_n 2, 1) := by decide +kernel
theorem dX11_set_17 : decode cX11_set 17 = .ok (.invokevirtual 151, 3) := by decide +kernel
theorem dX11_set_20 : decode cX11_set 20 = .ok (.ifCond .eq 34, 3) := by decide +kernel
theorem dX11_set_23 : decode cX11_set 23 = .ok (.aload_n 0, 1) := by decide +kernel
theorem dX11_set_24 : decode cX11_set 24 = .ok (.iload_n 3, 1) := by decide +kernel
theorem dX11_set_25 : decode cX11_set 25 = .ok (.iconst 0, 1) := by decide +kernel
theorem dX11_set_26 : decode cX11_set 26 = .ok (.iload_n 1, 1) := by decide +kernel
theorem dX11_set_27 : decode cX11_set 27 = .ok (.iconst 2, 1) := by decide +kernel
theorem dX11_set_28 : decode cX11_set 28 = .ok (.if_icmp .ne 9, 3) := by decide +kernel
theorem dX11_set_31 : decode cX11_set 31 = .ok (.sipush 9999, 3) := by decide +kernel
theorem dX11_set_34 : decode cX11_set 34 = .ok (.goto 14, 3) := by decide +kernel
theorem dX11_set_37 : decode cX11_set 37 = .ok (.iload_n 1, 1) := by decide +kernel
theorem dX11_set_38 : decode cX11_set 38 = .ok (.iconst 4, 1) := by decide +kernel
theorem dX11_set_39 : decode cX11_set 39 = .ok (.if_icmp .ne 7, 3) := by decide +kernel
theorem dX11_set_42 : decode cX11_set 42 = .ok (.iconst 1, 1) := by decide +kernel
theorem dX11_set_43 : decode cX11_set 43 = .ok (.goto 5, 3) := by decide +kernel
theorem dX11_set_46 : decode cX11_set 46 = .ok (.bipush 9, 2) := by decide +kernel
theorem dX11_set_48 : decode cX11_set 48 = .ok (.invokevirtual 147, 3) := by decide +kernel
theorem dX11_set_51 : decode cX11_set 51 = .ok (.ifCond .ne 5, 3) := by decide +kernel
theorem dX11_set_54 : decode cX11_set 54 = .ok (.iconst 0, 1) := by decide +kernel
theorem dX11_set_55 : decode cX11_set 55 = .ok (.ireturn, 1) := by decide +kernel
theorem dX11_set_56 : decode cX11_set 56 = .ok (.iload_n 1, 1) := by decide +kernel
theorem dX11_set_57 : decode cX11_set 57 = .ok (.ifCond .ne 13, 3) := by decide +kernel
theorem dX11_set_60 : decode cX11_set 60 = .ok (.aload_n 0, 1) := by decide +kernel
theorem dX11_set_61 : decode cX11_set 61 = .ok (.getfield 7, 3) := by decide +kernel
theorem dX11_set_64 : decode cX11_set 64 = .ok (.bipush 7, 2) := by decide +kernel
theorem dX11_set_66 : decode cX11_set 66 = .ok (.iload_n 2, 1) := by decide +kernel
theorem dX11_set_67 : decode cX11_set 67 = .ok (.iadd, 1) := by decide +kernel
theorem dX11_set_68 : decode cX11_set 68 = .ok (.iload_n 3, 1) := by decide +kernel
theorem dX11_set_69 : decode cX11_set 69 = .ok (.iastore, 1) := by decide +kernel
theorem dX11_set_70 : decode cX11_set 70 = .ok (.iload_n 1, 1) := by decide +kernel
theorem dX11_set_71 : decode cX11_set 71 = .ok (.iconst 1, 1) := by decide +kernel
theorem dX11_set_72 : decode cX11_set 72 = .ok (.if_icmp .ne 13, 3) := by decide +kernel
theorem dX11_set_75 : decode cX11_set 75 = .ok (.aload_n 0, 1) := by decide +kernel
theorem dX11_set_76 : decode cX11_set 76 = .ok (.getfield 7, 3) := by decide +kernel
theorem dX11_set_79 : decode cX11_set 79 = .ok (.bipush 23, 2) := by decide +kernel
theorem dX11_set_81 : decode cX11_set 81 = .ok (.iload_n 2, 1) := by decide +kernel
theorem dX11_set_82 : decode cX11_set 82 = .ok (.iadd, 1) := by decide +kernel
theorem dX11_set_83 : decode cX11_set 83 = .ok (.iload_n 3, 1) := by decide +kernel
theorem dX11_set_84 : decode cX11_set 84 = .ok (.iastore, 1) := by decide +kernel
theorem dX11_set_85 : decode cX11_set 85 = .ok (.iload_n 1, 1) := by decide +kernel
theorem dX11_set_86 : decode cX11_set 86 = .ok (.iconst 2, 1) := by decide +kernel
theorem dX11_set_87 : decode cX11_set 87 = .ok (.if_icmp .ne 13, 3) := by decide +kernel
theorem dX11_set_90 : decode cX11_set 90 = .ok (.aload_n 0, 1) := by decide +kernel
theorem dX11_set_91 : decode cX11_set 91 = .ok (.getfield 7, 3) := by decide +kernel
theorem dX11_set_94 : decode cX11_set 94 = .ok (.bipush 55, 2) := by decide +kernel
theorem dX11_set_96 : decode cX11_set 96 = .ok (.iload_n 2, 1) := by decide +kernel
theorem dX11_set_97 : decode cX11_set 97 = .ok (.iadd, 1) := by decide +kernel
theorem dX11_set_98 : decode cX11_set 98 = .ok (.iload_n 3, 1) := by decide +kernel
theorem dX11_set_99 : decode cX11_set 99 = .ok (.iastore, 1) := by decide +kernel
theorem dX11_set_100 : decode cX11_set 100 = .ok (.iload_n 1, 1) := by decide +kernel
theorem dX11_set_101 : decode cX11_set 101 = .ok (.iconst 3, 1) := by decide +kernel
theorem dX11_set_102 : decode cX11_set 102 = .ok (.if_icmp .ne 13, 3) := by decide +kernel
theorem dX11_set_105 : decode cX11_set 105 = .ok (.aload_n 0, 1) := by decide +kernel
theorem dX11_set_106 : decode cX11_set 106 = .ok (.getfield 7, 3) := by decide +kernel
theorem dX11_set_109 : decode cX11_set 109 = .ok (.bipush 39, 2) := by decide +kernel
theorem dX11_set_111 : decode cX11_set 111 = .ok (.iload_n 2, 1) := by decide +kernel
theorem dX11_set_112 : decode cX11_set 112 = .ok (.iadd, 1) := by decide +kernel
theorem dX11_set_113 : decode cX11_set 113 = .ok (.iload_n 3, 1) := by decide +kernel
theorem dX11_set_114 : decode cX11_set 114 = .ok (.iastore, 1) := by decide +kernel
theorem dX11_set_115 : decode cX11_set 115 = .ok (.iload_n 1, 1) := by decide +kernel
theorem dX11_set_116 : decode cX11_set 116 = .ok (.iconst 4, 1) := by decide +kernel
theorem dX11_set_117 : decode cX11_set 117 = .ok (.if_icmp .ne 13, 3) := by decide +kernel
theorem dX11_set_120 : decode cX11_set 120 = .ok (.aload_n 0, 1) := by decide +kernel
theorem dX11_set_121 : decode cX11_set 121 = .ok (.getfield 7, 3) := by decide +kernel
theorem dX11_set_124 : decode cX11_set 124 = .ok (.bipush 87, 2) := by decide +kernel
theorem dX11_set_126 : decode cX11_set 126 = .ok (.iload_n 2, 1) := by decide +kernel
theorem dX11_set_127 : decode cX11_set 127 = .ok (.iadd, 1) := by decide +kernel
theorem dX11_set_128 : decode cX11_set 128 = .ok (.iload_n 3, 1) := by decide +kernel
theorem dX11_set_129 : decode cX11_set 129 = .ok (.iastore, 1) := by decide +kernel
theorem dX11_set_130 : decode cX11_set 130 = .ok (.aload_n 0, 1) := by decide +kernel
theorem dX11_set_131 : decode cX11_set 131 = .ok (.iconst 0, 1) := by decide +kernel
theorem dX11_set_132 : decode cX11_set 132 = .ok (.putfield 135, 3) := by decide +kernel
theorem dX11_set_135 : decode cX11_set 135 = .ok (.iconst 1, 1) := by decide +kernel
theorem dX11_set_136 : decode cX11_set 136 = .ok (.ireturn, 1) := by decide +kernel
theorem dX11_types_0 : decode cX11_types 0 = .ok (.bipush 24, 2) := by decide +kernel
theorem dX11_types_2 : decode cX11_types 2 = .ok (.istore_n 2, 1) := by decide +kernel
theorem dX11_types_3 : decode cX11_types 3 = .ok (.iload_n 2, 1) := by decide +kernel
theorem dX11_types_4 : decode cX11_types 4 = .ok (.ifCond .lt 35, 3) := by decide +kernel
theorem dX11_types_7 : decode cX11_types 7 = .ok (.aload_n 0, 1) := by decide +kernel
theorem dX11_types_8 : decode cX11_types 8 = .ok (.getfield 22, 3) := by decide +kernel
theorem dX11_types_11 : decode cX11_types 11 = .ok (.aload_n 0, 1) := by decide +kernel
theorem dX11_types_12 : decode cX11_types 12 = .ok (.getfield 155, 3) := by decide +kernel
theorem dX11_types_15 : decode cX11_types 15 = .ok (.iload_n 1, 1) := by decide +kernel
theorem dX11_types_16 : decode cX11_types 16 = .ok (.iload_n 2, 1) := by decide +kernel
theorem dX11_types_17 : decode cX11_types 17 = .ok (.ishr, 1) := by decide +kernel
theorem dX11_types_18 : decode cX11_types 18 = .ok (.sipush 255, 3) := by decide +kernel
theorem dX11_types_21 : decode cX11_types 21 = .ok (.iand, 1) := by decide +kernel
theorem dX11_types_22 : decode cX11_types 22 = .ok (.iastore, 1) := by decide +kernel
theorem dX11_types_23 : decode cX11_types 23 = .ok (.aload_n 0, 1) := by decide +kernel
theorem dX11_types_24 : decode cX11_types 24 = .ok (.aload_n 0, 1) := by decide +kernel
theorem dX11_types_25 : decode cX11_types 25 = .ok (.getfield 155, 3) := by decide +kernel
theorem dX11_types_28 : decode cX11_types 28 = .ok (.iconst 1, 1) := by decide +kernel
theorem dX11_types_29 : decode cX11_types 29 = .ok (.iadd, 1) := by decide +kernel
theorem dX11_types_30 : decode cX11_types 30 = .ok (.putfield 155, 3) := by decide +kernel
theorem dX11_types_33 : decode cX11_types 33 = .ok (.iinc 2 (-8), 3) := by decide +kernel
theorem dX11_types_36 : decode cX11_types 36 = .ok (.goto (-33), 3) := by decide +kernel
theorem dX11_types_39 : decode cX11_types 39 = .ok (.return_, 1) := by decide +kernel
theorem dX11_feed_0 : decode cX11_feed 0 = .ok (.aload_n 0, 1) := by decide +kernel
theorem dX11_feed_1 : decode cX11_feed 1 = .ok (.iconst 0, 1) := by decide +kernel
theorem dX11_feed_2 : decode cX11_feed 2 = .ok (.putfield 132, 3) := by decide +kernel
theorem dX11_feed_5 : decode cX11_feed 5 = .ok (.aload_n 0, 1) := by decide +kernel
theorem dX11_feed_6 : decode cX11_feed 6 = .ok (.getfield 155, 3) := by decide +kernel
theorem dX11_feed_9 : decode cX11_feed 9 = .ok (.sipush 380, 3) := by decide +kernel
theorem dX11_feed_12 : decode cX11_feed 12 = .ok (.if_icmp .le 5, 3) := by decide +kernel
theorem dX11_feed_15 : decode cX11_feed 15 = .ok (.iconst (-1), 1) := by decide +kernel
theorem dX11_feed_16 : decode cX11_feed 16 = .ok (.ireturn, 1) := by decide +kernel
theorem dX11_feed_17 : decode cX11_feed 17 = .ok (.aload_n 0, 1) := by decide +kernel
theorem dX11_feed_18 : decode cX11_feed 18 = .ok (.iload_n 1, 1) := by decide +kernel
theorem dX11_feed_19 : decode cX11_feed 19 = .ok (.invokevirtual 158, 3) := by decide +kernel
theorem dX11_feed_22 : decode cX11_feed 22 = .ok (.aload_n 0, 1) := by decide +kernel
theorem dX11_feed_23 : decode cX11_feed 23 = .ok (.iload_n 2, 1) := by decide +kernel
theorem dX11_feed_24 : decode cX11_feed 24 = .ok (.invokevirtual 158, 3) := by decide +kernel
theorem dX11_feed_27 : decode cX11_feed 27 = .ok (.aload_n 0, 1) := by decide +kernel
theorem dX11_feed_28 : decode cX11_feed 28 = .ok (.iload_n 3, 1) := by decide +kernel
theorem dX11_feed_29 : decode cX11_feed 29 = .ok (.invokevirtual 158, 3) := by decide +kernel
theorem dX11_feed_32 : decode cX11_feed 32 = .ok (.aload_n 0, 1) := by decide +kernel
theorem dX11_feed_33 : decode cX11_feed 33 = .ok (.iload 4, 2) := by decide +kernel
theorem dX11_feed_35 : decode cX11_feed 35 = .ok (.invokevirtual 158, 3) := by decide +kernel
theorem dX11_feed_38 : decode cX11_feed 38 = .ok (.aload_n 0, 1) := by decide +kernel
theorem dX11_feed_39 : decode cX11_feed 39 = .ok (.iload 5, 2) := by decide +kernel
theorem dX11_feed_41 : decode cX11_feed 41 = .ok (.invokevirtual 158, 3) := by decide +kernel
theorem dX11_feed_44 : decode cX11_feed 44 = .ok (.aload_n 0, 1) := by decide +kernel
theorem dX11_feed_45 : decode cX11_feed 45 = .ok (.getfield 155, 3) := by decide +kernel
theorem dX11_feed_48 : decode cX11_feed 48 = .ok (.ireturn, 1) := by decide +kernel
theorem dX11_end_0 : decode cX11_end 0 = .ok (.aload_n 0, 1) := by decide +kernel
theorem dX11_end_1 : decode cX11_end 1 = .ok (.iconst 0, 1) := by decide +kernel
theorem dX11_end_2 : decode cX11_end 2 = .ok (.putfield 132, 3) := by decide +kernel
theorem dX11_end_5 : decode cX11_end 5 = .ok (.aload_n 0, 1) := by decide +kernel
theorem dX11_end_6 : decode cX11_end 6 = .ok (.iload_n 1, 1) := by decide +kernel
theorem dX11_end_7 : decode cX11_end 7 = .ok (.iconst 0, 1) := by decide +kernel
theorem dX11_end_8 : decode cX11_end 8 = .ok (.aload_n 0, 1) := by decide +kernel
theorem dX11_end_9 : decode cX11_end 9 = .ok (.getfield 155, 3) := by decide +kernel
theorem dX11_end_12 : decode cX11_end 12 = .ok (.invokevirtual 147, 3) := by decide +kernel
theorem dX11_end_15 : decode cX11_end 15 = .ok (.ifCond .ne 5, 3) := by decide +kernel
theorem dX11_end_18 : decode cX11_end 18 = .ok (.iconst 0, 1) := by decide +kernel
theorem dX11_end_19 : decode cX11_end 19 = .ok (.ireturn, 1) := by decide +kernel
theorem dX11_end_20 : decode cX11_end 20 = .ok (.aload_n 0, 1) := by decide +kernel
theorem dX11_end_21 : decode cX11_end 21 = .ok (.iload_n 1, 1) := by decide +kernel
theorem dX11_end_22 : decode cX11_end 22 = .ok (.putfield 155, 3) := by decide +kernel
theorem dX11_end_25 : decode cX11_end 25 = .ok (.iconst 1, 1) := by decide +kernel
theorem dX11_end_26 : decode cX11_end 26 = .ok (.ireturn, 1) := by decide +kernel
theorem dX11_raw_0 : decode cX11_raw 0 = .ok (.iload_n 1, 1) := by decide +kernel
theorem dX11_raw_1 : decode cX11_raw 1 = .ok (.aload_n 0, 1) := by decide +kernel
theorem dX11_raw_2 : decode cX11_raw 2 = .ok (.getfield 155, 3) := by decide +kernel
theorem dX11_raw_5 : decode cX11_raw 5 = .ok (.if_icmp .ge 12, 3) := by decide +kernel
theorem dX11_raw_8 : decode cX11_raw 8 = .ok (.aload_n 0, 1) := by decide +kernel
theorem dX11_raw_9 : decode cX11_raw 9 = .ok (.getfield 22, 3) := by decide +kernel
theorem dX11_raw_12 : decode cX11_raw 12 = .ok (.iload_n 1, 1) := by decide +kernel
theorem dX11_raw_13 : decode cX11_raw 13 = .ok (.iaload, 1) := by decide +kernel
theorem dX11_raw_14 : decode cX11_raw 14 = .ok (.goto 4, 3) := by decide +kernel
theorem dX11_raw_17 : decode cX11_raw 17 = .ok (.iconst (-1), 1) := by decide +kernel
theorem dX11_raw_18 : decode cX11_raw 18 = .ok (.ireturn, 1) := by decide +kernel
theorem dX11_isLetter_0 : decode cX11_isLetter 0 = .ok (.aload_n 0, 1) := by decide +kernel
theorem dX11_isLetter_1 : decode cX11_isLetter 1 = .ok (.iload_n 1, 1) := by decide +kernel
theorem dX11_isLetter_2 : decode cX11_isLetter 2 = .ok (.bipush 97, 2) := by decide +kernel
theorem dX11_isLetter_4 : decode cX11_isLetter 4 = .ok (.bipush 122, 2) := by decide +kernel
theorem dX11_isLetter_6 : decode cX11_isLetter 6 = .ok (.invokevirtual 147, 3) := by decide +kernel
theorem dX11_isLetter_9 : decode cX11_isLetter 9 = .ok (.ifCond .ne 15, 3) := by decide +kernel
theorem dX11_isLetter_12 : decode cX11_isLetter 12 = .ok (.aload_n 0, 1) := by decide +kernel
theorem dX11_isLetter_13 : decode cX11_isLetter 13 = .ok (.iload_n 1, 1) := by decide +kernel
theorem dX11_isLetter_14 : decode cX11_isLetter 14 = .ok (.bipush 65, 2) := by decide +kernel
theorem dX11_isLetter_16 : decode cX11_isLetter 16 = .ok (.bipush 90, 2) := by decide +kernel
theorem dX11_isLetter_18 : decode cX11_isLetter 18 = .ok (.invokevirtual 147, 3) := by decide +kernel
theorem dX11_isLetter_21 : decode cX11_isLetter 21 = .ok (.ifCond .eq 7, 3) := by decide +kernel
theorem dX11_isLetter_24 : decode cX11_isLetter 24 = .ok (.iconst 1, 1) := by decide +kernel
theorem dX11_isLetter_25 : decode cX11_isLetter 25 = .ok (.goto 4, 3) := by decide +kernel
theorem dX11_isLetter_28 : decode cX11_isLetter 28 = .ok (.iconst 0, 1) := by decide +kernel
theorem dX11_isLetter_29 : decode cX11_isLetter 29 = .ok (.ireturn, 1) := by decide +kernel
theorem dX11_isDigit_0 : decode cX11_isDigit 0 = .ok (.aload_n 0, 1) := by decide +kernel
theorem dX11_isDigit_1 : decode cX11_isDigit 1 = .ok (.iload_n 1, 1) := by decide +kernel
theorem dX11_isDigit_2 : decode cX11_isDigit 2 = .ok (.bipush 48, 2) := by decide +kernel
theorem dX11_isDigit_4 : decode cX11_isDigit 4 = .ok (.bipush 57, 2) := by decide +kernel
theorem dX11_isDigit_6 : decode cX11_isDigit 6 = .ok (.invokevirtual 147, 3) := by decide +kernel
theorem dX11_isDigit_9 : decode cX11_isDigit 9 = .ok (.ireturn, 1) := by decide +kernel
theorem dX11_isMarkSign_0 : decode cX11_isMarkSign 0 = .ok (.iload_n 1, 1) := by decide +kernel
theorem dX11_isMarkSign_1 : decode cX11_isMarkSign 1 = .ok (.bipush 59, 2) := by decide +kernel
theorem dX11_isMarkSign_3 : decode cX11_isMarkSign 3 = .ok (.if_icmp .eq 57, 3) := by decide +kernel
theorem dX11_isMarkSign_6 : decode cX11_isMarkSign 6 = .ok (.iload_n 1, 1) := by decide +kernel
theorem dX11_isMarkSign_7 : decode cX11_isMarkSign 7 = .ok (.bipush 43, 2) := by decide +kernel
theorem dX11_isMarkSign_9 : decode cX11_isMarkSign 9 = .ok (.if_icmp .eq 51, 3) := by decide +kernel
theorem dX11_isMarkSign_12 : decode cX11_isMarkSign 12 = .ok (.iload_n 1, 1) := by decide +kernel
theorem dX11_isMarkSign_13 : decode cX11_isMarkSign 13 = .ok (.bipush 45, 2) := by decide +kernel
theorem dX11_isMarkSign_15 : decode cX11_isMarkSign 15 = .ok (.if_icmp .eq 45, 3) := by decide +kernel
theorem dX11_isMarkSign_18 : decode cX11_isMarkSign 18 = .ok (.iload_n 1, 1) := by decide +kernel
theorem dX11_isMarkSign_19 : decode cX11_isMarkSign 19 = .ok (.bipush 42, 2) := by decide +kernel
theorem dX11_isMarkSign_21 : decode cX11_isMarkSign 21 = .ok (.if_icmp .eq 39, 3) := by decide +kernel
theorem dX11_isMarkSign_24 : decode cX11_isMarkSign 24 = .ok (.iload_n 1, 1) := by decide +kernel
theorem dX11_isMarkSign_25 : decode cX11_isMarkSign 25 = .ok (.bipush 47, 2) := by decide +kernel
theorem dX11_isMarkSign_27 : decode cX11_isMarkSign 27 = .ok (.if_icmp .eq 33, 3) := by decide +kernel
theorem dX11_isMarkSign_30 : decode cX11_isMarkSign 30 = .ok (.iload_n 1, 1) := by decide +kernel
theorem dX11_isMarkSign_31 : decode cX11_isMarkSign 31 = .ok (.bipush 40, 2) := by decide +kernel
theorem dX11_isMarkSign_33 : decode cX11_isMarkSign 33 = .ok (.if_icmp .eq 27, 3) := by decide +kernel
theorem dX11_isMarkSign_36 : decode cX11_isMarkSign 36 = .ok (.iload_n 1, 1) := by decide +kernel
theorem dX11_isMarkSign_37 : decode cX11_isMarkSign 37 = .ok (.bipush 41, 2) := by decide +kernel
theorem dX11_isMarkSign_39 : decode cX11_isMarkSign 39 = .ok (.if_icmp .eq 21, 3) := by decide +kernel
theorem dX11_isMarkSign_42 : decode cX11_isMarkSign 42 = .ok (.iload_n 1, 1) := by decide +kernel
theorem dX11_isMarkSign_43 : decode cX11_isMarkSign 43 = .ok (.bipush 60, 2) := by decide +kernel
theorem dX11_isMarkSign_45 : decode cX11_isMarkSign 45 = .ok (.if_icmp .eq 15, 3) := by decide +kernel
theorem dX11_isMarkSign_48 : decode cX11_isMarkSign 48 = .ok (.iload_n 1, 1) := by decide +kernel
theorem dX11_isMarkSign_49 : decode cX11_isMarkSign 49 = .ok (.bipush 61, 2) := by decide +kernel
theorem dX11_isMarkSign_51 : decode cX11_isMarkSign 51 = .ok (.if_icmp .eq 9, 3) := by decide +kernel
theorem dX11_isMarkSign_54 : decode cX11_isMarkSign 54 = .ok (.iload_n 1, 1) := by decide +kernel
theorem dX11_isMarkSign_55 : decode cX11_isMarkSign 55 = .ok (.bipush 62, 2) := by decide +kernel
theorem dX11_isMarkSign_57 : decode cX11_isMarkSign 57 = .ok (.if_icmp .ne 7, 3) := by decide +kernel
theorem dX11_isMarkSign_60 : decode cX11_isMarkSign 60 = .ok (.iconst 1, 1) := by decide +kernel
theorem dX11_isMarkSign_61 : decode cX11_isMarkSign 61 = .ok (.goto 4, 3) := by decide +kernel
theorem dX11_isMarkSign_64 : decode cX11_isMarkSign 64 = .ok (.iconst 0, 1) := by decide +kernel
theorem dX11_isMarkSign_65 : decode cX11_isMarkSign 65 = .ok (.ireturn, 1) := by decide +kernel
theorem dX11_wordAt_0 : decode cX11_wordAt 0 = .ok (.iconst (-1), 1) := by decide +kernel
theorem dX11_wordAt_1 : decode cX11_wordAt 1 = .ok (.istore_n 3, 1) := by decide +kernel
theorem dX11_wordAt_2 : decode cX11_wordAt 2 = .ok (.iconst 0, 1) := by decide +kernel
theorem dX11_wordAt_3 : decode cX11_wordAt 3 = .ok (.istore 4, 2) := by decide +kernel
theorem dX11_wordAt_5 : decode cX11_wordAt 5 = .ok (.iload 4, 2) := by decide +kernel
theorem dX11_wordAt_7 : decode cX11_wordAt 7 = .ok (.sipush 133, 3) := by decide +kernel
theorem dX11_wordAt_10 : decode cX11_wordAt 10 = .ok (.if_icmp .ge 108, 3) := by decide +kernel
theorem dX11_wordAt_13 : decode cX11_wordAt 13 = .ok (.iconst 0, 1) := by decide +kernel
theorem dX11_wordAt_14 : decode cX11_wordAt 14 = .ok (.istore 5, 2) := by decide +kernel
theorem dX11_wordAt_16 : decode cX11_wordAt 16 = .ok (.iload_n 3, 1) := by decide +kernel
theorem dX11_wordAt_17 : decode cX11_wordAt 17 = .ok (.iconst 1, 1) := by decide +kernel
theorem dX11_wordAt_18 : decode cX11_wordAt 18 = .ok (.iadd, 1) := by decide +kernel
theorem dX11_wordAt_19 : decode cX11_wordAt 19 = .ok (.istore_n 3, 1) := by decide +kernel
theorem dX11_wordAt_20 : decode cX11_wordAt 20 = .ok (.iload_n 1, 1) := by decide +kernel
theorem dX11_wordAt_21 : decode cX11_wordAt 21 = .ok (.iload 5, 2) := by decide +kernel
theorem dX11_wordAt_23 : decode cX11_wordAt 23 = .ok (.iadd, 1) := by decide +kernel
theorem dX11_wordAt_24 : decode cX11_wordAt 24 = .ok (.iload_n 2, 1) := by decide +kernel
theorem dX11_wordAt_25 : decode cX11_wordAt 25 = .ok (.if_icmp .ge 36, 3) := by decide +kernel
theorem dX11_wordAt_28 : decode cX11_wordAt 28 = .ok (.aload_n 0, 1) := by decide +kernel
theorem dX11_wordAt_29 : decode cX11_wordAt 29 = .ok (.getfield 25, 3) := by decide +kernel
theorem dX11_wordAt_32 : decode cX11_wordAt 32 = .ok (.iload 4, 2) := by decide +kernel
theorem dX11_wordAt_34 : decode cX11_wordAt 34 = .ok (.iconst 1, 1) := by decide +kernel
theorem dX11_wordAt_35 : decode cX11_wordAt 35 = .ok (.iadd, 1) := by decide +kernel
theorem dX11_wordAt_36 : decode cX11_wordAt 36 = .ok (.iload 5, 2) := by decide +kernel
theorem dX11_wordAt_38 : decode cX11_wordAt 38 = .ok (.iadd, 1) := by decide +kernel
theorem dX11_wordAt_39 : decode cX11_wordAt 39 = .ok (.iaload, 1) := by decide +kernel
theorem dX11_wordAt_40 : decode cX11_wordAt 40 = .ok (.aload_n 0, 1) := by decide +kernel
theorem dX11_wordAt_41 : decode cX11_wordAt 41 = .ok (.getfield 22, 3) := by decide +kernel
theorem dX11_wordAt_44 : decode cX11_wordAt 44 = .ok (.iload_n 1, 1) := by decide +kernel
theorem dX11_wordAt_45 : decode cX11_wordAt 45 = .ok (.iload 5, 2) := by decide +kernel
theorem dX11_wordAt_47 : decode cX11_wordAt 47 = .ok (.iadd, 1) := by decide +kernel
theorem dX11_wordAt_48 : decode cX11_wordAt 48 = .ok (.iaload, 1) := by decide +kernel
theorem dX11_wordAt_49 : decode cX11_wordAt 49 = .ok (.if_icmp .ne 12, 3) := by decide +kernel
theorem dX11_wordAt_52 : decode cX11_wordAt 52 = .ok (.iload 5, 2) := by decide +kernel
theorem dX11_wordAt_54 : decode cX11_wordAt 54 = .ok (.iconst 1, 1) := by decide +kernel
theorem dX11_wordAt_55 : decode cX11_wordAt 55 = .ok (.iadd, 1) := by decide +kernel
theorem dX11_wordAt_56 : decode cX11_wordAt 56 = .ok (.istore 5, 2) := by decide +kernel
theorem dX11_wordAt_58 : decode cX11_wordAt 58 = .ok (.goto (-38), 3) := by decide +kernel
theorem dX11_wordAt_61 : decode cX11_wordAt 61 = .ok (.iload_n 1, 1) := by decide +kernel
theorem dX11_wordAt_62 : decode cX11_wordAt 62 = .ok (.iload 5, 2) := by decide +kernel
theorem dX11_wordAt_64 : decode cX11_wordAt 64 = .ok (.iadd, 1) := by decide +kernel
theorem dX11_wordAt_65 : decode cX11_wordAt 65 = .ok (.iload_n 2, 1) := by decide +kernel
theorem dX11_wordAt_66 : decode cX11_wordAt 66 = .ok (.if_icmp .ne 22, 3) := by decide +kernel
theorem dX11_wordAt_69 : decode cX11_wordAt 69 = .ok (.aload_n 0, 1) := by decide +kernel
theorem dX11_wordAt_70 : decode cX11_wordAt 70 = .ok (.getfield 25, 3) := by decide +kernel
theorem dX11_wordAt_73 : decode cX11_wordAt 73 = .ok (.iload 4, 2) := by decide +kernel
theorem dX11_wordAt_75 : decode cX11_wordAt 75 = .ok (.iconst 1, 1) := by decide +kernel
theorem dX11_wordAt_76 : decode cX11_wordAt 76 = .ok (.iadd, 1) := by decide +kernel
theorem dX11_wordAt_77 : decode cX11_wordAt 77 = .ok (.iload 5, 2) := by decide +kernel
theorem dX11_wordAt_79 : decode cX11_wordAt 79 = .ok (.iadd, 1) := by decide +kernel
theorem dX11_wordAt_80 : decode cX11_wordAt 80 = .ok (.iaload, 1) := by decide +kernel
theorem dX11_wordAt_81 : decode cX11_wordAt 81 = .ok (.bipush 32, 2) := by decide +kernel
theorem dX11_wordAt_83 : decode cX11_wordAt 83 = .ok (.if_icmp .ne 5, 3) := by decide +kernel
theorem dX11_wordAt_86 : decode cX11_wordAt 86 = .ok (.iload_n 3, 1) := by decide +kernel
theorem dX11_wordAt_87 : decode cX11_wordAt 87 = .ok (.ireturn, 1) := by decide +kernel
theorem dX11_wordAt_88 : decode cX11_wordAt 88 = .ok (.iload 4, 2) := by decide +kernel
theorem dX11_wordAt_90 : decode cX11_wordAt 90 = .ok (.iconst 1, 1) := by decide +kernel
theorem dX11_wordAt_91 : decode cX11_wordAt 91 = .ok (.iadd, 1) := by decide +kernel
theorem dX11_wordAt_92 : decode cX11_wordAt 92 = .ok (.istore 4, 2) := by decide +kernel
theorem dX11_wordAt_94 : decode cX11_wordAt 94 = .ok (.aload_n 0, 1) := by decide +kernel
theorem dX11_wordAt_95 : decode cX11_wordAt 95 = .ok (.getfield 25, 3) := by decide +kernel
theorem dX11_wordAt_98 : decode cX11_wordAt 98 = .ok (.iload 4, 2) := by decide +kernel
theorem dX11_wordAt_100 : decode cX11_wordAt 100 = .ok (.iaload, 1) := by decide +kernel
theorem dX11_wordAt_101 : decode cX11_wordAt 101 = .ok (.bipush 32, 2) := by decide +kernel
theorem dX11_wordAt_103 : decode cX11_wordAt 103 = .ok (.if_icmp .eq 12, 3) := by decide +kernel
theorem dX11_wordAt_106 : decode cX11_wordAt 106 = .ok (.iload 4, 2) := by decide +kernel
theorem dX11_wordAt_108 : decode cX11_wordAt 108 = .ok (.iconst 1, 1) := by decide +kernel
theorem dX11_wordAt_109 : decode cX11_wordAt 109 = .ok (.iadd, 1) := by decide +kernel
theorem dX11_wordAt_110 : decode cX11_wordAt 110 = .ok (.istore 4, 2) := by decide +kernel
theorem dX11_wordAt_112 : decode cX11_wordAt 112 = .ok (.goto (-18), 3) := by decide +kernel
theorem dX11_wordAt_115 : decode cX11_wordAt 115 = .ok (.goto (-110), 3) := by decide +kernel
theorem dX11_wordAt_118 : decode cX11_wordAt 118 = .ok (.iconst (-1), 1) := by decide +kernel
theorem dX11_wordAt_119 : decode cX11_wordAt 119 = .ok (.ireturn, 1) := by decide +kernel
theorem dX11_reads_0 : decode cX11_reads 0 = .ok (.aload_n 0, 1) := by decide +kernel
theorem dX11_reads_1 : decode cX11_reads 1 = .ok (.aload_n 0, 1) := by decide +kernel
theorem dX11_reads_2 : decode cX11_reads 2 = .ok (.getfield 162, 3) := by decide +kernel
theorem dX11_reads_5 : decode cX11_reads 5 = .ok (.invokevirtual 165, 3) := by decide +kernel
theorem dX11_reads_8 : decode cX11_reads 8 = .ok (.bipush 32, 2) := by decide +kernel
theorem dX11_reads_10 : decode cX11_reads 10 = .ok (.if_icmp .eq 16, 3) := by decide +kernel
theorem dX11_reads_13 : decode cX11_reads 13 = .ok (.aload_n 0, 1) := by decide +kernel
theorem dX11_reads_14 : decode cX11_reads 14 = .ok (.aload_n 0, 1) := by decide +kernel
theorem dX11_reads_15 : decode cX11_reads 15 = .ok (.getfield 162, 3) := by decide +kernel
theorem dX11_reads_18 : decode cX11_reads 18 = .ok (.invokevirtual 165, 3) := by decide +kernel
theorem dX11_reads_21 : decode cX11_reads 21 = .ok (.bipush 10, 2) := by decide +kernel
theorem dX11_reads_23 : decode cX11_reads 23 = .ok (.if_icmp .ne 16, 3) := by decide +kernel
theorem dX11_reads_26 : decode cX11_reads 26 = .ok (.aload_n 0, 1) := by decide +kernel
theorem dX11_reads_27 : decode cX11_reads 27 = .ok (.aload_n 0, 1) := by decide +kernel
theorem dX11_reads_28 : decode cX11_reads 28 = .ok (.getfield 162, 3) := by decide +kernel
theorem dX11_reads_31 : decode cX11_reads 31 = .ok (.iconst 1, 1) := by decide +kernel
theorem dX11_reads_32 : decode cX11_reads 32 = .ok (.iadd, 1) := by decide +kernel
theorem dX11_reads_33 : decode cX11_reads 33 = .ok (.putfield 162, 3) := by decide +kernel
theorem dX11_reads_36 : decode cX11_reads 36 = .ok (.goto (-36), 3) := by decide +kernel
theorem dX11_reads_39 : decode cX11_reads 39 = .ok (.aload_n 0, 1) := by decide +kernel
theorem dX11_reads_40 : decode cX11_reads 40 = .ok (.aload_n 0, 1) := by decide +kernel
theorem dX11_reads_41 : decode cX11_reads 41 = .ok (.getfield 162, 3) := by decide +kernel
theorem dX11_reads_44 : decode cX11_reads 44 = .ok (.putfield 169, 3) := by decide +kernel
theorem dX11_reads_47 : decode cX11_reads 47 = .ok (.aload_n 0, 1) := by decide +kernel
theorem dX11_reads_48 : decode cX11_reads 48 = .ok (.iconst 1, 1) := by decide +kernel
theorem dX11_reads_49 : decode cX11_reads 49 = .ok (.putfield 172, 3) := by decide +kernel
theorem dX11_reads_52 : decode cX11_reads 52 = .ok (.aload_n 0, 1) := by decide +kernel
theorem dX11_reads_53 : decode cX11_reads 53 = .ok (.aload_n 0, 1) := by decide +kernel
theorem dX11_reads_54 : decode cX11_reads 54 = .ok (.getfield 162, 3) := by decide +kernel
theorem dX11_reads_57 : decode cX11_reads 57 = .ok (.invokevirtual 165, 3) := by decide +kernel
theorem dX11_reads_60 : decode cX11_reads 60 = .ok (.istore_n 1, 1) := by decide +kernel
theorem dX11_reads_61 : decode cX11_reads 61 = .ok (.iload_n 1, 1) := by decide +kernel
theorem dX11_reads_62 : decode cX11_reads 62 = .ok (.iconst (-1), 1) := by decide +kernel
theorem dX11_reads_63 : decode cX11_reads 63 = .ok (.if_icmp .ne 9, 3) := by decide +kernel
theorem dX11_reads_66 : decode cX11_reads 66 = .ok (.aload_n 0, 1) := by decide +kernel
theorem dX11_reads_67 : decode cX11_reads 67 = .ok (.iconst 0, 1) := by decide +kernel
theorem dX11_reads_68 : decode cX11_reads 68 = .ok (.putfield 172, 3) := by decide +kernel
theorem dX11_reads_71 : decode cX11_reads 71 = .ok (.return_, 1) := by decide +kernel
theorem dX11_reads_72 : decode cX11_reads 72 = .ok (.aload_n 0, 1) := by decide +kernel
theorem dX11_reads_73 : decode cX11_reads 73 = .ok (.aload_n 0, 1) := by decide +kernel
theorem dX11_reads_74 : decode cX11_reads 74 = .ok (.getfield 162, 3) := by decide +kernel
theorem dX11_reads_77 : decode cX11_reads 77 = .ok (.iconst 1, 1) := by decide +kernel
theorem dX11_reads_78 : decode cX11_reads 78 = .ok (.iadd, 1) := by decide +kernel
theorem dX11_reads_79 : decode cX11_reads 79 = .ok (.putfield 162, 3) := by decide +kernel
theorem dX11_reads_82 : decode cX11_reads 82 = .ok (.aload_n 0, 1) := by decide +kernel
theorem dX11_reads_83 : decode cX11_reads 83 = .ok (.iload_n 1, 1) := by decide +kernel
theorem dX11_reads_84 : decode cX11_reads 84 = .ok (.putfield 175, 3) := by decide +kernel
theorem dX11_reads_87 : decode cX11_reads 87 = .ok (.aload_n 0, 1) := by decide +kernel
theorem dX11_reads_88 : decode cX11_reads 88 = .ok (.iload_n 1, 1) := by decide +kernel
theorem dX11_reads_89 : decode cX11_reads 89 = .ok (.invokevirtual 178, 3) := by decide +kernel
theorem dX11_reads_92 : decode cX11_reads 92 = .ok (.ifCond .eq 63, 3) := by decide +kernel
theorem dX11_reads_95 : decode cX11_reads 95 = .ok (.aload_n 0, 1) := by decide +kernel
theorem dX11_reads_96 : decode cX11_reads 96 = .ok (.aload_n 0, 1) := by decide +kernel
theorem dX11_reads_97 : decode cX11_reads 97 = .ok (.aload_n 0, 1) := by decide +kernel
theorem dX11_reads_98 : decode cX11_reads 98 = .ok (.getfield 162, 3) := by decide +kernel
theorem dX11_reads_101 : decode cX11_reads 101 = .ok (.invokevirtual 165, 3) := by decide +kernel
theorem dX11_reads_104 : decode cX11_reads 104 = .ok (.invokevirtual 178, 3) := by decide +kernel
theorem dX11_reads_107 : decode cX11_reads 107 = .ok (.ifCond .eq 16, 3) := by decide +kernel
theorem dX11_reads_110 : decode cX11_reads 110 = .ok (.aload_n 0, 1) := by decide +kernel
theorem dX11_reads_111 : decode cX11_reads 111 = .ok (.aload_n 0, 1) := by decide +kernel
theorem dX11_reads_112 : decode cX11_reads 112 = .ok (.getfield 162, 3) := by decide +kernel
theorem dX11_reads_115 : decode cX11_reads 115 = .ok (.iconst 1, 1) := by decide +kernel
theorem dX11_reads_116 : decode cX11_reads 116 = .ok (.iadd, 1) := by decide +kernel
theorem dX11_reads_117 : decode cX11_reads 117 = .ok (.putfield 162, 3) := by decide +kernel
theorem dX11_reads_120 : decode cX11_reads 120 = .ok (.goto (-25), 3) := by decide +kernel
theorem dX11_reads_123 : decode cX11_reads 123 = .ok (.aload_n 0, 1) := by decide +kernel
theorem dX11_reads_124 : decode cX11_reads 124 = .ok (.aload_n 0, 1) := by decide +kernel
theorem dX11_reads_125 : decode cX11_reads 125 = .ok (.aload_n 0, 1) := by decide +kernel
theorem dX11_reads_126 : decode cX11_reads 126 = .ok (.getfield 169, 3) := by decide +kernel
theorem dX11_reads_129 : decode cX11_reads 129 = .ok (.aload_n 0, 1) := by decide +kernel
theorem dX11_reads_130 : decode cX11_reads 130 = .ok (.getfield 162, 3) := by decide +kernel
theorem dX11_reads_133 : decode cX11_reads 133 = .ok (.invokevirtual 181, 3) := by decide +kernel
theorem dX11_reads_136 : decode cX11_reads 136 = .ok (.putfield 175, 3) := by decide +kernel
theorem dX11_reads_139 : decode cX11_reads 139 = .ok (.aload_n 0, 1) := by decide +kernel
theorem dX11_reads_140 : decode cX11_reads 140 = .ok (.getfield 175, 3) := by decide +kernel
theorem dX11_reads_143 : decode cX11_reads 143 = .ok (.iconst (-1), 1) := by decide +kernel
theorem dX11_reads_144 : decode cX11_reads 144 = .ok (.if_icmp .eq 129, 3) := by decide +kernel
theorem dX11_reads_147 : decode cX11_reads 147 = .ok (.aload_n 0, 1) := by decide +kernel
theorem dX11_reads_148 : decode cX11_reads 148 = .ok (.iconst 2, 1) := by decide +kernel
theorem dX11_reads_149 : decode cX11_reads 149 = .ok (.putfield 172, 3) := by decide +kernel
theorem dX11_reads_152 : decode cX11_reads 152 = .ok (.goto 121, 3) := by decide +kernel
theorem dX11_reads_155 : decode cX11_reads 155 = .ok (.aload_n 0, 1) := by decide +kernel
theorem dX11_reads_156 : decode cX11_reads 156 = .ok (.iload_n 1, 1) := by decide +kernel
theorem dX11_reads_157 : decode cX11_reads 157 = .ok (.invokevirtual 185, 3) := by decide +kernel
theorem dX11_reads_160 : decode cX11_reads 160 = .ok (.ifCond .eq 100, 3) := by decide +kernel
theorem dX11_reads_163 : decode cX11_reads 163 = .ok (.aload_n 0, 1) := by decide +kernel
theorem dX11_reads_164 : decode cX11_reads 164 = .ok (.iload_n 1, 1) := by decide +kernel
theorem dX11_reads_165 : decode cX11_reads 165 = .ok (.bipush 48, 2) := by decide +kernel
theorem dX11_reads_167 : decode cX11_reads 167 = .ok (.isub, 1) := by decide +kernel
theorem dX11_reads_168 : decode cX11_reads 168 = .ok (.putfield 175, 3) := by decide +kernel
theorem dX11_reads_171 : decode cX11_reads 171 = .ok (.aload_n 0, 1) := by decide +kernel
theorem dX11_reads_172 : decode cX11_reads 172 = .ok (.aload_n 0, 1) := by decide +kernel
theorem dX11_reads_173 : decode cX11_reads 173 = .ok (.aload_n 0, 1) := by decide +kernel
theorem dX11_reads_174 : decode cX11_reads 174 = .ok (.getfield 162, 3) := by decide +kernel
theorem dX11_reads_177 : decode cX11_reads 177 = .ok (.invokevirtual 165, 3) := by decide +kernel
theorem dX11_reads_180 : decode cX11_reads 180 = .ok (.invokevirtual 185, 3) := by decide +kernel
theorem dX11_reads_183 : decode cX11_reads 183 = .ok (.ifCond .eq 56, 3) := by decide +kernel
theorem dX11_reads_186 : decode cX11_reads 186 = .ok (.aload_n 0, 1) := by decide +kernel
theorem dX11_reads_187 : decode cX11_reads 187 = .ok (.aload_n 0, 1) := by decide +kernel
theorem dX11_reads_188 : decode cX11_reads 188 = .ok (.getfield 175, 3) := by decide +kernel
theorem dX11_reads_191 : decode cX11_reads 191 = .ok (.sipush 10000, 3) := by decide +kernel
theorem dX11_reads_194 : decode cX11_reads 194 = .ok (.if_icmp .ge 25, 3) := by decide +kernel
theorem dX11_reads_197 : decode cX11_reads 197 = .ok (.bipush 10, 2) := by decide +kernel
theorem dX11_reads_199 : decode cX11_reads 199 = .ok (.aload_n 0, 1) := by decide +kernel
theorem dX11_reads_200 : decode cX11_reads 200 = .ok (.getfield 175, 3) := by decide +kernel
theorem dX11_reads_203 : decode cX11_reads 203 = .ok (.imul, 1) := by decide +kernel
theorem dX11_reads_204 : decode cX11_reads 204 = .ok (.aload_n 0, 1) := by decide +kernel
theorem dX11_reads_205 : decode cX11_reads 205 = .ok (.aload_n 0, 1) := by decide +kernel
theorem dX11_reads_206 : decode cX11_reads 206 = .ok (.getfield 162, 3) := by decide +kernel
theorem dX11_reads_209 : decode cX11_reads 209 = .ok (.invokevirtual 165, 3) := by decide +kernel
theorem dX11_reads_212 : decode cX11_reads 212 = .ok (.iadd, 1) := by decide +kernel
theorem dX11_reads_213 : decode cX11_reads 213 = .ok (.bipush 48, 2) := by decide +kernel
theorem dX11_reads_215 : decode cX11_reads 215 = .ok (.isub, 1) := by decide +kernel
theorem dX11_reads_216 : decode cX11_reads 216 = .ok (.goto 7, 3) := by decide +kernel
theorem dX11_reads_219 : decode cX11_reads 219 = .ok (.aload_n 0, 1) := by decide +kernel
theorem dX11_reads_220 : decode cX11_reads 220 = .ok (.getfield 175, 3) := by decide +kernel
theorem dX11_reads_223 : decode cX11_reads 223 = .ok (.putfield 175, 3) := by decide +kernel
theorem dX11_reads_226 : decode cX11_reads 226 = .ok (.aload_n 0, 1) := by decide +kernel
theorem dX11_reads_227 : decode cX11_reads 227 = .ok (.aload_n 0, 1) := by decide +kernel
theorem dX11_reads_228 : decode cX11_reads 228 = .ok (.getfield 162, 3) := by decide +kernel
theorem dX11_reads_231 : decode cX11_reads 231 = .ok (.iconst 1, 1) := by decide +kernel
theorem dX11_reads_232 : decode cX11_reads 232 = .ok (.iadd, 1) := by decide +kernel
theorem dX11_reads_233 : decode cX11_reads 233 = .ok (.putfield 162, 3) := by decide +kernel
theorem dX11_reads_236 : decode cX11_reads 236 = .ok (.goto (-65), 3) := by decide +kernel
theorem dX11_reads_239 : decode cX11_reads 239 = .ok (.aload_n 0, 1) := by decide +kernel
theorem dX11_reads_240 : decode cX11_reads 240 = .ok (.getfield 162, 3) := by decide +kernel
theorem dX11_reads_243 : decode cX11_reads 243 = .ok (.aload_n 0, 1) := by decide +kernel
theorem dX11_reads_244 : decode cX11_reads 244 = .ok (.getfield 169, 3) := by decide +kernel
theorem dX11_reads_247 : decode cX11_reads 247 = .ok (.isub, 1) := by decide +kernel
theorem dX11_reads_248 : decode cX11_reads 248 = .ok (.iconst 5, 1) := by decide +kernel
theorem dX11_reads_249 : decode cX11_reads 249 = .ok (.if_icmp .ge 24, 3) := by decide +kernel
theorem dX11_reads_252 : decode cX11_reads 252 = .ok (.aload_n 0, 1) := by decide +kernel
theorem dX11_reads_253 : decode cX11_reads 253 = .ok (.iconst 3, 1) := by decide +kernel
theorem dX11_reads_254 : decode cX11_reads 254 = .ok (.putfield 172, 3) := by decide +kernel
theorem dX11_reads_257 : decode cX11_reads 257 = .ok (.goto 16, 3) := by decide +kernel
theorem dX11_reads_260 : decode cX11_reads 260 = .ok (.aload_n 0, 1) := by decide +kernel
theorem dX11_reads_261 : decode cX11_reads 261 = .ok (.iload_n 1, 1) := by decide +kernel
theorem dX11_reads_262 : decode cX11_reads 262 = .ok (.invokevirtual 188, 3) := by decide +kernel
theorem dX11_reads_265 : decode cX11_reads 265 = .ok (.ifCond .eq 8, 3) := by decide +kernel
theorem dX11_reads_268 : decode cX11_reads 268 = .ok (.aload_n 0, 1) := by decide +kernel
theorem dX11_reads_269 : decode cX11_reads 269 = .ok (.iconst 4, 1) := by decide +kernel
theorem dX11_reads_270 : decode cX11_reads 270 = .ok (.putfield 172, 3) := by decide +kernel
theorem dX11_reads_273 : decode cX11_reads 273 = .ok (.return_, 1) := by decide +kernel
theorem dX11_errs_0 : decode cX11_errs 0 = .ok (.aload_n 0, 1) := by decide +kernel
theorem dX11_errs_1 : decode cX11_errs 1 = .ok (.iload_n 1, 1) := by decide +kernel
theorem dX11_errs_2 : decode cX11_errs 2 = .ok (.putfield 191, 3) := by decide +kernel
theorem dX11_errs_5 : decode cX11_errs 5 = .ok (.aload_n 0, 1) := by decide +kernel
theorem dX11_errs_6 : decode cX11_errs 6 = .ok (.aload_n 0, 1) := by decide +kernel
theorem dX11_errs_7 : decode cX11_errs 7 = .ok (.getfield 169, 3) := by decide +kernel
theorem dX11_errs_10 : decode cX11_errs 10 = .ok (.putfield 194, 3) := by decide +kernel
theorem dX11_errs_13 : decode cX11_errs 13 = .ok (.iconst (-1), 1) := by decide +kernel
theorem dX11_errs_14 : decode cX11_errs 14 = .ok (.ireturn, 1) := by decide +kernel
theorem dX11_isWord_0 : decode cX11_isWord 0 = .ok (.aload_n 0, 1) := by decide +kernel
theorem dX11_isWord_1 : decode cX11_isWord 1 = .ok (.getfield 172, 3) := by decide +kernel
theorem dX11_isWord_4 : decode cX11_isWord 4 = .ok (.iconst 2, 1) := by decide +kernel
theorem dX11_isWord_5 : decode cX11_isWord 5 = .ok (.if_icmp .ne 15, 3) := by decide +kernel
theorem dX11_isWord_8 : decode cX11_isWord 8 = .ok (.aload_n 0, 1) := by decide +kernel
theorem dX11_isWord_9 : decode cX11_isWord 9 = .ok (.getfield 175, 3) := by decide +kernel
theorem dX11_isWord_12 : decode cX11_isWord 12 = .ok (.iload_n 1, 1) := by decide +kernel
theorem dX11_isWord_13 : decode cX11_isWord 13 = .ok (.if_icmp .ne 7, 3) := by decide +kernel
theorem dX11_isWord_16 : decode cX11_isWord 16 = .ok (.iconst 1, 1) := by decide +kernel
theorem dX11_isWord_17 : decode cX11_isWord 17 = .ok (.goto 4, 3) := by decide +kernel
theorem dX11_isWord_20 : decode cX11_isWord 20 = .ok (.iconst 0, 1) := by decide +kernel
theorem dX11_isWord_21 : decode cX11_isWord 21 = .ok (.ireturn, 1) := by decide +kernel
theorem dX11_isSign_0 : decode cX11_isSign 0 = .ok (.aload_n 0, 1) := by decide +kernel
theorem dX11_isSign_1 : decode cX11_isSign 1 = .ok (.getfield 172, 3) := by decide +kernel
theorem dX11_isSign_4 : decode cX11_isSign 4 = .ok (.iconst 4, 1) := by decide +kernel
theorem dX11_isSign_5 : decode cX11_isSign 5 = .ok (.if_icmp .ne 15, 3) := by decide +kernel
theorem dX11_isSign_8 : decode cX11_isSign 8 = .ok (.aload_n 0, 1) := by decide +kernel
theorem dX11_isSign_9 : decode cX11_isSign 9 = .ok (.getfield 175, 3) := by decide +kernel
theorem dX11_isSign_12 : decode cX11_isSign 12 = .ok (.iload_n 1, 1) := by decide +kernel
theorem dX11_isSign_13 : decode cX11_isSign 13 = .ok (.if_icmp .ne 7, 3) := by decide +kernel
theorem dX11_isSign_16 : decode cX11_isSign 16 = .ok (.iconst 1, 1) := by decide +kernel
theorem dX11_isSign_17 : decode cX11_isSign 17 = .ok (.goto 4, 3) := by decide +kernel
theorem dX11_isSign_20 : decode cX11_isSign 20 = .ok (.iconst 0, 1) := by decide +kernel
theorem dX11_isSign_21 : decode cX11_isSign 21 = .ok (.ireturn, 1) := by decide +kernel
theorem dX11_emits_0 : decode cX11_emits 0 = .ok (.aload_n 0, 1) := by decide +kernel
theorem dX11_emits_1 : decode cX11_emits 1 = .ok (.getfield 43, 3) := by decide +kernel
theorem dX11_emits_4 : decode cX11_emits 4 = .ok (.sipush 800, 3) := by decide +kernel
theorem dX11_emits_7 : decode cX11_emits 7 = .ok (.aload_n 0, 1) := by decide +kernel
theorem dX11_emits_8 : decode cX11_emits 8 = .ok (.getfield 197, 3) := by decide +kernel
theorem dX11_emits_11 : decode cX11_emits 11 = .ok (.iadd, 1) := by decide +kernel
theorem dX11_emits_12 : decode cX11_emits 12 = .ok (.iload_n 1, 1) := by decide +kernel
theorem dX11_emits_13 : decode cX11_emits 13 = .ok (.iastore, 1) := by decide +kernel
theorem dX11_emits_14 : decode cX11_emits 14 = .ok (.aload_n 0, 1) := by decide +kernel
theorem dX11_emits_15 : decode cX11_emits 15 = .ok (.getfield 46, 3) := by decide +kernel
theorem dX11_emits_18 : decode cX11_emits 18 = .ok (.sipush 800, 3) := by decide +kernel
theorem dX11_emits_21 : decode cX11_emits 21 = .ok (.aload_n 0, 1) := by decide +kernel
theorem dX11_emits_22 : decode cX11_emits 22 = .ok (.getfield 197, 3) := by decide +kernel
theorem dX11_emits_25 : decode cX11_emits 25 = .ok (.iadd, 1) := by decide +kernel
theorem dX11_emits_26 : decode cX11_emits 26 = .ok (.iload_n 2, 1) := by decide +kernel
theorem dX11_emits_27 : decode cX11_emits 27 = .ok (.iastore, 1) := by decide +kernel
theorem dX11_emits_28 : decode cX11_emits 28 = .ok (.aload_n 0, 1) := by decide +kernel
theorem dX11_emits_29 : decode cX11_emits 29 = .ok (.aload_n 0, 1) := by decide +kernel
theorem dX11_emits_30 : decode cX11_emits 30 = .ok (.getfield 197, 3) := by decide +kernel
theorem dX11_emits_33 : decode cX11_emits 33 = .ok (.iconst 1, 1) := by decide +kernel
theorem dX11_emits_34 : decode cX11_emits 34 = .ok (.iadd, 1) := by decide +kernel
theorem dX11_emits_35 : decode cX11_emits 35 = .ok (.putfield 197, 3) := by decide +kernel
theorem dX11_emits_38 : decode cX11_emits 38 = .ok (.return_, 1) := by decide +kernel
theorem dX11_canAsk_0 : decode cX11_canAsk 0 = .ok (.aload_n 0, 1) := by decide +kernel
theorem dX11_canAsk_1 : decode cX11_canAsk 1 = .ok (.iload_n 1, 1) := by decide +kernel
theorem dX11_canAsk_2 : decode cX11_canAsk 2 = .ok (.bipush 7, 2) := by decide +kernel
theorem dX11_canAsk_4 : decode cX11_canAsk 4 = .ok (.bipush 16, 2) := by decide +kernel
theorem dX11_canAsk_6 : decode cX11_canAsk 6 = .ok (.invokevirtual 147, 3) := by decide +kernel
theorem dX11_canAsk_9 : decode cX11_canAsk 9 = .ok (.ireturn, 1) := by decide +kernel
theorem dX11_readUnit_0 : decode cX11_readUnit 0 = .ok (.aload_n 0, 1) := by decide +kernel
theorem dX11_readUnit_1 : decode cX11_readUnit 1 = .ok (.getfield 172, 3) := by decide +kernel
theorem dX11_readUnit_4 : decode cX11_readUnit 4 = .ok (.iconst 2, 1) := by decide +kernel
theorem dX11_readUnit_5 : decode cX11_readUnit 5 = .ok (.if_icmp .ne 18, 3) := by decide +kernel
theorem dX11_readUnit_8 : decode cX11_readUnit 8 = .ok (.aload_n 0, 1) := by decide +kernel
theorem dX11_readUnit_9 : decode cX11_readUnit 9 = .ok (.aload_n 0, 1) := by decide +kernel
theorem dX11_readUnit_10 : decode cX11_readUnit 10 = .ok (.getfield 175, 3) := by decide +kernel
theorem dX11_readUnit_13 : decode cX11_readUnit 13 = .ok (.invokevirtual 200, 3) := by decide +kernel
theorem dX11_readUnit_16 : decode cX11_readUnit 16 = .ok (.ifCond .eq 7, 3) := by decide +kernel
theorem dX11_readUnit_19 : decode cX11_readUnit 19 = .ok (.iconst 1, 1) := by decide +kernel
theorem dX11_readUnit_20 : decode cX11_readUnit 20 = .ok (.goto 4, 3) := by decide +kernel
theorem dX11_readUnit_23 : decode cX11_readUnit 23 = .ok (.iconst 0, 1) := by decide +kernel
theorem dX11_readUnit_24 : decode cX11_readUnit 24 = .ok (.istore_n 1, 1) := by decide +kernel
theorem dX11_readUnit_25 : decode cX11_readUnit 25 = .ok (.iload_n 1, 1) := by decide +kernel
theorem dX11_readUnit_26 : decode cX11_readUnit 26 = .ok (.ifCond .ne 17, 3) := by decide +kernel
theorem dX11_readUnit_29 : decode cX11_readUnit 29 = .ok (.aload_n 0, 1) := by decide +kernel
theorem dX11_readUnit_30 : decode cX11_readUnit 30 = .ok (.getfield 172, 3) := by decide +kernel
theorem dX11_readUnit_33 : decode cX11_readUnit 33 = .ok (.iconst 3, 1) := by decide +kernel
theorem dX11_readUnit_34 : decode cX11_readUnit 34 = .ok (.if_icmp .eq 9, 3) := by decide +kernel
theorem dX11_readUnit_37 : decode cX11_readUnit 37 = .ok (.aload_n 0, 1) := by decide +kernel
theorem dX11_readUnit_38 : decode cX11_readUnit 38 = .ok (.iconst 1, 1) := by decide +kernel
theorem dX11_readUnit_39 : decode cX11_readUnit 39 = .ok (.invokevirtual 203, 3) := by decide +kernel
theorem dX11_readUnit_42 : decode cX11_readUnit 42 = .ok (.ireturn, 1) := by decide +kernel
theorem dX11_readUnit_43 : decode cX11_readUnit 43 = .ok (.aload_n 0, 1) := by decide +kernel
theorem dX11_readUnit_44 : decode cX11_readUnit 44 = .ok (.iload_n 1, 1) := by decide +kernel
theorem dX11_readUnit_45 : decode cX11_readUnit 45 = .ok (.ifCond .eq 7, 3) := by decide +kernel
theorem dX11_readUnit_48 : decode cX11_readUnit 48 = .ok (.iconst 1, 1) := by decide +kernel
theorem dX11_readUnit_49 : decode cX11_readUnit 49 = .ok (.goto 4, 3) := by decide +kernel
theorem dX11_readUnit_52 : decode cX11_readUnit 52 = .ok (.iconst 0, 1) := by decide +kernel
theorem dX11_readUnit_53 : decode cX11_readUnit 53 = .ok (.iload_n 1, 1) := by decide +kernel
theorem dX11_readUnit_54 : decode cX11_readUnit 54 = .ok (.ifCond .eq 13, 3) := by decide +kernel
theorem dX11_readUnit_57 : decode cX11_readUnit 57 = .ok (.aload_n 0, 1) := by decide +kernel
theorem dX11_readUnit_58 : decode cX11_readUnit 58 = .ok (.getfield 175, 3) := by decide +kernel
theorem dX11_readUnit_61 : decode cX11_readUnit 61 = .ok (.bipush 7, 2) := by decide +kernel
theorem dX11_readUnit_63 : decode cX11_readUnit 63 = .ok (.isub, 1) := by decide +kernel
theorem dX11_readUnit_64 : decode cX11_readUnit 64 = .ok (.goto 7, 3) := by decide +kernel
theorem dX11_readUnit_67 : decode cX11_readUnit 67 = .ok (.aload_n 0, 1) := by decide +kernel
theorem dX11_readUnit_68 : decode cX11_readUnit 68 = .ok (.getfield 175, 3) := by decide +kernel
theorem dX11_readUnit_71 : decode cX11_readUnit 71 = .ok (.invokevirtual 206, 3) := by decide +kernel
theorem dX11_readUnit_74 : decode cX11_readUnit 74 = .ok (.aload_n 0, 1) := by decide +kernel
theorem dX11_readUnit_75 : decode cX11_readUnit 75 = .ok (.invokevirtual 210, 3) := by decide +kernel
theorem dX11_readUnit_78 : decode cX11_readUnit 78 = .ok (.iconst 0, 1) := by decide +kernel
theorem dX11_readUnit_79 : decode cX11_readUnit 79 = .ok (.ireturn, 1) := by decide +kernel
theorem dX11_readProduct_0 : decode cX11_readProduct 0 = .ok (.aload_n 0, 1) := by decide +kernel
theorem dX11_readProduct_1 : decode cX11_readProduct 1 = .ok (.invokevirtual 213, 3) := by decide +kernel
theorem dX11_readProduct_4 : decode cX11_readProduct 4 = .ok (.iconst (-1), 1) := by decide +kernel
theorem dX11_readProduct_5 : decode cX11_readProduct 5 = .ok (.if_icmp .ne 5, 3) := by decide +kernel
theorem dX11_readProduct_8 : decode cX11_readProduct 8 = .ok (.iconst (-1), 1) := by decide +kernel
theorem dX11_readProduct_9 : decode cX11_readProduct 9 = .ok (.ireturn, 1) := by decide +kernel
theorem dX11_readProduct_10 : decode cX11_readProduct 10 = .ok (.aload_n 0, 1) := by decide +kernel
theorem dX11_readProduct_11 : decode cX11_readProduct 11 = .ok (.bipush 42, 2) := by decide +kernel
theorem dX11_readProduct_13 : decode cX11_readProduct 13 = .ok (.invokevirtual 217, 3) := by decide +kernel
theorem dX11_readProduct_16 : decode cX11_readProduct 16 = .ok (.ifCond .ne 12, 3) := by decide +kernel
theorem dX11_readProduct_19 : decode cX11_readProduct 19 = .ok (.aload_n 0, 1) := by decide +kernel
theorem dX11_readProduct_20 : decode cX11_readProduct 20 = .ok (.bipush 47, 2) := by decide +kernel
theorem dX11_readProduct_22 : decode cX11_readProduct 22 = .ok (.invokevirtual 217, 3) := by decide +kernel
theorem dX11_readProduct_25 : decode cX11_readProduct 25 = .ok (.ifCond .eq 76, 3) := by decide +kernel
theorem dX11_readProduct_28 : decode cX11_readProduct 28 = .ok (.aload_n 0, 1) := by decide +kernel
theorem dX11_readProduct_29 : decode cX11_readProduct 29 = .ok (.bipush 42, 2) := by decide +kernel
theorem dX11_readProduct_31 : decode cX11_readProduct 31 = .ok (.invokevirtual 217, 3) := by decide +kernel
theorem dX11_readProduct_34 : decode cX11_readProduct 34 = .ok (.istore_n 1, 1) := by decide +kernel
theorem dX11_readProduct_35 : decode cX11_readProduct 35 = .ok (.aload_n 0, 1) := by decide +kernel
theorem dX11_readProduct_36 : decode cX11_readProduct 36 = .ok (.invokevirtual 210, 3) := by decide +kernel
theorem dX11_readProduct_39 : decode cX11_readProduct 39 = .ok (.iload_n 1, 1) := by decide +kernel
theorem dX11_readProduct_40 : decode cX11_readProduct 40 = .ok (.ifCond .ne 17, 3) := by decide +kernel
theorem dX11_readProduct_43 : decode cX11_readProduct 43 = .ok (.aload_n 0, 1) := by decide +kernel
theorem dX11_readProduct_44 : decode cX11_readProduct 44 = .ok (.getfield 172, 3) := by decide +kernel
theorem dX11_readProduct_47 : decode cX11_readProduct 47 = .ok (.iconst 3, 1) := by decide +kernel
theorem dX11_readProduct_48 : decode cX11_readProduct 48 = .ok (.if_icmp .eq 9, 3) := by decide +kernel
theorem dX11_readProduct_51 : decode cX11_readProduct 51 = .ok (.aload_n 0, 1) := by decide +kernel
theorem dX11_readProduct_52 : decode cX11_readProduct 52 = .ok (.iconst 1, 1) := by decide +kernel
theorem dX11_readProduct_53 : decode cX11_readProduct 53 = .ok (.invokevirtual 203, 3) := by decide +kernel
theorem dX11_readProduct_56 : decode cX11_readProduct 56 = .ok (.ireturn, 1) := by decide +kernel
theorem dX11_readProduct_57 : decode cX11_readProduct 57 = .ok (.iload_n 1, 1) := by decide +kernel
theorem dX11_readProduct_58 : decode cX11_readProduct 58 = .ok (.ifCond .ne 16, 3) := by decide +kernel
theorem dX11_readProduct_61 : decode cX11_readProduct 61 = .ok (.aload_n 0, 1) := by decide +kernel
theorem dX11_readProduct_62 : decode cX11_readProduct 62 = .ok (.getfield 175, 3) := by decide +kernel
theorem dX11_readProduct_65 : decode cX11_readProduct 65 = .ok (.ifCond .ne 9, 3) := by decide +kernel
theorem dX11_readProduct_68 : decode cX11_readProduct 68 = .ok (.aload_n 0, 1) := by decide +kernel
theorem dX11_readProduct_69 : decode cX11_readProduct 69 = .ok (.iconst 2, 1) := by decide +kernel
theorem dX11_readProduct_70 : decode cX11_readProduct 70 = .ok (.invokevirtual 203, 3) := by decide +kernel
theorem dX11_readProduct_73 : decode cX11_readProduct 73 = .ok (.ireturn, 1) := by decide +kernel
theorem dX11_readProduct_74 : decode cX11_readProduct 74 = .ok (.aload_n 0, 1) := by decide +kernel
theorem dX11_readProduct_75 : decode cX11_readProduct 75 = .ok (.invokevirtual 213, 3) := by decide +kernel
theorem dX11_readProduct_78 : decode cX11_readProduct 78 = .ok (.iconst (-1), 1) := by decide +kernel
theorem dX11_readProduct_79 : decode cX11_readProduct 79 = .ok (.if_icmp .ne 5, 3) := by decide +kernel
theorem dX11_readProduct_82 : decode cX11_readProduct 82 = .ok (.iconst (-1), 1) := by decide +kernel
theorem dX11_readProduct_83 : decode cX11_readProduct 83 = .ok (.ireturn, 1) := by decide +kernel
theorem dX11_readProduct_84 : decode cX11_readProduct 84 = .ok (.aload_n 0, 1) := by decide +kernel
theorem dX11_readProduct_85 : decode cX11_readProduct 85 = .ok (.iload_n 1, 1) := by decide +kernel
theorem dX11_readProduct_86 : decode cX11_readProduct 86 = .ok (.ifCond .eq 7, 3) := by decide +kernel
theorem dX11_readProduct_89 : decode cX11_readProduct 89 = .ok (.iconst 4, 1) := by decide +kernel
theorem dX11_readProduct_90 : decode cX11_readProduct 90 = .ok (.goto 4, 3) := by decide +kernel
theorem dX11_readProduct_93 : decode cX11_readProduct 93 = .ok (.iconst 5, 1) := by decide +kernel
theorem dX11_readProduct_94 : decode cX11_readProduct 94 = .ok (.iconst 0, 1) := by decide +kernel
theorem dX11_readProduct_95 : decode cX11_readProduct 95 = .ok (.invokevirtual 206, 3) := by decide +kernel
theorem dX11_readProduct_98 : decode cX11_readProduct 98 = .ok (.goto (-88), 3) := by decide +kernel
theorem dX11_readProduct_101 : decode cX11_readProduct 101 = .ok (.iconst 0, 1) := by decide +kernel
theorem dX11_readProduct_102 : decode cX11_readProduct 102 = .ok (.ireturn, 1) := by decide +kernel
theorem dX11_readSum_0 : decode cX11_readSum 0 = .ok (.aload_n 0, 1) := by decide +kernel
theorem dX11_readSum_1 : decode cX11_readSum 1 = .ok (.invokevirtual 220, 3) := by decide +kernel
theorem dX11_readSum_4 : decode cX11_readSum 4 = .ok (.iconst (-1), 1) := by decide +kernel
theorem dX11_readSum_5 : decode cX11_readSum 5 = .ok (.if_icmp .ne 5, 3) := by decide +kernel
theorem dX11_readSum_8 : decode cX11_readSum 8 = .ok (.iconst (-1), 1) := by decide +kernel
theorem dX11_readSum_9 : decode cX11_readSum 9 = .ok (.ireturn, 1) := by decide +kernel
theorem dX11_readSum_10 : decode cX11_readSum 10 = .ok (.aload_n 0, 1) := by decide +kernel
theorem dX11_readSum_11 : decode cX11_readSum 11 = .ok (.bipush 43, 2) := by decide +kernel
theorem dX11_readSum_13 : decode cX11_readSum 13 = .ok (.invokevirtual 217, 3) := by decide +kernel
theorem dX11_readSum_16 : decode cX11_readSum 16 = .ok (.ifCond .ne 12, 3) := by decide +kernel
theorem dX11_readSum_19 : decode cX11_readSum 19 = .ok (.aload_n 0, 1) := by decide +kernel
theorem dX11_readSum_20 : decode cX11_readSum 20 = .ok (.bipush 45, 2) := by decide +kernel
theorem dX11_readSum_22 : decode cX11_readSum 22 = .ok (.invokevirtual 217, 3) := by decide +kernel
theorem dX11_readSum_25 : decode cX11_readSum 25 = .ok (.ifCond .eq 41, 3) := by decide +kernel
theorem dX11_readSum_28 : decode cX11_readSum 28 = .ok (.aload_n 0, 1) := by decide +kernel
theorem dX11_readSum_29 : decode cX11_readSum 29 = .ok (.getfield 175, 3) := by decide +kernel
theorem dX11_readSum_32 : decode cX11_readSum 32 = .ok (.bipush 43, 2) := by decide +kernel
theorem dX11_readSum_34 : decode cX11_readSum 34 = .ok (.if_icmp .ne 7, 3) := by decide +kernel
theorem dX11_readSum_37 : decode cX11_readSum 37 = .ok (.iconst 2, 1) := by decide +kernel
theorem dX11_readSum_38 : decode cX11_readSum 38 = .ok (.goto 4, 3) := by decide +kernel
theorem dX11_readSum_41 : decode cX11_readSum 41 = .ok (.iconst 3, 1) := by decide +kernel
theorem dX11_readSum_42 : decode cX11_readSum 42 = .ok (.istore_n 1, 1) := by decide +kernel
theorem dX11_readSum_43 : decode cX11_readSum 43 = .ok (.aload_n 0, 1) := by decide +kernel
theorem dX11_readSum_44 : decode cX11_readSum 44 = .ok (.invokevirtual 210, 3) := by decide +kernel
theorem dX11_readSum_47 : decode cX11_readSum 47 = .ok (.aload_n 0, 1) := by decide +kernel
theorem dX11_readSum_48 : decode cX11_readSum 48 = .ok (.invokevirtual 220, 3) := by decide +kernel
theorem dX11_readSum_51 : decode cX11_readSum 51 = .ok (.iconst (-1), 1) := by decide +kernel
theorem dX11_readSum_52 : decode cX11_readSum 52 = .ok (.if_icmp .ne 5, 3) := by decide +kernel
theorem dX11_readSum_55 : decode cX11_readSum 55 = .ok (.iconst (-1), 1) := by decide +kernel
theorem dX11_readSum_56 : decode cX11_readSum 56 = .ok (.ireturn, 1) := by decide +kernel
theorem dX11_readSum_57 : decode cX11_readSum 57 = .ok (.aload_n 0, 1) := by decide +kernel
theorem dX11_readSum_58 : decode cX11_readSum 58 = .ok (.iload_n 1, 1) := by decide +kernel
theorem dX11_readSum_59 : decode cX11_readSum 59 = .ok (.iconst 0, 1) := by decide +kernel
theorem dX11_readSum_60 : decode cX11_readSum 60 = .ok (.invokevirtual 206, 3) := by decide +kernel
theorem dX11_readSum_63 : decode cX11_readSum 63 = .ok (.goto (-53), 3) := by decide +kernel
theorem dX11_readSum_66 : decode cX11_readSum 66 = .ok (.iconst 0, 1) := by decide +kernel
theorem dX11_readSum_67 : decode cX11_readSum 67 = .ok (.ireturn, 1) := by decide +kernel
theorem dX11_readCompared_0 : decode cX11_readCompared 0 = .ok (.aload_n 0, 1) := by decide +kernel
theorem dX11_readCompared_1 : decode cX11_readCompared 1 = .ok (.invokevirtual 223, 3) := by decide +kernel
theorem dX11_readCompared_4 : decode cX11_readCompared 4 = .ok (.iconst (-1), 1) := by decide +kernel
theorem dX11_readCompared_5 : decode cX11_readCompared 5 = .ok (.if_icmp .ne 5, 3) := by decide +kernel
theorem dX11_readCompared_8 : decode cX11_readCompared 8 = .ok (.iconst (-1), 1) := by decide +kernel
theorem dX11_readCompared_9 : decode cX11_readCompared 9 = .ok (.ireturn, 1) := by decide +kernel
theorem dX11_readCompared_10 : decode cX11_readCompared 10 = .ok (.aload_n 0, 1) := by decide +kernel
theorem dX11_readCompared_11 : decode cX11_readCompared 11 = .ok (.bipush 60, 2) := by decide +kernel
theorem dX11_readCompared_13 : decode cX11_readCompared 13 = .ok (.invokevirtual 217, 3) := by decide +kernel
theorem dX11_readCompared_16 : decode cX11_readCompared 16 = .ok (.ifCond .ne 27, 3) := by decide +kernel
theorem dX11_readCompared_19 : decode cX11_readCompared 19 = .ok (.aload_n 0, 1) := by decide +kernel
theorem dX11_readCompared_20 : decode cX11_readCompared 20 = .ok (.bipush 61, 2) := by decide +kernel
theorem dX11_readCompared_22 : decode cX11_readCompared 22 = .ok (.invokevirtual 217, 3) := by decide +kernel
theorem dX11_readCompared_25 : decode cX11_readCompared 25 = .ok (.ifCond .ne 18, 3) := by decide +kernel
theorem dX11_readCompared_28 : decode cX11_readCompared 28 = .ok (.aload_n 0, 1) := by decide +kernel
theorem dX11_readCompared_29 : decode cX11_readCompared 29 = .ok (.bipush 62, 2) := by decide +kernel
theorem dX11_readCompared_31 : decode cX11_readCompared 31 = .ok (.invokevirtual 217, 3) := by decide +kernel
theorem dX11_readCompared_34 : decode cX11_readCompared 34 = .ok (.ifCond .ne 9, 3) := by decide +kernel
theorem dX11_readCompared_37 : decode cX11_readCompared 37 = .ok (.aload_n 0, 1) := by decide +kernel
theorem dX11_readCompared_38 : decode cX11_readCompared 38 = .ok (.iconst 1, 1) := by decide +kernel
theorem dX11_readCompared_39 : decode cX11_readCompared 39 = .ok (.invokevirtual 203, 3) := by decide +kernel
theorem dX11_readCompared_42 : decode cX11_readCompared 42 = .ok (.ireturn, 1) := by decide +kernel
theorem dX11_readCompared_43 : decode cX11_readCompared 43 = .ok (.aload_n 0, 1) := by decide +kernel
theorem dX11_readCompared_44 : decode cX11_readCompared 44 = .ok (.getfield 175, 3) := by decide +kernel
theorem dX11_readCompared_47 : decode cX11_readCompared 47 = .ok (.bipush 60, 2) := by decide +kernel
theorem dX11_readCompared_49 : decode cX11_readCompared 49 = .ok (.if_icmp .ne 8, 3) := by decide +kernel
theorem dX11_readCompared_52 : decode cX11_readCompared 52 = .ok (.bipush 6, 2) := by decide +kernel
theorem dX11_readCompared_54 : decode cX11_readCompared 54 = .ok (.goto 19, 3) := by decide +kernel
theorem dX11_readCompared_57 : decode cX11_readCompared 57 = .ok (.aload_n 0, 1) := by decide +kernel
theorem dX11_readCompared_58 : decode cX11_readCompared 58 = .ok (.getfield 175, 3) := by decide +kernel
theorem dX11_readCompared_61 : decode cX11_readCompared 61 = .ok (.bipush 61, 2) := by decide +kernel
theorem dX11_readCompared_63 : decode cX11_readCompared 63 = .ok (.if_icmp .ne 8, 3) := by decide +kernel
theorem dX11_readCompared_66 : decode cX11_readCompared 66 = .ok (.bipush 7, 2) := by decide +kernel
theorem dX11_readCompared_68 : decode cX11_readCompared 68 = .ok (.goto 5, 3) := by decide +kernel
theorem dX11_readCompared_71 : decode cX11_readCompared 71 = .ok (.bipush 8, 2) := by decide +kernel
theorem dX11_readCompared_73 : decode cX11_readCompared 73 = .ok (.istore_n 1, 1) := by decide +kernel
theorem dX11_readCompared_74 : decode cX11_readCompared 74 = .ok (.aload_n 0, 1) := by decide +kernel
theorem dX11_readCompared_75 : decode cX11_readCompared 75 = .ok (.invokevirtual 210, 3) := by decide +kernel
theorem dX11_readCompared_78 : decode cX11_readCompared 78 = .ok (.aload_n 0, 1) := by decide +kernel
theorem dX11_readCompared_79 : decode cX11_readCompared 79 = .ok (.invokevirtual 223, 3) := by decide +kernel
theorem dX11_readCompared_82 : decode cX11_readCompared 82 = .ok (.iconst (-1), 1) := by decide +kernel
theorem dX11_readCompared_83 : decode cX11_readCompared 83 = .ok (.if_icmp .ne 5, 3) := by decide +kernel
theorem dX11_readCompared_86 : decode cX11_readCompared 86 = .ok (.iconst (-1), 1) := by decide +kernel
theorem dX11_readCompared_87 : decode cX11_readCompared 87 = .ok (.ireturn, 1) := by decide +kernel
theorem dX11_readCompared_88 : decode cX11_readCompared 88 = .ok (.aload_n 0, 1) := by decide +kernel
theorem dX11_readCompared_89 : decode cX11_readCompared 89 = .ok (.iload_n 1, 1) := by decide +kernel
theorem dX11_readCompared_90 : decode cX11_readCompared 90 = .ok (.iconst 0, 1) := by decide +kernel
theorem dX11_readCompared_91 : decode cX11_readCompared 91 = .ok (.invokevirtual 206, 3) := by decide +kernel
theorem dX11_readCompared_94 : decode cX11_readCompared 94 = .ok (.iconst 0, 1) := by decide +kernel
theorem dX11_readCompared_95 : decode cX11_readCompared 95 = .ok (.ireturn, 1) := by decide +kernel
theorem dX11_waits_0 : decode cX11_waits 0 = .ok (.aload_n 0, 1) := by decide +kernel
theorem dX11_waits_1 : decode cX11_waits 1 = .ok (.getfield 49, 3) := by decide +kernel
theorem dX11_waits_4 : decode cX11_waits 4 = .ok (.aload_n 0, 1) := by decide +kernel
theorem dX11_waits_5 : decode cX11_waits 5 = .ok (.getfield 226, 3) := by decide +kernel
theorem dX11_waits_8 : decode cX11_waits 8 = .ok (.iload_n 1, 1) := by decide +kernel
theorem dX11_waits_9 : decode cX11_waits 9 = .ok (.iastore, 1) := by decide +kernel
theorem dX11_waits_10 : decode cX11_waits 10 = .ok (.aload_n 0, 1) := by decide +kernel
theorem dX11_waits_11 : decode cX11_waits 11 = .ok (.aload_n 0, 1) := by decide +kernel
theorem dX11_waits_12 : decode cX11_waits 12 = .ok (.getfield 226, 3) := by decide +kernel
theorem dX11_waits_15 : decode cX11_waits 15 = .ok (.iconst 1, 1) := by decide +kernel
theorem dX11_waits_16 : decode cX11_waits 16 = .ok (.iadd, 1) := by decide +kernel
theorem dX11_waits_17 : decode cX11_waits 17 = .ok (.putfield 226, 3) := by decide +kernel
theorem dX11_waits_20 : decode cX11_waits 20 = .ok (.return_, 1) := by decide +kernel
theorem dX11_settles_0 : decode cX11_settles 0 = .ok (.aload_n 0, 1) := by decide +kernel
theorem dX11_settles_1 : decode cX11_settles 1 = .ok (.getfield 226, 3) := by decide +kernel
theorem dX11_settles_4 : decode cX11_settles 4 = .ok (.ifCond .le 53, 3) := by decide +kernel
theorem dX11_settles_7 : decode cX11_settles 7 = .ok (.aload_n 0, 1) := by decide +kernel
theorem dX11_settles_8 : decode cX11_settles 8 = .ok (.getfield 49, 3) := by decide +kernel
theorem dX11_settles_11 : decode cX11_settles 11 = .ok (.aload_n 0, 1) := by decide +kernel
theorem dX11_settles_12 : decode cX11_settles 12 = .ok (.getfield 226, 3) := by decide +kernel
theorem dX11_settles_15 : decode cX11_settles 15 = .ok (.iconst 1, 1) := by decide +kernel
theorem dX11_settles_16 : decode cX11_settles 16 = .ok (.isub, 1) := by decide +kernel
theorem dX11_settles_17 : decode cX11_settles 17 = .ok (.iaload, 1) := by decide +kernel
theorem dX11_settles_18 : decode cX11_settles 18 = .ok (.iload_n 1, 1) := by decide +kernel
theorem dX11_settles_19 : decode cX11_settles 19 = .ok (.if_icmp .ne 38, 3) := by decide +kernel
theorem dX11_settles_22 : decode cX11_settles 22 = .ok (.aload_n 0, 1) := by decide +kernel
theorem dX11_settles_23 : decode cX11_settles 23 = .ok (.aload_n 0, 1) := by decide +kernel
theorem dX11_settles_24 : decode cX11_settles 24 = .ok (.getfield 226, 3) := by decide +kernel
theorem dX11_settles_27 : decode cX11_settles 27 = .ok (.iconst 1, 1) := by decide +kernel
theorem dX11_settles_28 : decode cX11_settles 28 = .ok (.isub, 1) := by decide +kernel
theorem dX11_settles_29 : decode cX11_settles 29 = .ok (.putfield 226, 3) := by decide +kernel
theorem dX11_settles_32 : decode cX11_settles 32 = .ok (.aload_n 0, 1) := by decide +kernel
theorem dX11_settles_33 : decode cX11_settles 33 = .ok (.iload_n 1, 1) := by decide +kernel
theorem dX11_settles_34 : decode cX11_settles 34 = .ok (.iconst 0, 1) := by decide +kernel
theorem dX11_settles_35 : decode cX11_settles 35 = .ok (.invokevirtual 206, 3) := by decide +kernel
theorem dX11_settles_38 : decode cX11_settles 38 = .ok (.iload_n 1, 1) := by decide +kernel
theorem dX11_settles_39 : decode cX11_settles 39 = .ok (.bipush 9, 2) := by decide +kernel
theorem dX11_settles_41 : decode cX11_settles 41 = .ok (.if_icmp .ne (-41), 3) := by decide +kernel
theorem dX11_settles_44 : decode cX11_settles 44 = .ok (.aload_n 0, 1) := by decide +kernel
theorem dX11_settles_45 : decode cX11_settles 45 = .ok (.aload_n 0, 1) := by decide +kernel
theorem dX11_settles_46 : decode cX11_settles 46 = .ok (.getfield 229, 3) := by decide +kernel
theorem dX11_settles_49 : decode cX11_settles 49 = .ok (.iconst 1, 1) := by decide +kernel
theorem dX11_settles_50 : decode cX11_settles 50 = .ok (.isub, 1) := by decide +kernel
theorem dX11_settles_51 : decode cX11_settles 51 = .ok (.putfield 229, 3) := by decide +kernel
theorem dX11_settles_54 : decode cX11_settles 54 = .ok (.goto (-54), 3) := by decide +kernel
theorem dX11_settles_57 : decode cX11_settles 57 = .ok (.return_, 1) := by decide +kernel
theorem dX11_readAny_0 : decode cX11_readAny 0 = .ok (.iconst 0, 1) := by decide +kernel
theorem dX11_readAny_1 : decode cX11_readAny 1 = .ok (.istore_n 1, 1) := by decide +kernel
theorem dX11_readAny_2 : decode cX11_readAny 2 = .ok (.aload_n 0, 1) := by decide +kernel
theorem dX11_readAny_3 : decode cX11_readAny 3 = .ok (.iconst 0, 1) := by decide +kernel
theorem dX11_readAny_4 : decode cX11_readAny 4 = .ok (.putfield 226, 3) := by decide +kernel
theorem dX11_readAny_7 : decode cX11_readAny 7 = .ok (.iconst 1, 1) := by decide +kernel
theorem dX11_readAny_8 : decode cX11_readAny 8 = .ok (.istore_n 2, 1) := by decide +kernel
theorem dX11_readAny_9 : decode cX11_readAny 9 = .ok (.iload_n 2, 1) := by decide +kernel
theorem dX11_readAny_10 : decode cX11_readAny 10 = .ok (.ifCond .eq 99, 3) := by decide +kernel
theorem dX11_readAny_13 : decode cX11_readAny 13 = .ok (.aload_n 0, 1) := by decide +kernel
theorem dX11_readAny_14 : decode cX11_readAny 14 = .ok (.bipush 6, 2) := by decide +kernel
theorem dX11_readAny_16 : decode cX11_readAny 16 = .ok (.invokevirtual 232, 3) := by decide +kernel
theorem dX11_readAny_19 : decode cX11_readAny 19 = .ok (.istore_n 3, 1) := by decide +kernel
theorem dX11_readAny_20 : decode cX11_readAny 20 = .ok (.iload_n 3, 1) := by decide +kernel
theorem dX11_readAny_21 : decode cX11_readAny 21 = .ok (.ifCond .ne 12, 3) := by decide +kernel
theorem dX11_readAny_24 : decode cX11_readAny 24 = .ok (.aload_n 0, 1) := by decide +kernel
theorem dX11_readAny_25 : decode cX11_readAny 25 = .ok (.bipush 40, 2) := by decide +kernel
theorem dX11_readAny_27 : decode cX11_readAny 27 = .ok (.invokevirtual 217, 3) := by decide +kernel
theorem dX11_readAny_30 : decode cX11_readAny 30 = .ok (.ifCond .eq 58, 3) := by decide +kernel
theorem dX11_readAny_33 : decode cX11_readAny 33 = .ok (.aload_n 0, 1) := by decide +kernel
theorem dX11_readAny_34 : decode cX11_readAny 34 = .ok (.getfield 229, 3) := by decide +kernel
theorem dX11_readAny_37 : decode cX11_readAny 37 = .ok (.bipush 8, 2) := by decide +kernel
theorem dX11_readAny_39 : decode cX11_readAny 39 = .ok (.if_icmp .ne 9, 3) := by decide +kernel
theorem dX11_readAny_42 : decode cX11_readAny 42 = .ok (.aload_n 0, 1) := by decide +kernel
theorem dX11_readAny_43 : decode cX11_readAny 43 = .ok (.iconst 3, 1) := by decide +kernel
theorem dX11_readAny_44 : decode cX11_readAny 44 = .ok (.invokevirtual 203, 3) := by decide +kernel
theorem dX11_readAny_47 : decode cX11_readAny 47 = .ok (.ireturn, 1) := by decide +kernel
theorem dX11_readAny_48 : decode cX11_readAny 48 = .ok (.aload_n 0, 1) := by decide +kernel
theorem dX11_readAny_49 : decode cX11_readAny 49 = .ok (.aload_n 0, 1) := by decide +kernel
theorem dX11_readAny_50 : decode cX11_readAny 50 = .ok (.getfield 229, 3) := by decide +kernel
theorem dX11_readAny_53 : decode cX11_readAny 53 = .ok (.iconst 1, 1) := by decide +kernel
theorem dX11_readAny_54 : decode cX11_readAny 54 = .ok (.iadd, 1) := by decide +kernel
theorem dX11_readAny_55 : decode cX11_readAny 55 = .ok (.putfield 229, 3) := by decide +kernel
theorem dX11_readAny_58 : decode cX11_readAny 58 = .ok (.iload_n 3, 1) := by decide +kernel
theorem dX11_readAny_59 : decode cX11_readAny 59 = .ok (.ifCond .ne 7, 3) := by decide +kernel
theorem dX11_readAny_62 : decode cX11_readAny 62 = .ok (.iload_n 1, 1) := by decide +kernel
theorem dX11_readAny_63 : decode cX11_readAny 63 = .ok (.iconst 1, 1) := by decide +kernel
theorem dX11_readAny_64 : decode cX11_readAny 64 = .ok (.iadd, 1) := by decide +kernel
theorem dX11_readAny_65 : decode cX11_readAny 65 = .ok (.istore_n 1, 1) := by decide +kernel
theorem dX11_readAny_66 : decode cX11_readAny 66 = .ok (.aload_n 0, 1) := by decide +kernel
theorem dX11_readAny_67 : decode cX11_readAny 67 = .ok (.iload_n 3, 1) := by decide +kernel
theorem dX11_readAny_68 : decode cX11_readAny 68 = .ok (.ifCond .eq 8, 3) := by decide +kernel
theorem dX11_readAny_71 : decode cX11_readAny 71 = .ok (.bipush 9, 2) := by decide +kernel
theorem dX11_readAny_73 : decode cX11_readAny 73 = .ok (.goto 5, 3) := by decide +kernel
theorem dX11_readAny_76 : decode cX11_readAny 76 = .ok (.bipush 12, 2) := by decide +kernel
theorem dX11_readAny_78 : decode cX11_readAny 78 = .ok (.invokevirtual 235, 3) := by decide +kernel
theorem dX11_readAny_81 : decode cX11_readAny 81 = .ok (.aload_n 0, 1) := by decide +kernel
theorem dX11_readAny_82 : decode cX11_readAny 82 = .ok (.invokevirtual 210, 3) := by decide +kernel
theorem dX11_readAny_85 : decode cX11_readAny 85 = .ok (.goto (-76), 3) := by decide +kernel
theorem dX11_readAny_88 : decode cX11_readAny 88 = .ok (.aload_n 0, 1) := by decide +kernel
theorem dX11_readAny_89 : decode cX11_readAny 89 = .ok (.invokevirtual 238, 3) := by decide +kernel
theorem dX11_readAny_92 : decode cX11_readAny 92 = .ok (.iconst (-1), 1) := by decide +kernel
theorem dX11_readAny_93 : decode cX11_readAny 93 = .ok (.if_icmp .ne 5, 3) := by decide +kernel
theorem dX11_readAny_96 : decode cX11_readAny 96 = .ok (.iconst (-1), 1) := by decide +kernel
theorem dX11_readAny_97 : decode cX11_readAny 97 = .ok (.ireturn, 1) := by decide +kernel
theorem dX11_readAny_98 : decode cX11_readAny 98 = .ok (.aload_n 0, 1) := by decide +kernel
theorem dX11_readAny_99 : decode cX11_readAny 99 = .ok (.bipush 9, 2) := by decide +kernel
theorem dX11_readAny_101 : decode cX11_readAny 101 = .ok (.invokevirtual 241, 3) := by decide +kernel
theorem dX11_readAny_104 : decode cX11_readAny 104 = .ok (.iconst 0, 1) := by decide +kernel
theorem dX11_readAny_105 : decode cX11_readAny 105 = .ok (.istore_n 2, 1) := by decide +kernel
theorem dX11_readAny_106 : decode cX11_readAny 106 = .ok (.goto (-97), 3) := by decide +kernel
theorem dX11_readAny_109 : decode cX11_readAny 109 = .ok (.aload_n 0, 1) := by decide +kernel
theorem dX11_readAny_110 : decode cX11_readAny 110 = .ok (.iconst 5, 1) := by decide +kernel
theorem dX11_readAny_111 : decode cX11_readAny 111 = .ok (.invokevirtual 232, 3) := by decide +kernel
theorem dX11_readAny_114 : decode cX11_readAny 114 = .ok (.ifCond .eq 24, 3) := by decide +kernel
theorem dX11_readAny_117 : decode cX11_readAny 117 = .ok (.aload_n 0, 1) := by decide +kernel
theorem dX11_readAny_118 : decode cX11_readAny 118 = .ok (.bipush 10, 2) := by decide +kernel
theorem dX11_readAny_120 : decode cX11_readAny 120 = .ok (.invokevirtual 241, 3) := by decide +kernel
theorem dX11_readAny_123 : decode cX11_readAny 123 = .ok (.aload_n 0, 1) := by decide +kernel
theorem dX11_readAny_124 : decode cX11_readAny 124 = .ok (.bipush 10, 2) := by decide +kernel
theorem dX11_readAny_126 : decode cX11_readAny 126 = .ok (.invokevirtual 235, 3) := by decide +kernel
theorem dX11_readAny_129 : decode cX11_readAny 129 = .ok (.aload_n 0, 1) := by decide +kernel
theorem dX11_readAny_130 : decode cX11_readAny 130 = .ok (.invokevirtual 210, 3) := by decide +kernel
theorem dX11_readAny_133 : decode cX11_readAny 133 = .ok (.iconst 1, 1) := by decide +kernel
theorem dX11_readAny_134 : decode cX11_readAny 134 = .ok (.istore_n 2, 1) := by decide +kernel
theorem dX11_readAny_135 : decode cX11_readAny 135 = .ok (.goto (-126), 3) := by decide +kernel
theorem dX11_readAny_138 : decode cX11_readAny 138 = .ok (.aload_n 0, 1) := by decide +kernel
theorem dX11_readAny_139 : decode cX11_readAny 139 = .ok (.iconst 4, 1) := by decide +kernel
theorem dX11_readAny_140 : decode cX11_readAny 140 = .ok (.invokevirtual 232, 3) := by decide +kernel
theorem dX11_readAny_143 : decode cX11_readAny 143 = .ok (.ifCond .eq 30, 3) := by decide +kernel
theorem dX11_readAny_146 : decode cX11_readAny 146 = .ok (.aload_n 0, 1) := by decide +kernel
theorem dX11_readAny_147 : decode cX11_readAny 147 = .ok (.bipush 10, 2) := by decide +kernel
theorem dX11_readAny_149 : decode cX11_readAny 149 = .ok (.invokevirtual 241, 3) := by decide +kernel
theorem dX11_readAny_152 : decode cX11_readAny 152 = .ok (.aload_n 0, 1) := by decide +kernel
theorem dX11_readAny_153 : decode cX11_readAny 153 = .ok (.bipush 11, 2) := by decide +kernel
theorem dX11_readAny_155 : decode cX11_readAny 155 = .ok (.invokevirtual 241, 3) := by decide +kernel
theorem dX11_readAny_158 : decode cX11_readAny 158 = .ok (.aload_n 0, 1) := by decide +kernel
theorem dX11_readAny_159 : decode cX11_readAny 159 = .ok (.bipush 11, 2) := by decide +kernel
theorem dX11_readAny_161 : decode cX11_readAny 161 = .ok (.invokevirtual 235, 3) := by decide +kernel
theorem dX11_readAny_164 : decode cX11_readAny 164 = .ok (.aload_n 0, 1) := by decide +kernel
theorem dX11_readAny_165 : decode cX11_readAny 165 = .ok (.invokevirtual 210, 3) := by decide +kernel
theorem dX11_readAny_168 : decode cX11_readAny 168 = .ok (.iconst 1, 1) := by decide +kernel
theorem dX11_readAny_169 : decode cX11_readAny 169 = .ok (.istore_n 2, 1) := by decide +kernel
theorem dX11_readAny_170 : decode cX11_readAny 170 = .ok (.goto (-161), 3) := by decide +kernel
theorem dX11_readAny_173 : decode cX11_readAny 173 = .ok (.aload_n 0, 1) := by decide +kernel
theorem dX11_readAny_174 : decode cX11_readAny 174 = .ok (.bipush 10, 2) := by decide +kernel
theorem dX11_readAny_176 : decode cX11_readAny 176 = .ok (.invokevirtual 241, 3) := by decide +kernel
theorem dX11_readAny_179 : decode cX11_readAny 179 = .ok (.aload_n 0, 1) := by decide +kernel
theorem dX11_readAny_180 : decode cX11_readAny 180 = .ok (.bipush 11, 2) := by decide +kernel
theorem dX11_readAny_182 : decode cX11_readAny 182 = .ok (.invokevirtual 241, 3) := by decide +kernel
theorem dX11_readAny_185 : decode cX11_readAny 185 = .ok (.iload_n 1, 1) := by decide +kernel
theorem dX11_readAny_186 : decode cX11_readAny 186 = .ok (.ifCond .ne 5, 3) := by decide +kernel
theorem dX11_readAny_189 : decode cX11_readAny 189 = .ok (.iconst 0, 1) := by decide +kernel
theorem dX11_readAny_190 : decode cX11_readAny 190 = .ok (.ireturn, 1) := by decide +kernel
theorem dX11_readAny_191 : decode cX11_readAny 191 = .ok (.aload_n 0, 1) := by decide +kernel
theorem dX11_readAny_192 : decode cX11_readAny 192 = .ok (.bipush 41, 2) := by decide +kernel
theorem dX11_readAny_194 : decode cX11_readAny 194 = .ok (.invokevirtual 217, 3) := by decide +kernel
theorem dX11_readAny_197 : decode cX11_readAny 197 = .ok (.ifCond .ne 9, 3) := by decide +kernel
theorem dX11_readAny_200 : decode cX11_readAny 200 = .ok (.aload_n 0, 1) := by decide +kernel
theorem dX11_readAny_201 : decode cX11_readAny 201 = .ok (.iconst 1, 1) := by decide +kernel
theorem dX11_readAny_202 : decode cX11_readAny 202 = .ok (.invokevirtual 203, 3) := by decide +kernel
theorem dX11_readAny_205 : decode cX11_readAny 205 = .ok (.ireturn, 1) := by decide +kernel
theorem dX11_readAny_206 : decode cX11_readAny 206 = .ok (.aload_n 0, 1) := by decide +kernel
theorem dX11_readAny_207 : decode cX11_readAny 207 = .ok (.aload_n 0, 1) := by decide +kernel
theorem dX11_readAny_208 : decode cX11_readAny 208 = .ok (.getfield 226, 3) := by decide +kernel
theorem dX11_readAny_211 : decode cX11_readAny 211 = .ok (.iconst 1, 1) := by decide +kernel
theorem dX11_readAny_212 : decode cX11_readAny 212 = .ok (.isub, 1) := by decide +kernel
theorem dX11_readAny_213 : decode cX11_readAny 213 = .ok (.putfield 226, 3) := by decide +kernel
theorem dX11_readAny_216 : decode cX11_readAny 216 = .ok (.iload_n 1, 1) := by decide +kernel
theorem dX11_readAny_217 : decode cX11_readAny 217 = .ok (.iconst 1, 1) := by decide +kernel
theorem dX11_readAny_218 : decode cX11_readAny 218 = .ok (.isub, 1) := by decide +kernel
theorem dX11_readAny_219 : decode cX11_readAny 219 = .ok (.istore_n 1, 1) := by decide +kernel
theorem dX11_readAny_220 : decode cX11_readAny 220 = .ok (.aload_n 0, 1) := by decide +kernel
theorem dX11_readAny_221 : decode cX11_readAny 221 = .ok (.aload_n 0, 1) := by decide +kernel
theorem dX11_readAny_222 : decode cX11_readAny 222 = .ok (.getfield 229, 3) := by decide +kernel
theorem dX11_readAny_225 : decode cX11_readAny 225 = .ok (.iconst 1, 1) := by decide +kernel
theorem dX11_readAny_226 : decode cX11_readAny 226 = .ok (.isub, 1) := by decide +kernel
theorem dX11_readAny_227 : decode cX11_readAny 227 = .ok (.putfield 229, 3) := by decide +kernel
theorem dX11_readAny_230 : decode cX11_readAny 230 = .ok (.aload_n 0, 1) := by decide +kernel
theorem dX11_readAny_231 : decode cX11_readAny 231 = .ok (.bipush 9, 2) := by decide +kernel
theorem dX11_readAny_233 : decode cX11_readAny 233 = .ok (.invokevirtual 241, 3) := by decide +kernel
theorem dX11_readAny_236 : decode cX11_readAny 236 = .ok (.aload_n 0, 1) := by decide +kernel
theorem dX11_readAny_237 : decode cX11_readAny 237 = .ok (.invokevirtual 210, 3) := by decide +kernel
theorem dX11_readAny_240 : decode cX11_readAny 240 = .ok (.goto (-231), 3) := by decide +kernel
theorem dX11_isLineWord_0 : decode cX11_isLineWord 0 = .ok (.aload_n 0, 1) := by decide +kernel
theorem dX11_isLineWord_1 : decode cX11_isLineWord 1 = .ok (.getfield 172, 3) := by decide +kernel
theorem dX11_isLineWord_4 : decode cX11_isLineWord 4 = .ok (.iconst 2, 1) := by decide +kernel
theorem dX11_isLineWord_5 : decode cX11_isLineWord 5 = .ok (.if_icmp .ne 20, 3) := by decide +kernel
theorem dX11_isLineWord_8 : decode cX11_isLineWord 8 = .ok (.aload_n 0, 1) := by decide +kernel
theorem dX11_isLineWord_9 : decode cX11_isLineWord 9 = .ok (.aload_n 0, 1) := by decide +kernel
theorem dX11_isLineWord_10 : decode cX11_isLineWord 10 = .ok (.getfield 175, 3) := by decide +kernel
theorem dX11_isLineWord_13 : decode cX11_isLineWord 13 = .ok (.iconst 0, 1) := by decide +kernel
theorem dX11_isLineWord_14 : decode cX11_isLineWord 14 = .ok (.iconst 2, 1) := by decide +kernel
theorem dX11_isLineWord_15 : decode cX11_isLineWord 15 = .ok (.invokevirtual 147, 3) := by decide +kernel
theorem dX11_isLineWord_18 : decode cX11_isLineWord 18 = .ok (.ifCond .eq 7, 3) := by decide +kernel
theorem dX11_isLineWord_21 : decode cX11_isLineWord 21 = .ok (.iconst 1, 1) := by decide +kernel
theorem dX11_isLineWord_22 : decode cX11_isLineWord 22 = .ok (.goto 4, 3) := by decide +kernel
theorem dX11_isLineWord_25 : decode cX11_isLineWord 25 = .ok (.iconst 0, 1) := by decide +kernel
theorem dX11_isLineWord_26 : decode cX11_isLineWord 26 = .ok (.ireturn, 1) := by decide +kernel
theorem dX11_readLaw_0 : decode cX11_readLaw 0 = .ok (.iconst 0, 1) := by decide +kernel
theorem dX11_readLaw_1 : decode cX11_readLaw 1 = .ok (.istore_n 1, 1) := by decide +kernel
theorem dX11_readLaw_2 : decode cX11_readLaw 2 = .ok (.aload_n 0, 1) := by decide +kernel
theorem dX11_readLaw_3 : decode cX11_readLaw 3 = .ok (.invokevirtual 244, 3) := by decide +kernel
theorem dX11_readLaw_6 : decode cX11_readLaw 6 = .ok (.ifCond .eq 122, 3) := by decide +kernel
theorem dX11_readLaw_9 : decode cX11_readLaw 9 = .ok (.iload_n 1, 1) := by decide +kernel
theorem dX11_readLaw_10 : decode cX11_readLaw 10 = .ok (.bipush 16, 2) := by decide +kernel
theorem dX11_readLaw_12 : decode cX11_readLaw 12 = .ok (.if_icmp .ne 9, 3) := by decide +kernel
theorem dX11_readLaw_15 : decode cX11_readLaw 15 = .ok (.aload_n 0, 1) := by decide +kernel
theorem dX11_readLaw_16 : decode cX11_readLaw 16 = .ok (.iconst 3, 1) := by decide +kernel
theorem dX11_readLaw_17 : decode cX11_readLaw 17 = .ok (.invokevirtual 203, 3) := by decide +kernel
theorem dX11_readLaw_20 : decode cX11_readLaw 20 = .ok (.ireturn, 1) := by decide +kernel
theorem dX11_readLaw_21 : decode cX11_readLaw 21 = .ok (.bipush 32, 2) := by decide +kernel
theorem dX11_readLaw_23 : decode cX11_readLaw 23 = .ok (.iload_n 1, 1) := by decide +kernel
theorem dX11_readLaw_24 : decode cX11_readLaw 24 = .ok (.iadd, 1) := by decide +kernel
theorem dX11_readLaw_25 : decode cX11_readLaw 25 = .ok (.istore_n 2, 1) := by decide +kernel
theorem dX11_readLaw_26 : decode cX11_readLaw 26 = .ok (.aload_n 0, 1) := by decide +kernel
theorem dX11_readLaw_27 : decode cX11_readLaw 27 = .ok (.getfield 31, 3) := by decide +kernel
theorem dX11_readLaw_30 : decode cX11_readLaw 30 = .ok (.iload_n 2, 1) := by decide +kernel
theorem dX11_readLaw_31 : decode cX11_readLaw 31 = .ok (.aload_n 0, 1) := by decide +kernel
theorem dX11_readLaw_32 : decode cX11_readLaw 32 = .ok (.getfield 175, 3) := by decide +kernel
theorem dX11_readLaw_35 : decode cX11_readLaw 35 = .ok (.iastore, 1) := by decide +kernel
theorem dX11_readLaw_36 : decode cX11_readLaw 36 = .ok (.aload_n 0, 1) := by decide +kernel
theorem dX11_readLaw_37 : decode cX11_readLaw 37 = .ok (.invokevirtual 210, 3) := by decide +kernel
theorem dX11_readLaw_40 : decode cX11_readLaw 40 = .ok (.aload_n 0, 1) := by decide +kernel
theorem dX11_readLaw_41 : decode cX11_readLaw 41 = .ok (.getfield 34, 3) := by decide +kernel
theorem dX11_readLaw_44 : decode cX11_readLaw 44 = .ok (.iload_n 2, 1) := by decide +kernel
theorem dX11_readLaw_45 : decode cX11_readLaw 45 = .ok (.aload_n 0, 1) := by decide +kernel
theorem dX11_readLaw_46 : decode cX11_readLaw 46 = .ok (.getfield 197, 3) := by decide +kernel
theorem dX11_readLaw_49 : decode cX11_readLaw 49 = .ok (.iastore, 1) := by decide +kernel
theorem dX11_readLaw_50 : decode cX11_readLaw 50 = .ok (.aload_n 0, 1) := by decide +kernel
theorem dX11_readLaw_51 : decode cX11_readLaw 51 = .ok (.invokevirtual 223, 3) := by decide +kernel
theorem dX11_readLaw_54 : decode cX11_readLaw 54 = .ok (.iconst (-1), 1) := by decide +kernel
theorem dX11_readLaw_55 : decode cX11_readLaw 55 = .ok (.if_icmp .ne 5, 3) := by decide +kernel
theorem dX11_readLaw_58 : decode cX11_readLaw 58 = .ok (.iconst (-1), 1) := by decide +kernel
theorem dX11_readLaw_59 : decode cX11_readLaw 59 = .ok (.ireturn, 1) := by decide +kernel
theorem dX11_readLaw_60 : decode cX11_readLaw 60 = .ok (.aload_n 0, 1) := by decide +kernel
theorem dX11_readLaw_61 : decode cX11_readLaw 61 = .ok (.getfield 37, 3) := by decide +kernel
theorem dX11_readLaw_64 : decode cX11_readLaw 64 = .ok (.iload_n 2, 1) := by decide +kernel
theorem dX11_readLaw_65 : decode cX11_readLaw 65 = .ok (.aload_n 0, 1) := by decide +kernel
theorem dX11_readLaw_66 : decode cX11_readLaw 66 = .ok (.getfield 197, 3) := by decide +kernel
theorem dX11_readLaw_69 : decode cX11_readLaw 69 = .ok (.iastore, 1) := by decide +kernel
theorem dX11_readLaw_70 : decode cX11_readLaw 70 = .ok (.aload_n 0, 1) := by decide +kernel
theorem dX11_readLaw_71 : decode cX11_readLaw 71 = .ok (.iconst 3, 1) := by decide +kernel
theorem dX11_readLaw_72 : decode cX11_readLaw 72 = .ok (.invokevirtual 232, 3) := by decide +kernel
theorem dX11_readLaw_75 : decode cX11_readLaw 75 = .ok (.ifCond .eq 17, 3) := by decide +kernel
theorem dX11_readLaw_78 : decode cX11_readLaw 78 = .ok (.aload_n 0, 1) := by decide +kernel
theorem dX11_readLaw_79 : decode cX11_readLaw 79 = .ok (.invokevirtual 210, 3) := by decide +kernel
theorem dX11_readLaw_82 : decode cX11_readLaw 82 = .ok (.aload_n 0, 1) := by decide +kernel
theorem dX11_readLaw_83 : decode cX11_readLaw 83 = .ok (.invokevirtual 248, 3) := by decide +kernel
theorem dX11_readLaw_86 : decode cX11_readLaw 86 = .ok (.iconst (-1), 1) := by decide +kernel
theorem dX11_readLaw_87 : decode cX11_readLaw 87 = .ok (.if_icmp .ne 5, 3) := by decide +kernel
theorem dX11_readLaw_90 : decode cX11_readLaw 90 = .ok (.iconst (-1), 1) := by decide +kernel
theorem dX11_readLaw_91 : decode cX11_readLaw 91 = .ok (.ireturn, 1) := by decide +kernel
theorem dX11_readLaw_92 : decode cX11_readLaw 92 = .ok (.aload_n 0, 1) := by decide +kernel
theorem dX11_readLaw_93 : decode cX11_readLaw 93 = .ok (.getfield 40, 3) := by decide +kernel
theorem dX11_readLaw_96 : decode cX11_readLaw 96 = .ok (.iload_n 2, 1) := by decide +kernel
theorem dX11_readLaw_97 : decode cX11_readLaw 97 = .ok (.aload_n 0, 1) := by decide +kernel
theorem dX11_readLaw_98 : decode cX11_readLaw 98 = .ok (.getfield 197, 3) := by decide +kernel
theorem dX11_readLaw_101 : decode cX11_readLaw 101 = .ok (.iastore, 1) := by decide +kernel
theorem dX11_readLaw_102 : decode cX11_readLaw 102 = .ok (.aload_n 0, 1) := by decide +kernel
theorem dX11_readLaw_103 : decode cX11_readLaw 103 = .ok (.bipush 59, 2) := by decide +kernel
theorem dX11_readLaw_105 : decode cX11_readLaw 105 = .ok (.invokevirtual 217, 3) := by decide +kernel
theorem dX11_readLaw_108 : decode cX11_readLaw 108 = .ok (.ifCond .ne 9, 3) := by decide +kernel
theorem dX11_readLaw_111 : decode cX11_readLaw 111 = .ok (.aload_n 0, 1) := by decide +kernel
theorem dX11_readLaw_112 : decode cX11_readLaw 112 = .ok (.iconst 1, 1) := by decide +kernel
theorem dX11_readLaw_113 : decode cX11_readLaw 113 = .ok (.invokevirtual 203, 3) := by decide +kernel
theorem dX11_readLaw_116 : decode cX11_readLaw 116 = .ok (.ireturn, 1) := by decide +kernel
theorem dX11_readLaw_117 : decode cX11_readLaw 117 = .ok (.aload_n 0, 1) := by decide +kernel
theorem dX11_readLaw_118 : decode cX11_readLaw 118 = .ok (.invokevirtual 210, 3) := by decide +kernel
theorem dX11_readLaw_121 : decode cX11_readLaw 121 = .ok (.iload_n 1, 1) := by decide +kernel
theorem dX11_readLaw_122 : decode cX11_readLaw 122 = .ok (.iconst 1, 1) := by decide +kernel
theorem dX11_readLaw_123 : decode cX11_readLaw 123 = .ok (.iadd, 1) := by decide +kernel
theorem dX11_readLaw_124 : decode cX11_readLaw 124 = .ok (.istore_n 1, 1) := by decide +kernel
theorem dX11_readLaw_125 : decode cX11_readLaw 125 = .ok (.goto (-123), 3) := by decide +kernel
theorem dX11_readLaw_128 : decode cX11_readLaw 128 = .ok (.aload_n 0, 1) := by decide +kernel
theorem dX11_readLaw_129 : decode cX11_readLaw 129 = .ok (.getfield 172, 3) := by decide +kernel
theorem dX11_readLaw_132 : decode cX11_readLaw 132 = .ok (.ifCond .ne 7, 3) := by decide +kernel
theorem dX11_readLaw_135 : decode cX11_readLaw 135 = .ok (.iload_n 1, 1) := by decide +kernel
theorem dX11_readLaw_136 : decode cX11_readLaw 136 = .ok (.goto 8, 3) := by decide +kernel
theorem dX11_readLaw_139 : decode cX11_readLaw 139 = .ok (.aload_n 0, 1) := by decide +kernel
theorem dX11_readLaw_140 : decode cX11_readLaw 140 = .ok (.iconst 1, 1) := by decide +kernel
theorem dX11_readLaw_141 : decode cX11_readLaw 141 = .ok (.invokevirtual 203, 3) := by decide +kernel
theorem dX11_readLaw_144 : decode cX11_readLaw 144 = .ok (.ireturn, 1) := by decide +kernel
theorem dX11_takesLaw_0 : decode cX11_takesLaw 0 = .ok (.iconst 0, 1) := by decide +kernel
theorem dX11_takesLaw_1 : decode cX11_takesLaw 1 = .ok (.istore_n 2, 1) := by decide +kernel
theorem dX11_takesLaw_2 : decode cX11_takesLaw 2 = .ok (.iload_n 2, 1) := by decide +kernel
theorem dX11_takesLaw_3 : decode cX11_takesLaw 3 = .ok (.iload_n 1, 1) := by decide +kernel
theorem dX11_takesLaw_4 : decode cX11_takesLaw 4 = .ok (.if_icmp .ge 101, 3) := by decide +kernel
theorem dX11_takesLaw_7 : decode cX11_takesLaw 7 = .ok (.aload_n 0, 1) := by decide +kernel
theorem dX11_takesLaw_8 : decode cX11_takesLaw 8 = .ok (.getfield 31, 3) := by decide +kernel
theorem dX11_takesLaw_11 : decode cX11_takesLaw 11 = .ok (.bipush 16, 2) := by decide +kernel
theorem dX11_takesLaw_13 : decode cX11_takesLaw 13 = .ok (.aload_n 0, 1) := by decide +kernel
theorem dX11_takesLaw_14 : decode cX11_takesLaw 14 = .ok (.getfield 251, 3) := by decide +kernel
theorem dX11_takesLaw_17 : decode cX11_takesLaw 17 = .ok (.imul, 1) := by decide +kernel
theorem dX11_takesLaw_18 : decode cX11_takesLaw 18 = .ok (.iload_n 2, 1) := by decide +kernel
theorem dX11_takesLaw_19 : decode cX11_takesLaw 19 = .ok (.iadd, 1) := by decide +kernel
theorem dX11_takesLaw_20 : decode cX11_takesLaw 20 = .ok (.aload_n 0, 1) := by decide +kernel
theorem dX11_takesLaw_21 : decode cX11_takesLaw 21 = .ok (.getfield 31, 3) := by decide +kernel
theorem dX11_takesLaw_24 : decode cX11_takesLaw 24 = .ok (.bipush 32, 2) := by decide +kernel
theorem dX11_takesLaw_26 : decode cX11_takesLaw 26 = .ok (.iload_n 2, 1) := by decide +kernel
theorem dX11_takesLaw_27 : decode cX11_takesLaw 27 = .ok (.iadd, 1) := by decide +kernel
theorem dX11_takesLaw_28 : decode cX11_takesLaw 28 = .ok (.iaload, 1) := by decide +kernel
theorem dX11_takesLaw_29 : decode cX11_takesLaw 29 = .ok (.iastore, 1) := by decide +kernel
theorem dX11_takesLaw_30 : decode cX11_takesLaw 30 = .ok (.aload_n 0, 1) := by decide +kernel
theorem dX11_takesLaw_31 : decode cX11_takesLaw 31 = .ok (.getfield 34, 3) := by decide +kernel
theorem dX11_takesLaw_34 : decode cX11_takesLaw 34 = .ok (.bipush 16, 2) := by decide +kernel
theorem dX11_takesLaw_36 : decode cX11_takesLaw 36 = .ok (.aload_n 0, 1) := by decide +kernel
theorem dX11_takesLaw_37 : decode cX11_takesLaw 37 = .ok (.getfield 251, 3) := by decide +kernel
theorem dX11_takesLaw_40 : decode cX11_takesLaw 40 = .ok (.imul, 1) := by decide +kernel
theorem dX11_takesLaw_41 : decode cX11_takesLaw 41 = .ok (.iload_n 2, 1) := by decide +kernel
theorem dX11_takesLaw_42 : decode cX11_takesLaw 42 = .ok (.iadd, 1) := by decide +kernel
theorem dX11_takesLaw_43 : decode cX11_takesLaw 43 = .ok (.aload_n 0, 1) := by decide +kernel
theorem dX11_takesLaw_44 : decode cX11_takesLaw 44 = .ok (.getfield 34, 3) := by decide +kernel
theorem dX11_takesLaw_47 : decode cX11_takesLaw 47 = .ok (.bipush 32, 2) := by decide +kernel
theorem dX11_takesLaw_49 : decode cX11_takesLaw 49 = .ok (.iload_n 2, 1) := by decide +kernel
theorem dX11_takesLaw_50 : decode cX11_takesLaw 50 = .ok (.iadd, 1) := by decide +kernel
theorem dX11_takesLaw_51 : decode cX11_takesLaw 51 = .ok (.iaload, 1) := by decide +kernel
theorem dX11_takesLaw_52 : decode cX11_takesLaw 52 = .ok (.iastore, 1) := by decide +kernel
theorem dX11_takesLaw_53 : decode cX11_takesLaw 53 = .ok (.aload_n 0, 1) := by decide +kernel
theorem dX11_takesLaw_54 : decode cX11_takesLaw 54 = .ok (.getfield 37, 3) := by decide +kernel
theorem dX11_takesLaw_57 : decode cX11_takesLaw 57 = .ok (.bipush 16, 2) := by decide +kernel
theorem dX11_takesLaw_59 : decode cX11_takesLaw 59 = .ok (.aload_n 0, 1) := by decide +kernel
theorem dX11_takesLaw_60 : decode cX11_takesLaw 60 = .ok (.getfield 251, 3) := by decide +kernel
theorem dX11_takesLaw_63 : decode cX11_takesLaw 63 = .ok (.imul, 1) := by decide +kernel
theorem dX11_takesLaw_64 : decode cX11_takesLaw 64 = .ok (.iload_n 2, 1) := by decide +kernel
theorem dX11_takesLaw_65 : decode cX11_takesLaw 65 = .ok (.iadd, 1) := by decide +kernel
theorem dX11_takesLaw_66 : decode cX11_takesLaw 66 = .ok (.aload_n 0, 1) := by decide +kernel
theorem dX11_takesLaw_67 : decode cX11_takesLaw 67 = .ok (.getfield 37, 3) := by decide +kernel
theorem dX11_takesLaw_70 : decode cX11_takesLaw 70 = .ok (.bipush 32, 2) := by decide +kernel
theorem dX11_takesLaw_72 : decode cX11_takesLaw 72 = .ok (.iload_n 2, 1) := by decide +kernel
theorem dX11_takesLaw_73 : decode cX11_takesLaw 73 = .ok (.iadd, 1) := by decide +kernel
theorem dX11_takesLaw_74 : decode cX11_takesLaw 74 = .ok (.iaload, 1) := by decide +kernel
theorem dX11_takesLaw_75 : decode cX11_takesLaw 75 = .ok (.iastore, 1) := by decide +kernel
theorem dX11_takesLaw_76 : decode cX11_takesLaw 76 = .ok (.aload_n 0, 1) := by decide +kernel
theorem dX11_takesLaw_77 : decode cX11_takesLaw 77 = .ok (.getfield 40, 3) := by decide +kernel
theorem dX11_takesLaw_80 : decode cX11_takesLaw 80 = .ok (.bipush 16, 2) := by decide +kernel
theorem dX11_takesLaw_82 : decode cX11_takesLaw 82 = .ok (.aload_n 0, 1) := by decide +kernel
theorem dX11_takesLaw_83 : decode cX11_takesLaw 83 = .ok (.getfield 251, 3) := by decide +kernel
theorem dX11_takesLaw_86 : decode cX11_takesLaw 86 = .ok (.imul, 1) := by decide +kernel
theorem dX11_takesLaw_87 : decode cX11_takesLaw 87 = .ok (.iload_n 2, 1) := by decide +kernel
theorem dX11_takesLaw_88 : decode cX11_takesLaw 88 = .ok (.iadd, 1) := by decide +kernel
theorem dX11_takesLaw_89 : decode cX11_takesLaw 89 = .ok (.aload_n 0, 1) := by decide +kernel
theorem dX11_takesLaw_90 : decode cX11_takesLaw 90 = .ok (.getfield 40, 3) := by decide +kernel
theorem dX11_takesLaw_93 : decode cX11_takesLaw 93 = .ok (.bipush 32, 2) := by decide +kernel
theorem dX11_takesLaw_95 : decode cX11_takesLaw 95 = .ok (.iload_n 2, 1) := by decide +kernel
theorem dX11_takesLaw_96 : decode cX11_takesLaw 96 = .ok (.iadd, 1) := by decide +kernel
theorem dX11_takesLaw_97 : decode cX11_takesLaw 97 = .ok (.iaload, 1) := by decide +kernel
theorem dX11_takesLaw_98 : decode cX11_takesLaw 98 = .ok (.iastore, 1) := by decide +kernel
theorem dX11_takesLaw_99 : decode cX11_takesLaw 99 = .ok (.iinc 2 1, 3) := by decide +kernel
theorem dX11_takesLaw_102 : decode cX11_takesLaw 102 = .ok (.goto (-100), 3) := by decide +kernel
theorem dX11_takesLaw_105 : decode cX11_takesLaw 105 = .ok (.iconst 0, 1) := by decide +kernel
theorem dX11_takesLaw_106 : decode cX11_takesLaw 106 = .ok (.istore_n 2, 1) := by decide +kernel
theorem dX11_takesLaw_107 : decode cX11_takesLaw 107 = .ok (.iload_n 2, 1) := by decide +kernel
theorem dX11_takesLaw_108 : decode cX11_takesLaw 108 = .ok (.aload_n 0, 1) := by decide +kernel
theorem dX11_takesLaw_109 : decode cX11_takesLaw 109 = .ok (.getfield 197, 3) := by decide +kernel
theorem dX11_takesLaw_112 : decode cX11_takesLaw 112 = .ok (.if_icmp .ge 59, 3) := by decide +kernel
theorem dX11_takesLaw_115 : decode cX11_takesLaw 115 = .ok (.aload_n 0, 1) := by decide +kernel
theorem dX11_takesLaw_116 : decode cX11_takesLaw 116 = .ok (.getfield 43, 3) := by decide +kernel
theorem dX11_takesLaw_119 : decode cX11_takesLaw 119 = .ok (.sipush 400, 3) := by decide +kernel
theorem dX11_takesLaw_122 : decode cX11_takesLaw 122 = .ok (.aload_n 0, 1) := by decide +kernel
theorem dX11_takesLaw_123 : decode cX11_takesLaw 123 = .ok (.getfield 251, 3) := by decide +kernel
theorem dX11_takesLaw_126 : decode cX11_takesLaw 126 = .ok (.imul, 1) := by decide +kernel
theorem dX11_takesLaw_127 : decode cX11_takesLaw 127 = .ok (.iload_n 2, 1) := by decide +kernel
theorem dX11_takesLaw_128 : decode cX11_takesLaw 128 = .ok (.iadd, 1) := by decide +kernel
theorem dX11_takesLaw_129 : decode cX11_takesLaw 129 = .ok (.aload_n 0, 1) := by decide +kernel
theorem dX11_takesLaw_130 : decode cX11_takesLaw 130 = .ok (.getfield 43, 3) := by decide +kernel
theorem dX11_takesLaw_133 : decode cX11_takesLaw 133 = .ok (.sipush 800, 3) := by decide +kernel
theorem dX11_takesLaw_136 : decode cX11_takesLaw 136 = .ok (.iload_n 2, 1) := by decide +kernel
theorem dX11_takesLaw_137 : decode cX11_takesLaw 137 = .ok (.iadd, 1) := by decide +kernel
theorem dX11_takesLaw_138 : decode cX11_takesLaw 138 = .ok (.iaload, 1) := by decide +kernel
theorem dX11_takesLaw_139 : decode cX11_takesLaw 139 = .ok (.iastore, 1) := by decide +kernel
theorem dX11_takesLaw_140 : decode cX11_takesLaw 140 = .ok (.aload_n 0, 1) := by decide +kernel
theorem dX11_takesLaw_141 : decode cX11_takesLaw 141 = .ok (.getfield 46, 3) := by decide +kernel
theorem dX11_takesLaw_144 : decode cX11_takesLaw 144 = .ok (.sipush 400, 3) := by decide +kernel
theorem dX11_takesLaw_147 : decode cX11_takesLaw 147 = .ok (.aload_n 0, 1) := by decide +kernel
theorem dX11_takesLaw_148 : decode cX11_takesLaw 148 = .ok (.getfield 251, 3) := by decide +kernel
theorem dX11_takesLaw_151 : decode cX11_takesLaw 151 = .ok (.imul, 1) := by decide +kernel
theorem dX11_takesLaw_152 : decode cX11_takesLaw 152 = .ok (.iload_n 2, 1) := by decide +kernel
theorem dX11_takesLaw_153 : decode cX11_takesLaw 153 = .ok (.iadd, 1) := by decide +kernel
theorem dX11_takesLaw_154 : decode cX11_takesLaw 154 = .ok (.aload_n 0, 1) := by decide +kernel
theorem dX11_takesLaw_155 : decode cX11_takesLaw 155 = .ok (.getfield 46, 3) := by decide +kernel
theorem dX11_takesLaw_158 : decode cX11_takesLaw 158 = .ok (.sipush 800, 3) := by decide +kernel
theorem dX11_takesLaw_161 : decode cX11_takesLaw 161 = .ok (.iload_n 2, 1) := by decide +kernel
theorem dX11_takesLaw_162 : decode cX11_takesLaw 162 = .ok (.iadd, 1) := by decide +kernel
theorem dX11_takesLaw_163 : decode cX11_takesLaw 163 = .ok (.iaload, 1) := by decide +kernel
theorem dX11_takesLaw_164 : decode cX11_takesLaw 164 = .ok (.iastore, 1) := by decide +kernel
theorem dX11_takesLaw_165 : decode cX11_takesLaw 165 = .ok (.iinc 2 1, 3) := by decide +kernel
theorem dX11_takesLaw_168 : decode cX11_takesLaw 168 = .ok (.goto (-61), 3) := by decide +kernel
theorem dX11_takesLaw_171 : decode cX11_takesLaw 171 = .ok (.aload_n 0, 1) := by decide +kernel
theorem dX11_takesLaw_172 : decode cX11_takesLaw 172 = .ok (.getfield 28, 3) := by decide +kernel
theorem dX11_takesLaw_175 : decode cX11_takesLaw 175 = .ok (.aload_n 0, 1) := by decide +kernel
theorem dX11_takesLaw_176 : decode cX11_takesLaw 176 = .ok (.getfield 251, 3) := by decide +kernel
theorem dX11_takesLaw_179 : decode cX11_takesLaw 179 = .ok (.iload_n 1, 1) := by decide +kernel
theorem dX11_takesLaw_180 : decode cX11_takesLaw 180 = .ok (.iastore, 1) := by decide +kernel
theorem dX11_takesLaw_181 : decode cX11_takesLaw 181 = .ok (.return_, 1) := by decide +kernel
theorem dX11_readNumber_0 : decode cX11_readNumber 0 = .ok (.aload_n 0, 1) := by decide +kernel
theorem dX11_readNumber_1 : decode cX11_readNumber 1 = .ok (.getfield 172, 3) := by decide +kernel
theorem dX11_readNumber_4 : decode cX11_readNumber 4 = .ok (.iconst 3, 1) := by decide +kernel
theorem dX11_readNumber_5 : decode cX11_readNumber 5 = .ok (.if_icmp .eq 9, 3) := by decide +kernel
theorem dX11_readNumber_8 : decode cX11_readNumber 8 = .ok (.aload_n 0, 1) := by decide +kernel
theorem dX11_readNumber_9 : decode cX11_readNumber 9 = .ok (.iconst 1, 1) := by decide +kernel
theorem dX11_readNumber_10 : decode cX11_readNumber 10 = .ok (.invokevirtual 203, 3) := by decide +kernel
theorem dX11_readNumber_13 : decode cX11_readNumber 13 = .ok (.ireturn, 1) := by decide +kernel
theorem dX11_readNumber_14 : decode cX11_readNumber 14 = .ok (.aload_n 0, 1) := by decide +kernel
theorem dX11_readNumber_15 : decode cX11_readNumber 15 = .ok (.aload_n 0, 1) := by decide +kernel
theorem dX11_readNumber_16 : decode cX11_readNumber 16 = .ok (.getfield 175, 3) := by decide +kernel
theorem dX11_readNumber_19 : decode cX11_readNumber 19 = .ok (.iload_n 1, 1) := by decide +kernel
theorem dX11_readNumber_20 : decode cX11_readNumber 20 = .ok (.iload_n 2, 1) := by decide +kernel
theorem dX11_readNumber_21 : decode cX11_readNumber 21 = .ok (.invokevirtual 147, 3) := by decide +kernel
theorem dX11_readNumber_24 : decode cX11_readNumber 24 = .ok (.ifCond .ne 9, 3) := by decide +kernel
theorem dX11_readNumber_27 : decode cX11_readNumber 27 = .ok (.aload_n 0, 1) := by decide +kernel
theorem dX11_readNumber_28 : decode cX11_readNumber 28 = .ok (.iconst 2, 1) := by decide +kernel
theorem dX11_readNumber_29 : decode cX11_readNumber 29 = .ok (.invokevirtual 203, 3) := by decide +kernel
theorem dX11_readNumber_32 : decode cX11_readNumber 32 = .ok (.ireturn, 1) := by decide +kernel
theorem dX11_readNumber_33 : decode cX11_readNumber 33 = .ok (.aload_n 0, 1) := by decide +kernel
theorem dX11_readNumber_34 : decode cX11_readNumber 34 = .ok (.getfield 175, 3) := by decide +kernel
theorem dX11_readNumber_37 : decode cX11_readNumber 37 = .ok (.istore_n 3, 1) := by decide +kernel
theorem dX11_readNumber_38 : decode cX11_readNumber 38 = .ok (.aload_n 0, 1) := by decide +kernel
theorem dX11_readNumber_39 : decode cX11_readNumber 39 = .ok (.invokevirtual 210, 3) := by decide +kernel
theorem dX11_readNumber_42 : decode cX11_readNumber 42 = .ok (.iload_n 3, 1) := by decide +kernel
theorem dX11_readNumber_43 : decode cX11_readNumber 43 = .ok (.ireturn, 1) := by decide +kernel
theorem dX11_readMark_0 : decode cX11_readMark 0 = .ok (.aload_n 0, 1) := by decide +kernel
theorem dX11_readMark_1 : decode cX11_readMark 1 = .ok (.iload_n 1, 1) := by decide +kernel
theorem dX11_readMark_2 : decode cX11_readMark 2 = .ok (.invokevirtual 217, 3) := by decide +kernel
theorem dX11_readMark_5 : decode cX11_readMark 5 = .ok (.ifCond .ne 9, 3) := by decide +kernel
theorem dX11_readMark_8 : decode cX11_readMark 8 = .ok (.aload_n 0, 1) := by decide +kernel
theorem dX11_readMark_9 : decode cX11_readMark 9 = .ok (.iconst 1, 1) := by decide +kernel
theorem dX11_readMark_10 : decode cX11_readMark 10 = .ok (.invokevirtual 203, 3) := by decide +kernel
theorem dX11_readMark_13 : decode cX11_readMark 13 = .ok (.ireturn, 1) := by decide +kernel
theorem dX11_readMark_14 : decode cX11_readMark 14 = .ok (.aload_n 0, 1) := by decide +kernel
theorem dX11_readMark_15 : decode cX11_readMark 15 = .ok (.invokevirtual 210, 3) := by decide +kernel
theorem dX11_readMark_18 : decode cX11_readMark 18 = .ok (.iconst 0, 1) := by decide +kernel
theorem dX11_readMark_19 : decode cX11_readMark 19 = .ok (.ireturn, 1) := by decide +kernel
theorem dX11_readTold_0 : decode cX11_readTold 0 = .ok (.aload_n 0, 1) := by decide +kernel
theorem dX11_readTold_1 : decode cX11_readTold 1 = .ok (.iload_n 1, 1) := by decide +kernel
theorem dX11_readTold_2 : decode cX11_readTold 2 = .ok (.invokevirtual 232, 3) := by decide +kernel
theorem dX11_readTold_5 : decode cX11_readTold 5 = .ok (.ifCond .ne 9, 3) := by decide +kernel
theorem dX11_readTold_8 : decode cX11_readTold 8 = .ok (.aload_n 0, 1) := by decide +kernel
theorem dX11_readTold_9 : decode cX11_readTold 9 = .ok (.iconst 1, 1) := by decide +kernel
theorem dX11_readTold_10 : decode cX11_readTold 10 = .ok (.invokevirtual 203, 3) := by decide +kernel
theorem dX11_readTold_13 : decode cX11_readTold 13 = .ok (.ireturn, 1) := by decide +kernel
theorem dX11_readTold_14 : decode cX11_readTold 14 = .ok (.aload_n 0, 1) := by decide +kernel
theorem dX11_readTold_15 : decode cX11_readTold 15 = .ok (.invokevirtual 210, 3) := by decide +kernel
theorem dX11_readTold_18 : decode cX11_readTold 18 = .ok (.aload_n 0, 1) := by decide +kernel
theorem dX11_readTold_19 : decode cX11_readTold 19 = .ok (.iload_n 2, 1) := by decide +kernel
theorem dX11_readTold_20 : decode cX11_readTold 20 = .ok (.iload_n 3, 1) := by decide +kernel
theorem dX11_readTold_21 : decode cX11_readTold 21 = .ok (.invokevirtual 254, 3) := by decide +kernel
theorem dX11_readTold_24 : decode cX11_readTold 24 = .ok (.ireturn, 1) := by decide +kernel
theorem dX11_kindOfDeed_0 : decode cX11_kindOfDeed 0 = .ok (.aload_n 0, 1) := by decide +kernel
theorem dX11_kindOfDeed_1 : decode cX11_kindOfDeed 1 = .ok (.bipush 18, 2) := by decide +kernel
theorem dX11_kindOfDeed_3 : decode cX11_kindOfDeed 3 = .ok (.invokevirtual 232, 3) := by decide +kernel
theorem dX11_kindOfDeed_6 : decode cX11_kindOfDeed 6 = .ok (.ifCond .eq 5, 3) := by decide +kernel
theorem dX11_kindOfDeed_9 : decode cX11_kindOfDeed 9 = .ok (.iconst 0, 1) := by decide +kernel
theorem dX11_kindOfDeed_10 : decode cX11_kindOfDeed 10 = .ok (.ireturn, 1) := by decide +kernel
theorem dX11_kindOfDeed_11 : decode cX11_kindOfDeed 11 = .ok (.aload_n 0, 1) := by decide +kernel
theorem dX11_kindOfDeed_12 : decode cX11_kindOfDeed 12 = .ok (.bipush 19, 2) := by decide +kernel
theorem dX11_kindOfDeed_14 : decode cX11_kindOfDeed 14 = .ok (.invokevirtual 232, 3) := by decide +kernel
theorem dX11_kindOfDeed_17 : decode cX11_kindOfDeed 17 = .ok (.ifCond .eq 5, 3) := by decide +kernel
theorem dX11_kindOfDeed_20 : decode cX11_kindOfDeed 20 = .ok (.iconst 1, 1) := by decide +kernel
theorem dX11_kindOfDeed_21 : decode cX11_kindOfDeed 21 = .ok (.ireturn, 1) := by decide +kernel
theorem dX11_kindOfDeed_22 : decode cX11_kindOfDeed 22 = .ok (.aload_n 0, 1) := by decide +kernel
theorem dX11_kindOfDeed_23 : decode cX11_kindOfDeed 23 = .ok (.bipush 11, 2) := by decide +kernel
theorem dX11_kindOfDeed_25 : decode cX11_kindOfDeed 25 = .ok (.invokevirtual 232, 3) := by decide +kernel
theorem dX11_kindOfDeed_28 : decode cX11_kindOfDeed 28 = .ok (.ifCond .eq 5, 3) := by decide +kernel
theorem dX11_kindOfDeed_31 : decode cX11_kindOfDeed 31 = .ok (.iconst 2, 1) := by decide +kernel
theorem dX11_kindOfDeed_32 : decode cX11_kindOfDeed 32 = .ok (.ireturn, 1) := by decide +kernel
theorem dX11_kindOfDeed_33 : decode cX11_kindOfDeed 33 = .ok (.aload_n 0, 1) := by decide +kernel
theorem dX11_kindOfDeed_34 : decode cX11_kindOfDeed 34 = .ok (.bipush 21, 2) := by decide +kernel
theorem dX11_kindOfDeed_36 : decode cX11_kindOfDeed 36 = .ok (.invokevirtual 232, 3) := by decide +kernel
theorem dX11_kindOfDeed_39 : decode cX11_kindOfDeed 39 = .ok (.ifCond .eq 5, 3) := by decide +kernel
theorem dX11_kindOfDeed_42 : decode cX11_kindOfDeed 42 = .ok (.iconst 3, 1) := by decide +kernel
theorem dX11_kindOfDeed_43 : decode cX11_kindOfDeed 43 = .ok (.ireturn, 1) := by decide +kernel
theorem dX11_kindOfDeed_44 : decode cX11_kindOfDeed 44 = .ok (.aload_n 0, 1) := by decide +kernel
theorem dX11_kindOfDeed_45 : decode cX11_kindOfDeed 45 = .ok (.bipush 22, 2) := by decide +kernel
theorem dX11_kindOfDeed_47 : decode cX11_kindOfDeed 47 = .ok (.invokevirtual 232, 3) := by decide +kernel
theorem dX11_kindOfDeed_50 : decode cX11_kindOfDeed 50 = .ok (.ifCond .eq 7, 3) := by decide +kernel
theorem dX11_kindOfDeed_53 : decode cX11_kindOfDeed 53 = .ok (.iconst 4, 1) := by decide +kernel
theorem dX11_kindOfDeed_54 : decode cX11_kindOfDeed 54 = .ok (.goto 17, 3) := by decide +kernel
theorem dX11_kindOfDeed_57 : decode cX11_kindOfDeed 57 = .ok (.aload_n 0, 1) := by decide +kernel
theorem dX11_kindOfDeed_58 : decode cX11_kindOfDeed 58 = .ok (.bipush 14, 2) := by decide +kernel
theorem dX11_kindOfDeed_60 : decode cX11_kindOfDeed 60 = .ok (.invokevirtual 232, 3) := by decide +kernel
theorem dX11_kindOfDeed_63 : decode cX11_kindOfDeed 63 = .ok (.ifCond .eq 7, 3) := by decide +kernel
theorem dX11_kindOfDeed_66 : decode cX11_kindOfDeed 66 = .ok (.iconst 5, 1) := by decide +kernel
theorem dX11_kindOfDeed_67 : decode cX11_kindOfDeed 67 = .ok (.goto 4, 3) := by decide +kernel
theorem dX11_kindOfDeed_70 : decode cX11_kindOfDeed 70 = .ok (.iconst (-1), 1) := by decide +kernel
theorem dX11_kindOfDeed_71 : decode cX11_kindOfDeed 71 = .ok (.ireturn, 1) := by decide +kernel
theorem dX11_readDeed_0 : decode cX11_readDeed 0 = .ok (.aload_n 0, 1) := by decide +kernel
theorem dX11_readDeed_1 : decode cX11_readDeed 1 = .ok (.getfield 56, 3) := by decide +kernel
theorem dX11_readDeed_4 : decode cX11_readDeed 4 = .ok (.iload_n 1, 1) := by decide +kernel
theorem dX11_readDeed_5 : decode cX11_readDeed 5 = .ok (.aload_n 0, 1) := by decide +kernel
theorem dX11_readDeed_6 : decode cX11_readDeed 6 = .ok (.bipush 17, 2) := by decide +kernel
theorem dX11_readDeed_8 : decode cX11_readDeed 8 = .ok (.iconst 0, 1) := by decide +kernel
theorem dX11_readDeed_9 : decode cX11_readDeed 9 = .ok (.sipush 999, 3) := by decide +kernel
theorem dX11_readDeed_12 : decode cX11_readDeed 12 = .ok (.invokevirtual 257, 3) := by decide +kernel
theorem dX11_readDeed_15 : decode cX11_readDeed 15 = .ok (.iastore, 1) := by decide +kernel
theorem dX11_readDeed_16 : decode cX11_readDeed 16 = .ok (.aload_n 0, 1) := by decide +kernel
theorem dX11_readDeed_17 : decode cX11_readDeed 17 = .ok (.getfield 56, 3) := by decide +kernel
theorem dX11_readDeed_20 : decode cX11_readDeed 20 = .ok (.iload_n 1, 1) := by decide +kernel
theorem dX11_readDeed_21 : decode cX11_readDeed 21 = .ok (.iaload, 1) := by decide +kernel
theorem dX11_readDeed_22 : decode cX11_readDeed 22 = .ok (.iconst (-1), 1) := by decide +kernel
theorem dX11_readDeed_23 : decode cX11_readDeed 23 = .ok (.if_icmp .ne 5, 3) := by decide +kernel
theorem dX11_readDeed_26 : decode cX11_readDeed 26 = .ok (.iconst (-1), 1) := by decide +kernel
theorem dX11_readDeed_27 : decode cX11_readDeed 27 = .ok (.ireturn, 1) := by decide +kernel
theorem dX11_readDeed_28 : decode cX11_readDeed 28 = .ok (.aload_n 0, 1) := by decide +kernel
theorem dX11_readDeed_29 : decode cX11_readDeed 29 = .ok (.invokevirtual 261, 3) := by decide +kernel
theorem dX11_readDeed_32 : decode cX11_readDeed 32 = .ok (.istore_n 2, 1) := by decide +kernel
theorem dX11_readDeed_33 : decode cX11_readDeed 33 = .ok (.iload_n 2, 1) := by decide +kernel
theorem dX11_readDeed_34 : decode cX11_readDeed 34 = .ok (.iconst (-1), 1) := by decide +kernel
theorem dX11_readDeed_35 : decode cX11_readDeed 35 = .ok (.if_icmp .ne 9, 3) := by decide +kernel
theorem dX11_readDeed_38 : decode cX11_readDeed 38 = .ok (.aload_n 0, 1) := by decide +kernel
theorem dX11_readDeed_39 : decode cX11_readDeed 39 = .ok (.iconst 1, 1) := by decide +kernel
theorem dX11_readDeed_40 : decode cX11_readDeed 40 = .ok (.invokevirtual 203, 3) := by decide +kernel
theorem dX11_readDeed_43 : decode cX11_readDeed 43 = .ok (.ireturn, 1) := by decide +kernel
theorem dX11_readDeed_44 : decode cX11_readDeed 44 = .ok (.aload_n 0, 1) := by decide +kernel
theorem dX11_readDeed_45 : decode cX11_readDeed 45 = .ok (.invokevirtual 210, 3) := by decide +kernel
theorem dX11_readDeed_48 : decode cX11_readDeed 48 = .ok (.aload_n 0, 1) := by decide +kernel
theorem dX11_readDeed_49 : decode cX11_readDeed 49 = .ok (.getfield 56, 3) := by decide +kernel
theorem dX11_readDeed_52 : decode cX11_readDeed 52 = .ok (.iload_n 1, 1) := by decide +kernel
theorem dX11_readDeed_53 : decode cX11_readDeed 53 = .ok (.iconst 1, 1) := by decide +kernel
theorem dX11_readDeed_54 : decode cX11_readDeed 54 = .ok (.iadd, 1) := by decide +kernel
theorem dX11_readDeed_55 : decode cX11_readDeed 55 = .ok (.iload_n 2, 1) := by decide +kernel
theorem dX11_readDeed_56 : decode cX11_readDeed 56 = .ok (.iastore, 1) := by decide +kernel
theorem dX11_readDeed_57 : decode cX11_readDeed 57 = .ok (.aload_n 0, 1) := by decide +kernel
theorem dX11_readDeed_58 : decode cX11_readDeed 58 = .ok (.getfield 56, 3) := by decide +kernel
theorem dX11_readDeed_61 : decode cX11_readDeed 61 = .ok (.iload_n 1, 1) := by decide +kernel
theorem dX11_readDeed_62 : decode cX11_readDeed 62 = .ok (.iconst 2, 1) := by decide +kernel
theorem dX11_readDeed_63 : decode cX11_readDeed 63 = .ok (.iadd, 1) := by decide +kernel
theorem dX11_readDeed_64 : decode cX11_readDeed 64 = .ok (.aload_n 0, 1) := by decide +kernel
theorem dX11_readDeed_65 : decode cX11_readDeed 65 = .ok (.iconst 0, 1) := by decide +kernel
theorem dX11_readDeed_66 : decode cX11_readDeed 66 = .ok (.aload_n 0, 1) := by decide +kernel
theorem dX11_readDeed_67 : decode cX11_readDeed 67 = .ok (.getfield 144, 3) := by decide +kernel
theorem dX11_readDeed_70 : decode cX11_readDeed 70 = .ok (.iconst 1, 1) := by decide +kernel
theorem dX11_readDeed_71 : decode cX11_readDeed 71 = .ok (.isub, 1) := by decide +kernel
theorem dX11_readDeed_72 : decode cX11_readDeed 72 = .ok (.invokevirtual 254, 3) := by decide +kernel
theorem dX11_readDeed_75 : decode cX11_readDeed 75 = .ok (.iastore, 1) := by decide +kernel
theorem dX11_readDeed_76 : decode cX11_readDeed 76 = .ok (.aload_n 0, 1) := by decide +kernel
theorem dX11_readDeed_77 : decode cX11_readDeed 77 = .ok (.getfield 56, 3) := by decide +kernel
theorem dX11_readDeed_80 : decode cX11_readDeed 80 = .ok (.iload_n 1, 1) := by decide +kernel
theorem dX11_readDeed_81 : decode cX11_readDeed 81 = .ok (.iconst 2, 1) := by decide +kernel
theorem dX11_readDeed_82 : decode cX11_readDeed 82 = .ok (.iadd, 1) := by decide +kernel
theorem dX11_readDeed_83 : decode cX11_readDeed 83 = .ok (.iaload, 1) := by decide +kernel
theorem dX11_readDeed_84 : decode cX11_readDeed 84 = .ok (.iconst (-1), 1) := by decide +kernel
theorem dX11_readDeed_85 : decode cX11_readDeed 85 = .ok (.if_icmp .ne 5, 3) := by decide +kernel
theorem dX11_readDeed_88 : decode cX11_readDeed 88 = .ok (.iconst (-1), 1) := by decide +kernel
theorem dX11_readDeed_89 : decode cX11_readDeed 89 = .ok (.ireturn, 1) := by decide +kernel
theorem dX11_readDeed_90 : decode cX11_readDeed 90 = .ok (.aload_n 0, 1) := by decide +kernel
theorem dX11_readDeed_91 : decode cX11_readDeed 91 = .ok (.getfield 56, 3) := by decide +kernel
theorem dX11_readDeed_94 : decode cX11_readDeed 94 = .ok (.iload_n 1, 1) := by decide +kernel
theorem dX11_readDeed_95 : decode cX11_readDeed 95 = .ok (.iconst 3, 1) := by decide +kernel
theorem dX11_readDeed_96 : decode cX11_readDeed 96 = .ok (.iadd, 1) := by decide +kernel
theorem dX11_readDeed_97 : decode cX11_readDeed 97 = .ok (.iload_n 2, 1) := by decide +kernel
theorem dX11_readDeed_98 : decode cX11_readDeed 98 = .ok (.iconst 4, 1) := by decide +kernel
theorem dX11_readDeed_99 : decode cX11_readDeed 99 = .ok (.if_icmp .ne 14, 3) := by decide +kernel
theorem dX11_readDeed_102 : decode cX11_readDeed 102 = .ok (.aload_n 0, 1) := by decide +kernel
theorem dX11_readDeed_103 : decode cX11_readDeed 103 = .ok (.iconst 1, 1) := by decide +kernel
theorem dX11_readDeed_104 : decode cX11_readDeed 104 = .ok (.sipush 999, 3) := by decide +kernel
theorem dX11_readDeed_107 : decode cX11_readDeed 107 = .ok (.invokevirtual 254, 3) := by decide +kernel
theorem dX11_readDeed_110 : decode cX11_readDeed 110 = .ok (.goto 4, 3) := by decide +kernel
theorem dX11_readDeed_113 : decode cX11_readDeed 113 = .ok (.iconst 0, 1) := by decide +kernel
theorem dX11_readDeed_114 : decode cX11_readDeed 114 = .ok (.iastore, 1) := by decide +kernel
theorem dX11_readDeed_115 : decode cX11_readDeed 115 = .ok (.aload_n 0, 1) := by decide +kernel
theorem dX11_readDeed_116 : decode cX11_readDeed 116 = .ok (.getfield 56, 3) := by decide +kernel
theorem dX11_readDeed_119 : decode cX11_readDeed 119 = .ok (.iload_n 1, 1) := by decide +kernel
theorem dX11_readDeed_120 : decode cX11_readDeed 120 = .ok (.iconst 3, 1) := by decide +kernel
theorem dX11_readDeed_121 : decode cX11_readDeed 121 = .ok (.iadd, 1) := by decide +kernel
theorem dX11_readDeed_122 : decode cX11_readDeed 122 = .ok (.iaload, 1) := by decide +kernel
theorem dX11_readDeed_123 : decode cX11_readDeed 123 = .ok (.iconst (-1), 1) := by decide +kernel
theorem dX11_readDeed_124 : decode cX11_readDeed 124 = .ok (.if_icmp .ne 7, 3) := by decide +kernel
theorem dX11_readDeed_127 : decode cX11_readDeed 127 = .ok (.iconst (-1), 1) := by decide +kernel
theorem dX11_readDeed_128 : decode cX11_readDeed 128 = .ok (.goto 9, 3) := by decide +kernel
theorem dX11_readDeed_131 : decode cX11_readDeed 131 = .ok (.aload_n 0, 1) := by decide +kernel
theorem dX11_readDeed_132 : decode cX11_readDeed 132 = .ok (.bipush 59, 2) := by decide +kernel
theorem dX11_readDeed_134 : decode cX11_readDeed 134 = .ok (.invokevirtual 264, 3) := by decide +kernel
theorem dX11_readDeed_137 : decode cX11_readDeed 137 = .ok (.ireturn, 1) := by decide +kernel
theorem dX11_readPlans_0 : decode cX11_readPlans 0 = .ok (.iconst 0, 1) := by decide +kernel
theorem dX11_readPlans_1 : decode cX11_readPlans 1 = .ok (.istore_n 1, 1) := by decide +kernel
theorem dX11_readPlans_2 : decode cX11_readPlans 2 = .ok (.aload_n 0, 1) := by decide +kernel
theorem dX11_readPlans_3 : decode cX11_readPlans 3 = .ok (.bipush 17, 2) := by decide +kernel
theorem dX11_readPlans_5 : decode cX11_readPlans 5 = .ok (.invokevirtual 232, 3) := by decide +kernel
theorem dX11_readPlans_8 : decode cX11_readPlans 8 = .ok (.ifCond .eq 38, 3) := by decide +kernel
theorem dX11_readPlans_11 : decode cX11_readPlans 11 = .ok (.iload_n 1, 1) := by decide +kernel
theorem dX11_readPlans_12 : decode cX11_readPlans 12 = .ok (.bipush 16, 2) := by decide +kernel
theorem dX11_readPlans_14 : decode cX11_readPlans 14 = .ok (.if_icmp .ne 9, 3) := by decide +kernel
theorem dX11_readPlans_17 : decode cX11_readPlans 17 = .ok (.aload_n 0, 1) := by decide +kernel
theorem dX11_readPlans_18 : decode cX11_readPlans 18 = .ok (.iconst 3, 1) := by decide +kernel
theorem dX11_readPlans_19 : decode cX11_readPlans 19 = .ok (.invokevirtual 203, 3) := by decide +kernel
theorem dX11_readPlans_22 : decode cX11_readPlans 22 = .ok (.ireturn, 1) := by decide +kernel
theorem dX11_readPlans_23 : decode cX11_readPlans 23 = .ok (.aload_n 0, 1) := by decide +kernel
theorem dX11_readPlans_24 : decode cX11_readPlans 24 = .ok (.bipush 64, 2) := by decide +kernel
theorem dX11_readPlans_26 : decode cX11_readPlans 26 = .ok (.iconst 4, 1) := by decide +kernel
theorem dX11_readPlans_27 : decode cX11_readPlans 27 = .ok (.iload_n 1, 1) := by decide +kernel
theorem dX11_readPlans_28 : decode cX11_readPlans 28 = .ok (.imul, 1) := by decide +kernel
theorem dX11_readPlans_29 : decode cX11_readPlans 29 = .ok (.iadd, 1) := by decide +kernel
theorem dX11_readPlans_30 : decode cX11_readPlans 30 = .ok (.invokevirtual 267, 3) := by decide +kernel
theorem dX11_readPlans_33 : decode cX11_readPlans 33 = .ok (.iconst (-1), 1) := by decide +kernel
theorem dX11_readPlans_34 : decode cX11_readPlans 34 = .ok (.if_icmp .ne 5, 3) := by decide +kernel
theorem dX11_readPlans_37 : decode cX11_readPlans 37 = .ok (.iconst (-1), 1) := by decide +kernel
theorem dX11_readPlans_38 : decode cX11_readPlans 38 = .ok (.ireturn, 1) := by decide +kernel
theorem dX11_readPlans_39 : decode cX11_readPlans 39 = .ok (.iload_n 1, 1) := by decide +kernel
theorem dX11_readPlans_40 : decode cX11_readPlans 40 = .ok (.iconst 1, 1) := by decide +kernel
theorem dX11_readPlans_41 : decode cX11_readPlans 41 = .ok (.iadd, 1) := by decide +kernel
theorem dX11_readPlans_42 : decode cX11_readPlans 42 = .ok (.istore_n 1, 1) := by decide +kernel
theorem dX11_readPlans_43 : decode cX11_readPlans 43 = .ok (.goto (-41), 3) := by decide +kernel
theorem dX11_readPlans_46 : decode cX11_readPlans 46 = .ok (.aload_n 0, 1) := by decide +kernel
theorem dX11_readPlans_47 : decode cX11_readPlans 47 = .ok (.getfield 172, 3) := by decide +kernel
theorem dX11_readPlans_50 : decode cX11_readPlans 50 = .ok (.ifCond .ne 7, 3) := by decide +kernel
theorem dX11_readPlans_53 : decode cX11_readPlans 53 = .ok (.iload_n 1, 1) := by decide +kernel
theorem dX11_readPlans_54 : decode cX11_readPlans 54 = .ok (.goto 8, 3) := by decide +kernel
theorem dX11_readPlans_57 : decode cX11_readPlans 57 = .ok (.aload_n 0, 1) := by decide +kernel
theorem dX11_readPlans_58 : decode cX11_readPlans 58 = .ok (.iconst 1, 1) := by decide +kernel
theorem dX11_readPlans_59 : decode cX11_readPlans 59 = .ok (.invokevirtual 203, 3) := by decide +kernel
theorem dX11_readPlans_62 : decode cX11_readPlans 62 = .ok (.ireturn, 1) := by decide +kernel
theorem dX11_readFeud_0 : decode cX11_readFeud 0 = .ok (.aload_n 0, 1) := by decide +kernel
theorem dX11_readFeud_1 : decode cX11_readFeud 1 = .ok (.bipush 20, 2) := by decide +kernel
theorem dX11_readFeud_3 : decode cX11_readFeud 3 = .ok (.iconst 0, 1) := by decide +kernel
theorem dX11_readFeud_4 : decode cX11_readFeud 4 = .ok (.aload_n 0, 1) := by decide +kernel
theorem dX11_readFeud_5 : decode cX11_readFeud 5 = .ok (.getfield 144, 3) := by decide +kernel
theorem dX11_readFeud_8 : decode cX11_readFeud 8 = .ok (.iconst 1, 1) := by decide +kernel
theorem dX11_readFeud_9 : decode cX11_readFeud 9 = .ok (.isub, 1) := by decide +kernel
theorem dX11_readFeud_10 : decode cX11_readFeud 10 = .ok (.invokevirtual 257, 3) := by decide +kernel
theorem dX11_readFeud_13 : decode cX11_readFeud 13 = .ok (.istore_n 1, 1) := by decide +kernel
theorem dX11_readFeud_14 : decode cX11_readFeud 14 = .ok (.iload_n 1, 1) := by decide +kernel
theorem dX11_readFeud_15 : decode cX11_readFeud 15 = .ok (.iconst (-1), 1) := by decide +kernel
theorem dX11_readFeud_16 : decode cX11_readFeud 16 = .ok (.if_icmp .ne 5, 3) := by decide +kernel
theorem dX11_readFeud_19 : decode cX11_readFeud 19 = .ok (.iconst (-1), 1) := by decide +kernel
theorem dX11_readFeud_20 : decode cX11_readFeud 20 = .ok (.ireturn, 1) := by decide +kernel
theorem dX11_readFeud_21 : decode cX11_readFeud 21 = .ok (.aload_n 0, 1) := by decide +kernel
theorem dX11_readFeud_22 : decode cX11_readFeud 22 = .ok (.bipush 23, 2) := by decide +kernel
theorem dX11_readFeud_24 : decode cX11_readFeud 24 = .ok (.invokevirtual 232, 3) := by decide +kernel
theorem dX11_readFeud_27 : decode cX11_readFeud 27 = .ok (.ifCond .ne 9, 3) := by decide +kernel
theorem dX11_readFeud_30 : decode cX11_readFeud 30 = .ok (.aload_n 0, 1) := by decide +kernel
theorem dX11_readFeud_31 : decode cX11_readFeud 31 = .ok (.iconst 1, 1) := by decide +kernel
theorem dX11_readFeud_32 : decode cX11_readFeud 32 = .ok (.invokevirtual 203, 3) := by decide +kernel
theorem dX11_readFeud_35 : decode cX11_readFeud 35 = .ok (.ireturn, 1) := by decide +kernel
theorem dX11_readFeud_36 : decode cX11_readFeud 36 = .ok (.aload_n 0, 1) := by decide +kernel
theorem dX11_readFeud_37 : decode cX11_readFeud 37 = .ok (.invokevirtual 210, 3) := by decide +kernel
theorem dX11_readFeud_40 : decode cX11_readFeud 40 = .ok (.aload_n 0, 1) := by decide +kernel
theorem dX11_readFeud_41 : decode cX11_readFeud 41 = .ok (.getfield 172, 3) := by decide +kernel
theorem dX11_readFeud_44 : decode cX11_readFeud 44 = .ok (.iconst 3, 1) := by decide +kernel
theorem dX11_readFeud_45 : decode cX11_readFeud 45 = .ok (.if_icmp .ne 17, 3) := by decide +kernel
theorem dX11_readFeud_48 : decode cX11_readFeud 48 = .ok (.aload_n 0, 1) := by decide +kernel
theorem dX11_readFeud_49 : decode cX11_readFeud 49 = .ok (.getfield 175, 3) := by decide +kernel
theorem dX11_readFeud_52 : decode cX11_readFeud 52 = .ok (.iload_n 1, 1) := by decide +kernel
theorem dX11_readFeud_53 : decode cX11_readFeud 53 = .ok (.if_icmp .ne 9, 3) := by decide +kernel
theorem dX11_readFeud_56 : decode cX11_readFeud 56 = .ok (.aload_n 0, 1) := by decide +kernel
theorem dX11_readFeud_57 : decode cX11_readFeud 57 = .ok (.iconst 2, 1) := by decide +kernel
theorem dX11_readFeud_58 : decode cX11_readFeud 58 = .ok (.invokevirtual 203, 3) := by decide +kernel
theorem dX11_readFeud_61 : decode cX11_readFeud 61 = .ok (.ireturn, 1) := by decide +kernel
theorem dX11_readFeud_62 : decode cX11_readFeud 62 = .ok (.aload_n 0, 1) := by decide +kernel
theorem dX11_readFeud_63 : decode cX11_readFeud 63 = .ok (.iconst 0, 1) := by decide +kernel
theorem dX11_readFeud_64 : decode cX11_readFeud 64 = .ok (.aload_n 0, 1) := by decide +kernel
theorem dX11_readFeud_65 : decode cX11_readFeud 65 = .ok (.getfield 144, 3) := by decide +kernel
theorem dX11_readFeud_68 : decode cX11_readFeud 68 = .ok (.iconst 1, 1) := by decide +kernel
theorem dX11_readFeud_69 : decode cX11_readFeud 69 = .ok (.isub, 1) := by decide +kernel
theorem dX11_readFeud_70 : decode cX11_readFeud 70 = .ok (.invokevirtual 254, 3) := by decide +kernel
theorem dX11_readFeud_73 : decode cX11_readFeud 73 = .ok (.istore_n 2, 1) := by decide +kernel
theorem dX11_readFeud_74 : decode cX11_readFeud 74 = .ok (.iload_n 2, 1) := by decide +kernel
theorem dX11_readFeud_75 : decode cX11_readFeud 75 = .ok (.iconst (-1), 1) := by decide +kernel
theorem dX11_readFeud_76 : decode cX11_readFeud 76 = .ok (.if_icmp .ne 5, 3) := by decide +kernel
theorem dX11_readFeud_79 : decode cX11_readFeud 79 = .ok (.iconst (-1), 1) := by decide +kernel
theorem dX11_readFeud_80 : decode cX11_readFeud 80 = .ok (.ireturn, 1) := by decide +kernel
theorem dX11_readFeud_81 : decode cX11_readFeud 81 = .ok (.aload_n 0, 1) := by decide +kernel
theorem dX11_readFeud_82 : decode cX11_readFeud 82 = .ok (.getfield 59, 3) := by decide +kernel
theorem dX11_readFeud_85 : decode cX11_readFeud 85 = .ok (.bipush 16, 2) := by decide +kernel
theorem dX11_readFeud_87 : decode cX11_readFeud 87 = .ok (.iload_n 1, 1) := by decide +kernel
theorem dX11_readFeud_88 : decode cX11_readFeud 88 = .ok (.iadd, 1) := by decide +kernel
theorem dX11_readFeud_89 : decode cX11_readFeud 89 = .ok (.aload_n 0, 1) := by decide +kernel
theorem dX11_readFeud_90 : decode cX11_readFeud 90 = .ok (.getfield 59, 3) := by decide +kernel
theorem dX11_readFeud_93 : decode cX11_readFeud 93 = .ok (.bipush 16, 2) := by decide +kernel
theorem dX11_readFeud_95 : decode cX11_readFeud 95 = .ok (.iload_n 1, 1) := by decide +kernel
theorem dX11_readFeud_96 : decode cX11_readFeud 96 = .ok (.iadd, 1) := by decide +kernel
theorem dX11_readFeud_97 : decode cX11_readFeud 97 = .ok (.iaload, 1) := by decide +kernel
theorem dX11_readFeud_98 : decode cX11_readFeud 98 = .ok (.iconst 1, 1) := by decide +kernel
theorem dX11_readFeud_99 : decode cX11_readFeud 99 = .ok (.iload_n 2, 1) := by decide +kernel
theorem dX11_readFeud_100 : decode cX11_readFeud 100 = .ok (.ishl, 1) := by decide +kernel
theorem dX11_readFeud_101 : decode cX11_readFeud 101 = .ok (.ior, 1) := by decide +kernel
theorem dX11_readFeud_102 : decode cX11_readFeud 102 = .ok (.iastore, 1) := by decide +kernel
theorem dX11_readFeud_103 : decode cX11_readFeud 103 = .ok (.aload_n 0, 1) := by decide +kernel
theorem dX11_readFeud_104 : decode cX11_readFeud 104 = .ok (.bipush 59, 2) := by decide +kernel
theorem dX11_readFeud_106 : decode cX11_readFeud 106 = .ok (.invokevirtual 264, 3) := by decide +kernel
theorem dX11_readFeud_109 : decode cX11_readFeud 109 = .ok (.ireturn, 1) := by decide +kernel
theorem dX11_readSide_0 : decode cX11_readSide 0 = .ok (.aload_n 0, 1) := by decide +kernel
theorem dX11_readSide_1 : decode cX11_readSide 1 = .ok (.bipush 20, 2) := by decide +kernel
theorem dX11_readSide_3 : decode cX11_readSide 3 = .ok (.iconst 0, 1) := by decide +kernel
theorem dX11_readSide_4 : decode cX11_readSide 4 = .ok (.aload_n 0, 1) := by decide +kernel
theorem dX11_readSide_5 : decode cX11_readSide 5 = .ok (.getfield 144, 3) := by decide +kernel
theorem dX11_readSide_8 : decode cX11_readSide 8 = .ok (.iconst 1, 1) := by decide +kernel
theorem dX11_readSide_9 : decode cX11_readSide 9 = .ok (.isub, 1) := by decide +kernel
theorem dX11_readSide_10 : decode cX11_readSide 10 = .ok (.invokevirtual 257, 3) := by decide +kernel
theorem dX11_readSide_13 : decode cX11_readSide 13 = .ok (.istore_n 1, 1) := by decide +kernel
theorem dX11_readSide_14 : decode cX11_readSide 14 = .ok (.iload_n 1, 1) := by decide +kernel
theorem dX11_readSide_15 : decode cX11_readSide 15 = .ok (.iconst (-1), 1) := by decide +kernel
theorem dX11_readSide_16 : decode cX11_readSide 16 = .ok (.if_icmp .ne 5, 3) := by decide +kernel
theorem dX11_readSide_19 : decode cX11_readSide 19 = .ok (.iconst (-1), 1) := by decide +kernel
theorem dX11_readSide_20 : decode cX11_readSide 20 = .ok (.ireturn, 1) := by decide +kernel
theorem dX11_readSide_21 : decode cX11_readSide 21 = .ok (.aload_n 0, 1) := by decide +kernel
theorem dX11_readSide_22 : decode cX11_readSide 22 = .ok (.bipush 13, 2) := by decide +kernel
theorem dX11_readSide_24 : decode cX11_readSide 24 = .ok (.iconst 0, 1) := by decide +kernel
theorem dX11_readSide_25 : decode cX11_readSide 25 = .ok (.iconst 1, 1) := by decide +kernel
theorem dX11_readSide_26 : decode cX11_readSide 26 = .ok (.invokevirtual 257, 3) := by decide +kernel
theorem dX11_readSide_29 : decode cX11_readSide 29 = .ok (.istore_n 2, 1) := by decide +kernel
theorem dX11_readSide_30 : decode cX11_readSide 30 = .ok (.iload_n 2, 1) := by decide +kernel
theorem dX11_readSide_31 : decode cX11_readSide 31 = .ok (.iconst (-1), 1) := by decide +kernel
theorem dX11_readSide_32 : decode cX11_readSide 32 = .ok (.if_icmp .ne 5, 3) := by decide +kernel
theorem dX11_readSide_35 : decode cX11_readSide 35 = .ok (.iconst (-1), 1) := by decide +kernel
theorem dX11_readSide_36 : decode cX11_readSide 36 = .ok (.ireturn, 1) := by decide +kernel
theorem dX11_readSide_37 : decode cX11_readSide 37 = .ok (.aload_n 0, 1) := by decide +kernel
theorem dX11_readSide_38 : decode cX11_readSide 38 = .ok (.getfield 62, 3) := by decide +kernel
theorem dX11_readSide_41 : decode cX11_readSide 41 = .ok (.bipush 16, 2) := by decide +kernel
theorem dX11_readSide_43 : decode cX11_readSide 43 = .ok (.iload_n 1, 1) := by decide +kernel
theorem dX11_readSide_44 : decode cX11_readSide 44 = .ok (.iadd, 1) := by decide +kernel
theorem dX11_readSide_45 : decode cX11_readSide 45 = .ok (.iload_n 2, 1) := by decide +kernel
theorem dX11_readSide_46 : decode cX11_readSide 46 = .ok (.iastore, 1) := by decide +kernel
theorem dX11_readSide_47 : decode cX11_readSide 47 = .ok (.aload_n 0, 1) := by decide +kernel
theorem dX11_readSide_48 : decode cX11_readSide 48 = .ok (.bipush 59, 2) := by decide +kernel
theorem dX11_readSide_50 : decode cX11_readSide 50 = .ok (.invokevirtual 264, 3) := by decide +kernel
theorem dX11_readSide_53 : decode cX11_readSide 53 = .ok (.ireturn, 1) := by decide +kernel
theorem dX11_readHouses_0 : decode cX11_readHouses 0 = .ok (.iconst 0, 1) := by decide +kernel
theorem dX11_readHouses_1 : decode cX11_readHouses 1 = .ok (.istore_n 2, 1) := by decide +kernel
theorem dX11_readHouses_2 : decode cX11_readHouses 2 = .ok (.iload_n 2, 1) := by decide +kernel
theorem dX11_readHouses_3 : decode cX11_readHouses 3 = .ok (.bipush 16, 2) := by decide +kernel
theorem dX11_readHouses_5 : decode cX11_readHouses 5 = .ok (.if_icmp .ge 29, 3) := by decide +kernel
theorem dX11_readHouses_8 : decode cX11_readHouses 8 = .ok (.aload_n 0, 1) := by decide +kernel
theorem dX11_readHouses_9 : decode cX11_readHouses 9 = .ok (.getfield 59, 3) := by decide +kernel
theorem dX11_readHouses_12 : decode cX11_readHouses 12 = .ok (.bipush 16, 2) := by decide +kernel
theorem dX11_readHouses_14 : decode cX11_readHouses 14 = .ok (.iload_n 2, 1) := by decide +kernel
theorem dX11_readHouses_15 : decode cX11_readHouses 15 = .ok (.iadd, 1) := by decide +kernel
theorem dX11_readHouses_16 : decode cX11_readHouses 16 = .ok (.iconst 0, 1) := by decide +kernel
theorem dX11_readHouses_17 : decode cX11_readHouses 17 = .ok (.iastore, 1) := by decide +kernel
theorem dX11_readHouses_18 : decode cX11_readHouses 18 = .ok (.aload_n 0, 1) := by decide +kernel
theorem dX11_readHouses_19 : decode cX11_readHouses 19 = .ok (.getfield 62, 3) := by decide +kernel
theorem dX11_readHouses_22 : decode cX11_readHouses 22 = .ok (.bipush 16, 2) := by decide +kernel
theorem dX11_readHouses_24 : decode cX11_readHouses 24 = .ok (.iload_n 2, 1) := by decide +kernel
theorem dX11_readHouses_25 : decode cX11_readHouses 25 = .ok (.iadd, 1) := by decide +kernel
theorem dX11_readHouses_26 : decode cX11_readHouses 26 = .ok (.iconst 0, 1) := by decide +kernel
theorem dX11_readHouses_27 : decode cX11_readHouses 27 = .ok (.iastore, 1) := by decide +kernel
theorem dX11_readHouses_28 : decode cX11_readHouses 28 = .ok (.iinc 2 1, 3) := by decide +kernel
theorem dX11_readHouses_31 : decode cX11_readHouses 31 = .ok (.goto (-29), 3) := by decide +kernel
theorem dX11_readHouses_34 : decode cX11_readHouses 34 = .ok (.iconst 0, 1) := by decide +kernel
theorem dX11_readHouses_35 : decode cX11_readHouses 35 = .ok (.istore_n 2, 1) := by decide +kernel
theorem dX11_readHouses_36 : decode cX11_readHouses 36 = .ok (.aload_n 0, 1) := by decide +kernel
theorem dX11_readHouses_37 : decode cX11_readHouses 37 = .ok (.bipush 20, 2) := by decide +kernel
theorem dX11_readHouses_39 : decode cX11_readHouses 39 = .ok (.invokevirtual 232, 3) := by decide +kernel
theorem dX11_readHouses_42 : decode cX11_readHouses 42 = .ok (.ifCond .eq 45, 3) := by decide +kernel
theorem dX11_readHouses_45 : decode cX11_readHouses 45 = .ok (.iload_n 2, 1) := by decide +kernel
theorem dX11_readHouses_46 : decode cX11_readHouses 46 = .ok (.bipush 16, 2) := by decide +kernel
theorem dX11_readHouses_48 : decode cX11_readHouses 48 = .ok (.if_icmp .ne 9, 3) := by decide +kernel
theorem dX11_readHouses_51 : decode cX11_readHouses 51 = .ok (.aload_n 0, 1) := by decide +kernel
theorem dX11_readHouses_52 : decode cX11_readHouses 52 = .ok (.iconst 3, 1) := by decide +kernel
theorem dX11_readHouses_53 : decode cX11_readHouses 53 = .ok (.invokevirtual 203, 3) := by decide +kernel
theorem dX11_readHouses_56 : decode cX11_readHouses 56 = .ok (.ireturn, 1) := by decide +kernel
theorem dX11_readHouses_57 : decode cX11_readHouses 57 = .ok (.iload_n 1, 1) := by decide +kernel
theorem dX11_readHouses_58 : decode cX11_readHouses 58 = .ok (.ifCond .eq 10, 3) := by decide +kernel
theorem dX11_readHouses_61 : decode cX11_readHouses 61 = .ok (.aload_n 0, 1) := by decide +kernel
theorem dX11_readHouses_62 : decode cX11_readHouses 62 = .ok (.invokevirtual 270, 3) := by decide +kernel
theorem dX11_readHouses_65 : decode cX11_readHouses 65 = .ok (.goto 7, 3) := by decide +kernel
theorem dX11_readHouses_68 : decode cX11_readHouses 68 = .ok (.aload_n 0, 1) := by decide +kernel
theorem dX11_readHouses_69 : decode cX11_readHouses 69 = .ok (.invokevirtual 273, 3) := by decide +kernel
theorem dX11_readHouses_72 : decode cX11_readHouses 72 = .ok (.istore_n 3, 1) := by decide +kernel
theorem dX11_readHouses_73 : decode cX11_readHouses 73 = .ok (.iload_n 3, 1) := by decide +kernel
theorem dX11_readHouses_74 : decode cX11_readHouses 74 = .ok (.iconst (-1), 1) := by decide +kernel
theorem dX11_readHouses_75 : decode cX11_readHouses 75 = .ok (.if_icmp .ne 5, 3) := by decide +kernel
theorem dX11_readHouses_78 : decode cX11_readHouses 78 = .ok (.iconst (-1), 1) := by decide +kernel
theorem dX11_readHouses_79 : decode cX11_readHouses 79 = .ok (.ireturn, 1) := by decide +kernel
theorem dX11_readHouses_80 : decode cX11_readHouses 80 = .ok (.iload_n 2, 1) := by decide +kernel
theorem dX11_readHouses_81 : decode cX11_readHouses 81 = .ok (.iconst 1, 1) := by decide +kernel
theorem dX11_readHouses_82 : decode cX11_readHouses 82 = .ok (.iadd, 1) := by decide +kernel
theorem dX11_readHouses_83 : decode cX11_readHouses 83 = .ok (.istore_n 2, 1) := by decide +kernel
theorem dX11_readHouses_84 : decode cX11_readHouses 84 = .ok (.goto (-48), 3) := by decide +kernel
theorem dX11_readHouses_87 : decode cX11_readHouses 87 = .ok (.aload_n 0, 1) := by decide +kernel
theorem dX11_readHouses_88 : decode cX11_readHouses 88 = .ok (.getfield 172, 3) := by decide +kernel
theorem dX11_readHouses_91 : decode cX11_readHouses 91 = .ok (.ifCond .ne 7, 3) := by decide +kernel
theorem dX11_readHouses_94 : decode cX11_readHouses 94 = .ok (.iload_n 2, 1) := by decide +kernel
theorem dX11_readHouses_95 : decode cX11_readHouses 95 = .ok (.goto 8, 3) := by decide +kernel
theorem dX11_readHouses_98 : decode cX11_readHouses 98 = .ok (.aload_n 0, 1) := by decide +kernel
theorem dX11_readHouses_99 : decode cX11_readHouses 99 = .ok (.iconst 1, 1) := by decide +kernel
theorem dX11_readHouses_100 : decode cX11_readHouses 100 = .ok (.invokevirtual 203, 3) := by decide +kernel
theorem dX11_readHouses_103 : decode cX11_readHouses 103 = .ok (.ireturn, 1) := by decide +kernel
theorem dX11_readsText_0 : decode cX11_readsText 0 = .ok (.aload_n 0, 1) := by decide +kernel
theorem dX11_readsText_1 : decode cX11_readsText 1 = .ok (.iconst 0, 1) := by decide +kernel
theorem dX11_readsText_2 : decode cX11_readsText 2 = .ok (.putfield 251, 3) := by decide +kernel
theorem dX11_readsText_5 : decode cX11_readsText 5 = .ok (.aload_n 0, 1) := by decide +kernel
theorem dX11_readsText_6 : decode cX11_readsText 6 = .ok (.invokevirtual 210, 3) := by decide +kernel
theorem dX11_readsText_9 : decode cX11_readsText 9 = .ok (.iload_n 1, 1) := by decide +kernel
theorem dX11_readsText_10 : decode cX11_readsText 10 = .ok (.iconst 1, 1) := by decide +kernel
theorem dX11_readsText_11 : decode cX11_readsText 11 = .ok (.if_icmp .ne 8, 3) := by decide +kernel
theorem dX11_readsText_14 : decode cX11_readsText 14 = .ok (.aload_n 0, 1) := by decide +kernel
theorem dX11_readsText_15 : decode cX11_readsText 15 = .ok (.invokevirtual 276, 3) := by decide +kernel
theorem dX11_readsText_18 : decode cX11_readsText 18 = .ok (.ireturn, 1) := by decide +kernel
theorem dX11_readsText_19 : decode cX11_readsText 19 = .ok (.iload_n 1, 1) := by decide +kernel
theorem dX11_readsText_20 : decode cX11_readsText 20 = .ok (.ifCond .ne 10, 3) := by decide +kernel
theorem dX11_readsText_23 : decode cX11_readsText 23 = .ok (.aload_n 0, 1) := by decide +kernel
theorem dX11_readsText_24 : decode cX11_readsText 24 = .ok (.invokevirtual 279, 3) := by decide +kernel
theorem dX11_readsText_27 : decode cX11_readsText 27 = .ok (.goto 17, 3) := by decide +kernel
theorem dX11_readsText_30 : decode cX11_readsText 30 = .ok (.aload_n 0, 1) := by decide +kernel
theorem dX11_readsText_31 : decode cX11_readsText 31 = .ok (.iload_n 1, 1) := by decide +kernel
theorem dX11_readsText_32 : decode cX11_readsText 32 = .ok (.iconst 3, 1) := by decide +kernel
theorem dX11_readsText_33 : decode cX11_readsText 33 = .ok (.if_icmp .ne 7, 3) := by decide +kernel
theorem dX11_readsText_36 : decode cX11_readsText 36 = .ok (.iconst 1, 1) := by decide +kernel
theorem dX11_readsText_37 : decode cX11_readsText 37 = .ok (.goto 4, 3) := by decide +kernel
theorem dX11_readsText_40 : decode cX11_readsText 40 = .ok (.iconst 0, 1) := by decide +kernel
theorem dX11_readsText_41 : decode cX11_readsText 41 = .ok (.invokevirtual 282, 3) := by decide +kernel
theorem dX11_readsText_44 : decode cX11_readsText 44 = .ok (.ireturn, 1) := by decide +kernel
theorem dX11_takesOther_0 : decode cX11_takesOther 0 = .ok (.iload_n 1, 1) := by decide +kernel
theorem dX11_takesOther_1 : decode cX11_takesOther 1 = .ok (.iconst 1, 1) := by decide +kernel
theorem dX11_takesOther_2 : decode cX11_takesOther 2 = .ok (.if_icmp .ne 38, 3) := by decide +kernel
theorem dX11_takesOther_5 : decode cX11_takesOther 5 = .ok (.iconst 0, 1) := by decide +kernel
theorem dX11_takesOther_6 : decode cX11_takesOther 6 = .ok (.istore_n 3, 1) := by decide +kernel
theorem dX11_takesOther_7 : decode cX11_takesOther 7 = .ok (.iload_n 3, 1) := by decide +kernel
theorem dX11_takesOther_8 : decode cX11_takesOther 8 = .ok (.iconst 4, 1) := by decide +kernel
theorem dX11_takesOther_9 : decode cX11_takesOther 9 = .ok (.iload_n 2, 1) := by decide +kernel
theorem dX11_takesOther_10 : decode cX11_takesOther 10 = .ok (.imul, 1) := by decide +kernel
theorem dX11_takesOther_11 : decode cX11_takesOther 11 = .ok (.if_icmp .ge 24, 3) := by decide +kernel
theorem dX11_takesOther_14 : decode cX11_takesOther 14 = .ok (.aload_n 0, 1) := by decide +kernel
theorem dX11_takesOther_15 : decode cX11_takesOther 15 = .ok (.getfield 56, 3) := by decide +kernel
theorem dX11_takesOther_18 : decode cX11_takesOther 18 = .ok (.iload_n 3, 1) := by decide +kernel
theorem dX11_takesOther_19 : decode cX11_takesOther 19 = .ok (.aload_n 0, 1) := by decide +kernel
theorem dX11_takesOther_20 : decode cX11_takesOther 20 = .ok (.getfield 56, 3) := by decide +kernel
theorem dX11_takesOther_23 : decode cX11_takesOther 23 = .ok (.bipush 64, 2) := by decide +kernel
theorem dX11_takesOther_25 : decode cX11_takesOther 25 = .ok (.iload_n 3, 1) := by decide +kernel
theorem dX11_takesOther_26 : decode cX11_takesOther 26 = .ok (.iadd, 1) := by decide +kernel
theorem dX11_takesOther_27 : decode cX11_takesOther 27 = .ok (.iaload, 1) := by decide +kernel
theorem dX11_takesOther_28 : decode cX11_takesOther 28 = .ok (.iastore, 1) := by decide +kernel
theorem dX11_takesOther_29 : decode cX11_takesOther 29 = .ok (.iinc 3 1, 3) := by decide +kernel
theorem dX11_takesOther_32 : decode cX11_takesOther 32 = .ok (.goto (-25), 3) := by decide +kernel
theorem dX11_takesOther_35 : decode cX11_takesOther 35 = .ok (.aload_n 0, 1) := by decide +kernel
theorem dX11_takesOther_36 : decode cX11_takesOther 36 = .ok (.iload_n 2, 1) := by decide +kernel
theorem dX11_takesOther_37 : decode cX11_takesOther 37 = .ok (.putfield 286, 3) := by decide +kernel
theorem dX11_takesOther_40 : decode cX11_takesOther 40 = .ok (.iconst 0, 1) := by decide +kernel
theorem dX11_takesOther_41 : decode cX11_takesOther 41 = .ok (.istore_n 3, 1) := by decide +kernel
theorem dX11_takesOther_42 : decode cX11_takesOther 42 = .ok (.iload_n 3, 1) := by decide +kernel
theorem dX11_takesOther_43 : decode cX11_takesOther 43 = .ok (.bipush 16, 2) := by decide +kernel
theorem dX11_takesOther_45 : decode cX11_takesOther 45 = .ok (.if_icmp .ge 49, 3) := by decide +kernel
theorem dX11_takesOther_48 : decode cX11_takesOther 48 = .ok (.iload_n 1, 1) := by decide +kernel
theorem dX11_takesOther_49 : decode cX11_takesOther 49 = .ok (.iconst 2, 1) := by decide +kernel
theorem dX11_takesOther_50 : decode cX11_takesOther 50 = .ok (.if_icmp .ne 18, 3) := by decide +kernel
theorem dX11_takesOther_53 : decode cX11_takesOther 53 = .ok (.aload_n 0, 1) := by decide +kernel
theorem dX11_takesOther_54 : decode cX11_takesOther 54 = .ok (.getfield 59, 3) := by decide +kernel
theorem dX11_takesOther_57 : decode cX11_takesOther 57 = .ok (.iload_n 3, 1) := by decide +kernel
theorem dX11_takesOther_58 : decode cX11_takesOther 58 = .ok (.aload_n 0, 1) := by decide +kernel
theorem dX11_takesOther_59 : decode cX11_takesOther 59 = .ok (.getfield 59, 3) := by decide +kernel
theorem dX11_takesOther_62 : decode cX11_takesOther 62 = .ok (.bipush 16, 2) := by decide +kernel
theorem dX11_takesOther_64 : decode cX11_takesOther 64 = .ok (.iload_n 3, 1) := by decide +kernel
theorem dX11_takesOther_65 : decode cX11_takesOther 65 = .ok (.iadd, 1) := by decide +kernel
theorem dX11_takesOther_66 : decode cX11_takesOther 66 = .ok (.iaload, 1) := by decide +kernel
theorem dX11_takesOther_67 : decode cX11_takesOther 67 = .ok (.iastore, 1) := by decide +kernel
theorem dX11_takesOther_68 : decode cX11_takesOther 68 = .ok (.iload_n 1, 1) := by decide +kernel
theorem dX11_takesOther_69 : decode cX11_takesOther 69 = .ok (.iconst 3, 1) := by decide +kernel
theorem dX11_takesOther_70 : decode cX11_takesOther 70 = .ok (.if_icmp .ne 18, 3) := by decide +kernel
theorem dX11_takesOther_73 : decode cX11_takesOther 73 = .ok (.aload_n 0, 1) := by decide +kernel
theorem dX11_takesOther_74 : decode cX11_takesOther 74 = .ok (.getfield 62, 3) := by decide +kernel
theorem dX11_takesOther_77 : decode cX11_takesOther 77 = .ok (.iload_n 3, 1) := by decide +kernel
theorem dX11_takesOther_78 : decode cX11_takesOther 78 = .ok (.aload_n 0, 1) := by decide +kernel
theorem dX11_takesOther_79 : decode cX11_takesOther 79 = .ok (.getfield 62, 3) := by decide +kernel
theorem dX11_takesOther_82 : decode cX11_takesOther 82 = .ok (.bipush 16, 2) := by decide +kernel
theorem dX11_takesOther_84 : decode cX11_takesOther 84 = .ok (.iload_n 3, 1) := by decide +kernel
theorem dX11_takesOther_85 : decode cX11_takesOther 85 = .ok (.iadd, 1) := by decide +kernel
theorem dX11_takesOther_86 : decode cX11_takesOther 86 = .ok (.iaload, 1) := by decide +kernel
theorem dX11_takesOther_87 : decode cX11_takesOther 87 = .ok (.iastore, 1) := by decide +kernel
theorem dX11_takesOther_88 : decode cX11_takesOther 88 = .ok (.iinc 3 1, 3) := by decide +kernel
theorem dX11_takesOther_91 : decode cX11_takesOther 91 = .ok (.goto (-49), 3) := by decide +kernel
theorem dX11_takesOther_94 : decode cX11_takesOther 94 = .ok (.iload_n 1, 1) := by decide +kernel
theorem dX11_takesOther_95 : decode cX11_takesOther 95 = .ok (.iconst 2, 1) := by decide +kernel
theorem dX11_takesOther_96 : decode cX11_takesOther 96 = .ok (.if_icmp .ne 8, 3) := by decide +kernel
theorem dX11_takesOther_99 : decode cX11_takesOther 99 = .ok (.aload_n 0, 1) := by decide +kernel
theorem dX11_takesOther_100 : decode cX11_takesOther 100 = .ok (.iload_n 2, 1) := by decide +kernel
theorem dX11_takesOther_101 : decode cX11_takesOther 101 = .ok (.putfield 289, 3) := by decide +kernel
theorem dX11_takesOther_104 : decode cX11_takesOther 104 = .ok (.iload_n 1, 1) := by decide +kernel
theorem dX11_takesOther_105 : decode cX11_takesOther 105 = .ok (.iconst 3, 1) := by decide +kernel
theorem dX11_takesOther_106 : decode cX11_takesOther 106 = .ok (.if_icmp .ne 8, 3) := by decide +kernel
theorem dX11_takesOther_109 : decode cX11_takesOther 109 = .ok (.aload_n 0, 1) := by decide +kernel
theorem dX11_takesOther_110 : decode cX11_takesOther 110 = .ok (.iload_n 2, 1) := by decide +kernel
theorem dX11_takesOther_111 : decode cX11_takesOther 111 = .ok (.putfield 292, 3) := by decide +kernel
theorem dX11_takesOther_114 : decode cX11_takesOther 114 = .ok (.aload_n 0, 1) := by decide +kernel
theorem dX11_takesOther_115 : decode cX11_takesOther 115 = .ok (.iconst 0, 1) := by decide +kernel
theorem dX11_takesOther_116 : decode cX11_takesOther 116 = .ok (.putfield 135, 3) := by decide +kernel
theorem dX11_takesOther_119 : decode cX11_takesOther 119 = .ok (.return_, 1) := by decide +kernel
theorem dX11_text_0 : decode cX11_text 0 = .ok (.aload_n 0, 1) := by decide +kernel
theorem dX11_text_1 : decode cX11_text 1 = .ok (.iconst 0, 1) := by decide +kernel
theorem dX11_text_2 : decode cX11_text 2 = .ok (.putfield 132, 3) := by decide +kernel
theorem dX11_text_5 : decode cX11_text 5 = .ok (.aload_n 0, 1) := by decide +kernel
theorem dX11_text_6 : decode cX11_text 6 = .ok (.iconst 0, 1) := by decide +kernel
theorem dX11_text_7 : decode cX11_text 7 = .ok (.putfield 295, 3) := by decide +kernel
theorem dX11_text_10 : decode cX11_text 10 = .ok (.aload_n 0, 1) := by decide +kernel
theorem dX11_text_11 : decode cX11_text 11 = .ok (.iconst (-1), 1) := by decide +kernel
theorem dX11_text_12 : decode cX11_text 12 = .ok (.putfield 52, 3) := by decide +kernel
theorem dX11_text_15 : decode cX11_text 15 = .ok (.aload_n 0, 1) := by decide +kernel
theorem dX11_text_16 : decode cX11_text 16 = .ok (.iconst 0, 1) := by decide +kernel
theorem dX11_text_17 : decode cX11_text 17 = .ok (.putfield 162, 3) := by decide +kernel
theorem dX11_text_20 : decode cX11_text 20 = .ok (.aload_n 0, 1) := by decide +kernel
theorem dX11_text_21 : decode cX11_text 21 = .ok (.iconst 0, 1) := by decide +kernel
theorem dX11_text_22 : decode cX11_text 22 = .ok (.putfield 197, 3) := by decide +kernel
theorem dX11_text_25 : decode cX11_text 25 = .ok (.aload_n 0, 1) := by decide +kernel
theorem dX11_text_26 : decode cX11_text 26 = .ok (.iconst 0, 1) := by decide +kernel
theorem dX11_text_27 : decode cX11_text 27 = .ok (.putfield 229, 3) := by decide +kernel
theorem dX11_text_30 : decode cX11_text 30 = .ok (.iconst (-1), 1) := by decide +kernel
theorem dX11_text_31 : decode cX11_text 31 = .ok (.istore_n 2, 1) := by decide +kernel
theorem dX11_text_32 : decode cX11_text 32 = .ok (.aload_n 0, 1) := by decide +kernel
theorem dX11_text_33 : decode cX11_text 33 = .ok (.iload_n 1, 1) := by decide +kernel
theorem dX11_text_34 : decode cX11_text 34 = .ok (.iconst 0, 1) := by decide +kernel
theorem dX11_text_35 : decode cX11_text 35 = .ok (.iconst 3, 1) := by decide +kernel
theorem dX11_text_36 : decode cX11_text 36 = .ok (.invokevirtual 147, 3) := by decide +kernel
theorem dX11_text_39 : decode cX11_text 39 = .ok (.ifCond .eq 30, 3) := by decide +kernel
theorem dX11_text_42 : decode cX11_text 42 = .ok (.aload_n 0, 1) := by decide +kernel
theorem dX11_text_43 : decode cX11_text 43 = .ok (.iload_n 1, 1) := by decide +kernel
theorem dX11_text_44 : decode cX11_text 44 = .ok (.invokevirtual 298, 3) := by decide +kernel
theorem dX11_text_47 : decode cX11_text 47 = .ok (.istore_n 2, 1) := by decide +kernel
theorem dX11_text_48 : decode cX11_text 48 = .ok (.iload_n 2, 1) := by decide +kernel
theorem dX11_text_49 : decode cX11_text 49 = .ok (.iconst (-1), 1) := by decide +kernel
theorem dX11_text_50 : decode cX11_text 50 = .ok (.if_icmp .ne 19, 3) := by decide +kernel
theorem dX11_text_53 : decode cX11_text 53 = .ok (.aload_n 0, 1) := by decide +kernel
theorem dX11_text_54 : decode cX11_text 54 = .ok (.aload_n 0, 1) := by decide +kernel
theorem dX11_text_55 : decode cX11_text 55 = .ok (.getfield 191, 3) := by decide +kernel
theorem dX11_text_58 : decode cX11_text 58 = .ok (.putfield 295, 3) := by decide +kernel
theorem dX11_text_61 : decode cX11_text 61 = .ok (.aload_n 0, 1) := by decide +kernel
theorem dX11_text_62 : decode cX11_text 62 = .ok (.aload_n 0, 1) := by decide +kernel
theorem dX11_text_63 : decode cX11_text 63 = .ok (.getfield 194, 3) := by decide +kernel
theorem dX11_text_66 : decode cX11_text 66 = .ok (.putfield 52, 3) := by decide +kernel
theorem dX11_text_69 : decode cX11_text 69 = .ok (.aload_n 0, 1) := by decide +kernel
theorem dX11_text_70 : decode cX11_text 70 = .ok (.iconst 0, 1) := by decide +kernel
theorem dX11_text_71 : decode cX11_text 71 = .ok (.putfield 155, 3) := by decide +kernel
theorem dX11_text_74 : decode cX11_text 74 = .ok (.iload_n 2, 1) := by decide +kernel
theorem dX11_text_75 : decode cX11_text 75 = .ok (.iconst (-1), 1) := by decide +kernel
theorem dX11_text_76 : decode cX11_text 76 = .ok (.if_icmp .ne 5, 3) := by decide +kernel
theorem dX11_text_79 : decode cX11_text 79 = .ok (.iconst (-1), 1) := by decide +kernel
theorem dX11_text_80 : decode cX11_text 80 = .ok (.ireturn, 1) := by decide +kernel
theorem dX11_text_81 : decode cX11_text 81 = .ok (.iload_n 1, 1) := by decide +kernel
theorem dX11_text_82 : decode cX11_text 82 = .ok (.ifCond .ne 11, 3) := by decide +kernel
theorem dX11_text_85 : decode cX11_text 85 = .ok (.aload_n 0, 1) := by decide +kernel
theorem dX11_text_86 : decode cX11_text 86 = .ok (.iload_n 2, 1) := by decide +kernel
theorem dX11_text_87 : decode cX11_text 87 = .ok (.invokevirtual 301, 3) := by decide +kernel
theorem dX11_text_90 : decode cX11_text 90 = .ok (.goto 9, 3) := by decide +kernel
theorem dX11_text_93 : decode cX11_text 93 = .ok (.aload_n 0, 1) := by decide +kernel
theorem dX11_text_94 : decode cX11_text 94 = .ok (.iload_n 1, 1) := by decide +kernel
theorem dX11_text_95 : decode cX11_text 95 = .ok (.iload_n 2, 1) := by decide +kernel
theorem dX11_text_96 : decode cX11_text 96 = .ok (.invokevirtual 304, 3) := by decide +kernel
theorem dX11_text_99 : decode cX11_text 99 = .ok (.iload_n 2, 1) := by decide +kernel
theorem dX11_text_100 : decode cX11_text 100 = .ok (.ireturn, 1) := by decide +kernel
theorem dX11_fault_0 : decode cX11_fault 0 = .ok (.aload_n 0, 1) := by decide +kernel
theorem dX11_fault_1 : decode cX11_fault 1 = .ok (.iconst 0, 1) := by decide +kernel
theorem dX11_fault_2 : decode cX11_fault 2 = .ok (.putfield 132, 3) := by decide +kernel
theorem dX11_fault_5 : decode cX11_fault 5 = .ok (.iload_n 1, 1) := by decide +kernel
theorem dX11_fault_6 : decode cX11_fault 6 = .ok (.ifCond .ne 10, 3) := by decide +kernel
theorem dX11_fault_9 : decode cX11_fault 9 = .ok (.aload_n 0, 1) := by decide +kernel
theorem dX11_fault_10 : decode cX11_fault 10 = .ok (.getfield 295, 3) := by decide +kernel
theorem dX11_fault_13 : decode cX11_fault 13 = .ok (.goto 16, 3) := by decide +kernel
theorem dX11_fault_16 : decode cX11_fault 16 = .ok (.iload_n 1, 1) := by decide +kernel
theorem dX11_fault_17 : decode cX11_fault 17 = .ok (.iconst 1, 1) := by decide +kernel
theorem dX11_fault_18 : decode cX11_fault 18 = .ok (.if_icmp .ne 10, 3) := by decide +kernel
theorem dX11_fault_21 : decode cX11_fault 21 = .ok (.aload_n 0, 1) := by decide +kernel
theorem dX11_fault_22 : decode cX11_fault 22 = .ok (.getfield 52, 3) := by decide +kernel
theorem dX11_fault_25 : decode cX11_fault 25 = .ok (.goto 4, 3) := by decide +kernel
theorem dX11_fault_28 : decode cX11_fault 28 = .ok (.iconst (-1), 1) := by decide +kernel
theorem dX11_fault_29 : decode cX11_fault 29 = .ok (.ireturn, 1) := by decide +kernel
theorem dX11_twoOf_0 : decode cX11_twoOf 0 = .ok (.iload_n 1, 1) := by decide +kernel
theorem dX11_twoOf_1 : decode cX11_twoOf 1 = .ok (.iconst 2, 1) := by decide +kernel
theorem dX11_twoOf_2 : decode cX11_twoOf 2 = .ok (.if_icmp .ne 7, 3) := by decide +kernel
theorem dX11_twoOf_5 : decode cX11_twoOf 5 = .ok (.iload_n 2, 1) := by decide +kernel
theorem dX11_twoOf_6 : decode cX11_twoOf 6 = .ok (.iload_n 3, 1) := by decide +kernel
theorem dX11_twoOf_7 : decode cX11_twoOf 7 = .ok (.iadd, 1) := by decide +kernel
theorem dX11_twoOf_8 : decode cX11_twoOf 8 = .ok (.ireturn, 1) := by decide +kernel
theorem dX11_twoOf_9 : decode cX11_twoOf 9 = .ok (.iload_n 1, 1) := by decide +kernel
theorem dX11_twoOf_10 : decode cX11_twoOf 10 = .ok (.iconst 3, 1) := by decide +kernel
theorem dX11_twoOf_11 : decode cX11_twoOf 11 = .ok (.if_icmp .ne 7, 3) := by decide +kernel
theorem dX11_twoOf_14 : decode cX11_twoOf 14 = .ok (.iload_n 2, 1) := by decide +kernel
theorem dX11_twoOf_15 : decode cX11_twoOf 15 = .ok (.iload_n 3, 1) := by decide +kernel
theorem dX11_twoOf_16 : decode cX11_twoOf 16 = .ok (.isub, 1) := by decide +kernel
theorem dX11_twoOf_17 : decode cX11_twoOf 17 = .ok (.ireturn, 1) := by decide +kernel
theorem dX11_twoOf_18 : decode cX11_twoOf 18 = .ok (.iload_n 1, 1) := by decide +kernel
theorem dX11_twoOf_19 : decode cX11_twoOf 19 = .ok (.iconst 4, 1) := by decide +kernel
theorem dX11_twoOf_20 : decode cX11_twoOf 20 = .ok (.if_icmp .ne 7, 3) := by decide +kernel
theorem dX11_twoOf_23 : decode cX11_twoOf 23 = .ok (.iload_n 2, 1) := by decide +kernel
theorem dX11_twoOf_24 : decode cX11_twoOf 24 = .ok (.iload_n 3, 1) := by decide +kernel
theorem dX11_twoOf_25 : decode cX11_twoOf 25 = .ok (.imul, 1) := by decide +kernel
theorem dX11_twoOf_26 : decode cX11_twoOf 26 = .ok (.ireturn, 1) := by decide +kernel
theorem dX11_twoOf_27 : decode cX11_twoOf 27 = .ok (.iload_n 1, 1) := by decide +kernel
theorem dX11_twoOf_28 : decode cX11_twoOf 28 = .ok (.iconst 5, 1) := by decide +kernel
theorem dX11_twoOf_29 : decode cX11_twoOf 29 = .ok (.if_icmp .ne 7, 3) := by decide +kernel
theorem dX11_twoOf_32 : decode cX11_twoOf 32 = .ok (.iload_n 2, 1) := by decide +kernel
theorem dX11_twoOf_33 : decode cX11_twoOf 33 = .ok (.iload_n 3, 1) := by decide +kernel
theorem dX11_twoOf_34 : decode cX11_twoOf 34 = .ok (.idiv, 1) := by decide +kernel
theorem dX11_twoOf_35 : decode cX11_twoOf 35 = .ok (.ireturn, 1) := by decide +kernel
theorem dX11_twoOf_36 : decode cX11_twoOf 36 = .ok (.iload_n 1, 1) := by decide +kernel
theorem dX11_twoOf_37 : decode cX11_twoOf 37 = .ok (.bipush 6, 2) := by decide +kernel
theorem dX11_twoOf_39 : decode cX11_twoOf 39 = .ok (.if_icmp .ne 14, 3) := by decide +kernel
theorem dX11_twoOf_42 : decode cX11_twoOf 42 = .ok (.iload_n 2, 1) := by decide +kernel
theorem dX11_twoOf_43 : decode cX11_twoOf 43 = .ok (.iload_n 3, 1) := by decide +kernel
theorem dX11_twoOf_44 : decode cX11_twoOf 44 = .ok (.if_icmp .ge 7, 3) := by decide +kernel
theorem dX11_twoOf_47 : decode cX11_twoOf 47 = .ok (.iconst 1, 1) := by decide +kernel
theorem dX11_twoOf_48 : decode cX11_twoOf 48 = .ok (.goto 4, 3) := by decide +kernel
theorem dX11_twoOf_51 : decode cX11_twoOf 51 = .ok (.iconst 0, 1) := by decide +kernel
theorem dX11_twoOf_52 : decode cX11_twoOf 52 = .ok (.ireturn, 1) := by decide +kernel
theorem dX11_twoOf_53 : decode cX11_twoOf 53 = .ok (.iload_n 1, 1) := by decide +kernel
theorem dX11_twoOf_54 : decode cX11_twoOf 54 = .ok (.bipush 7, 2) := by decide +kernel
theorem dX11_twoOf_56 : decode cX11_twoOf 56 = .ok (.if_icmp .ne 14, 3) := by decide +kernel
theorem dX11_twoOf_59 : decode cX11_twoOf 59 = .ok (.iload_n 2, 1) := by decide +kernel
theorem dX11_twoOf_60 : decode cX11_twoOf 60 = .ok (.iload_n 3, 1) := by decide +kernel
theorem dX11_twoOf_61 : decode cX11_twoOf 61 = .ok (.if_icmp .ne 7, 3) := by decide +kernel
theorem dX11_twoOf_64 : decode cX11_twoOf 64 = .ok (.iconst 1, 1) := by decide +kernel
theorem dX11_twoOf_65 : decode cX11_twoOf 65 = .ok (.goto 4, 3) := by decide +kernel
theorem dX11_twoOf_68 : decode cX11_twoOf 68 = .ok (.iconst 0, 1) := by decide +kernel
theorem dX11_twoOf_69 : decode cX11_twoOf 69 = .ok (.ireturn, 1) := by decide +kernel
theorem dX11_twoOf_70 : decode cX11_twoOf 70 = .ok (.iload_n 1, 1) := by decide +kernel
theorem dX11_twoOf_71 : decode cX11_twoOf 71 = .ok (.bipush 8, 2) := by decide +kernel
theorem dX11_twoOf_73 : decode cX11_twoOf 73 = .ok (.if_icmp .ne 14, 3) := by decide +kernel
theorem dX11_twoOf_76 : decode cX11_twoOf 76 = .ok (.iload_n 2, 1) := by decide +kernel
theorem dX11_twoOf_77 : decode cX11_twoOf 77 = .ok (.iload_n 3, 1) := by decide +kernel
theorem dX11_twoOf_78 : decode cX11_twoOf 78 = .ok (.if_icmp .le 7, 3) := by decide +kernel
theorem dX11_twoOf_81 : decode cX11_twoOf 81 = .ok (.iconst 1, 1) := by decide +kernel
theorem dX11_twoOf_82 : decode cX11_twoOf 82 = .ok (.goto 4, 3) := by decide +kernel
theorem dX11_twoOf_85 : decode cX11_twoOf 85 = .ok (.iconst 0, 1) := by decide +kernel
theorem dX11_twoOf_86 : decode cX11_twoOf 86 = .ok (.ireturn, 1) := by decide +kernel
theorem dX11_twoOf_87 : decode cX11_twoOf 87 = .ok (.iload_n 1, 1) := by decide +kernel
theorem dX11_twoOf_88 : decode cX11_twoOf 88 = .ok (.bipush 10, 2) := by decide +kernel
theorem dX11_twoOf_90 : decode cX11_twoOf 90 = .ok (.if_icmp .ne 9, 3) := by decide +kernel
theorem dX11_twoOf_93 : decode cX11_twoOf 93 = .ok (.iload_n 2, 1) := by decide +kernel
theorem dX11_twoOf_94 : decode cX11_twoOf 94 = .ok (.iload_n 3, 1) := by decide +kernel
theorem dX11_twoOf_95 : decode cX11_twoOf 95 = .ok (.imul, 1) := by decide +kernel
theorem dX11_twoOf_96 : decode cX11_twoOf 96 = .ok (.goto 14, 3) := by decide +kernel
theorem dX11_twoOf_99 : decode cX11_twoOf 99 = .ok (.iload_n 2, 1) := by decide +kernel
theorem dX11_twoOf_100 : decode cX11_twoOf 100 = .ok (.iload_n 3, 1) := by decide +kernel
theorem dX11_twoOf_101 : decode cX11_twoOf 101 = .ok (.iadd, 1) := by decide +kernel
theorem dX11_twoOf_102 : decode cX11_twoOf 102 = .ok (.ifCond .le 7, 3) := by decide +kernel
theorem dX11_twoOf_105 : decode cX11_twoOf 105 = .ok (.iconst 1, 1) := by decide +kernel
theorem dX11_twoOf_106 : decode cX11_twoOf 106 = .ok (.goto 4, 3) := by decide +kernel
theorem dX11_twoOf_109 : decode cX11_twoOf 109 = .ok (.iconst 0, 1) := by decide +kernel
theorem dX11_twoOf_110 : decode cX11_twoOf 110 = .ok (.ireturn, 1) := by decide +kernel
theorem dX11_runs_0 : decode cX11_runs 0 = .ok (.iconst 0, 1) := by decide +kernel
theorem dX11_runs_1 : decode cX11_runs 1 = .ok (.istore 4, 2) := by decide +kernel
theorem dX11_runs_3 : decode cX11_runs 3 = .ok (.sipush 400, 3) := by decide +kernel
theorem dX11_runs_6 : decode cX11_runs 6 = .ok (.iload_n 1, 1) := by decide +kernel
theorem dX11_runs_7 : decode cX11_runs 7 = .ok (.imul, 1) := by decide +kernel
theorem dX11_runs_8 : decode cX11_runs 8 = .ok (.iload_n 2, 1) := by decide +kernel
theorem dX11_runs_9 : decode cX11_runs 9 = .ok (.iadd, 1) := by decide +kernel
theorem dX11_runs_10 : decode cX11_runs 10 = .ok (.istore 5, 2) := by decide +kernel
theorem dX11_runs_12 : decode cX11_runs 12 = .ok (.iload 5, 2) := by decide +kernel
theorem dX11_runs_14 : decode cX11_runs 14 = .ok (.sipush 400, 3) := by decide +kernel
theorem dX11_runs_17 : decode cX11_runs 17 = .ok (.iload_n 1, 1) := by decide +kernel
theorem dX11_runs_18 : decode cX11_runs 18 = .ok (.imul, 1) := by decide +kernel
theorem dX11_runs_19 : decode cX11_runs 19 = .ok (.iload_n 3, 1) := by decide +kernel
theorem dX11_runs_20 : decode cX11_runs 20 = .ok (.iadd, 1) := by decide +kernel
theorem dX11_runs_21 : decode cX11_runs 21 = .ok (.if_icmp .ge 155, 3) := by decide +kernel
theorem dX11_runs_24 : decode cX11_runs 24 = .ok (.aload_n 0, 1) := by decide +kernel
theorem dX11_runs_25 : decode cX11_runs 25 = .ok (.getfield 43, 3) := by decide +kernel
theorem dX11_runs_28 : decode cX11_runs 28 = .ok (.iload 5, 2) := by decide +kernel
theorem dX11_runs_30 : decode cX11_runs 30 = .ok (.iaload, 1) := by decide +kernel
theorem dX11_runs_31 : decode cX11_runs 31 = .ok (.ifCond .eq 14, 3) := by decide +kernel
theorem dX11_runs_34 : decode cX11_runs 34 = .ok (.aload_n 0, 1) := by decide +kernel
theorem dX11_runs_35 : decode cX11_runs 35 = .ok (.getfield 43, 3) := by decide +kernel
theorem dX11_runs_38 : decode cX11_runs 38 = .ok (.iload 5, 2) := by decide +kernel
theorem dX11_runs_40 : decode cX11_runs 40 = .ok (.iaload, 1) := by decide +kernel
theorem dX11_runs_41 : decode cX11_runs 41 = .ok (.iconst 1, 1) := by decide +kernel
theorem dX11_runs_42 : decode cX11_runs 42 = .ok (.if_icmp .ne 51, 3) := by decide +kernel
theorem dX11_runs_45 : decode cX11_runs 45 = .ok (.aload_n 0, 1) := by decide +kernel
theorem dX11_runs_46 : decode cX11_runs 46 = .ok (.getfield 68, 3) := by decide +kernel
theorem dX11_runs_49 : decode cX11_runs 49 = .ok (.iload 4, 2) := by decide +kernel
theorem dX11_runs_51 : decode cX11_runs 51 = .ok (.aload_n 0, 1) := by decide +kernel
theorem dX11_runs_52 : decode cX11_runs 52 = .ok (.getfield 43, 3) := by decide +kernel
theorem dX11_runs_55 : decode cX11_runs 55 = .ok (.iload 5, 2) := by decide +kernel
theorem dX11_runs_57 : decode cX11_runs 57 = .ok (.iaload, 1) := by decide +kernel
theorem dX11_runs_58 : decode cX11_runs 58 = .ok (.ifCond .ne 13, 3) := by decide +kernel
theorem dX11_runs_61 : decode cX11_runs 61 = .ok (.aload_n 0, 1) := by decide +kernel
theorem dX11_runs_62 : decode cX11_runs 62 = .ok (.getfield 46, 3) := by decide +kernel
theorem dX11_runs_65 : decode cX11_runs 65 = .ok (.iload 5, 2) := by decide +kernel
theorem dX11_runs_67 : decode cX11_runs 67 = .ok (.iaload, 1) := by decide +kernel
theorem dX11_runs_68 : decode cX11_runs 68 = .ok (.goto 15, 3) := by decide +kernel
theorem dX11_runs_71 : decode cX11_runs 71 = .ok (.aload_n 0, 1) := by decide +kernel
theorem dX11_runs_72 : decode cX11_runs 72 = .ok (.getfield 65, 3) := by decide +kernel
theorem dX11_runs_75 : decode cX11_runs 75 = .ok (.aload_n 0, 1) := by decide +kernel
theorem dX11_runs_76 : decode cX11_runs 76 = .ok (.getfield 46, 3) := by decide +kernel
theorem dX11_runs_79 : decode cX11_runs 79 = .ok (.iload 5, 2) := by decide +kernel
theorem dX11_runs_81 : decode cX11_runs 81 = .ok (.iaload, 1) := by decide +kernel
theorem dX11_runs_82 : decode cX11_runs 82 = .ok (.iaload, 1) := by decide +kernel
theorem dX11_runs_83 : decode cX11_runs 83 = .ok (.iastore, 1) := by decide +kernel
theorem dX11_runs_84 : decode cX11_runs 84 = .ok (.iload 4, 2) := by decide +kernel
theorem dX11_runs_86 : decode cX11_runs 86 = .ok (.iconst 1, 1) := by decide +kernel
theorem dX11_runs_87 : decode cX11_runs 87 = .ok (.iadd, 1) := by decide +kernel
theorem dX11_runs_88 : decode cX11_runs 88 = .ok (.istore 4, 2) := by decide +kernel
theorem dX11_runs_90 : decode cX11_runs 90 = .ok (.goto 80, 3) := by decide +kernel
theorem dX11_runs_93 : decode cX11_runs 93 = .ok (.aload_n 0, 1) := by decide +kernel
theorem dX11_runs_94 : decode cX11_runs 94 = .ok (.getfield 43, 3) := by decide +kernel
theorem dX11_runs_97 : decode cX11_runs 97 = .ok (.iload 5, 2) := by decide +kernel
theorem dX11_runs_99 : decode cX11_runs 99 = .ok (.iaload, 1) := by decide +kernel
theorem dX11_runs_100 : decode cX11_runs 100 = .ok (.bipush 9, 2) := by decide +kernel
theorem dX11_runs_102 : decode cX11_runs 102 = .ok (.if_icmp .ne 26, 3) := by decide +kernel
theorem dX11_runs_105 : decode cX11_runs 105 = .ok (.aload_n 0, 1) := by decide +kernel
theorem dX11_runs_106 : decode cX11_runs 106 = .ok (.getfield 68, 3) := by decide +kernel
theorem dX11_runs_109 : decode cX11_runs 109 = .ok (.iload 4, 2) := by decide +kernel
theorem dX11_runs_111 : decode cX11_runs 111 = .ok (.iconst 1, 1) := by decide +kernel
theorem dX11_runs_112 : decode cX11_runs 112 = .ok (.isub, 1) := by decide +kernel
theorem dX11_runs_113 : decode cX11_runs 113 = .ok (.iconst 1, 1) := by decide +kernel
theorem dX11_runs_114 : decode cX11_runs 114 = .ok (.aload_n 0, 1) := by decide +kernel
theorem dX11_runs_115 : decode cX11_runs 115 = .ok (.getfield 68, 3) := by decide +kernel
theorem dX11_runs_118 : decode cX11_runs 118 = .ok (.iload 4, 2) := by decide +kernel
theorem dX11_runs_120 : decode cX11_runs 120 = .ok (.iconst 1, 1) := by decide +kernel
theorem dX11_runs_121 : decode cX11_runs 121 = .ok (.isub, 1) := by decide +kernel
theorem dX11_runs_122 : decode cX11_runs 122 = .ok (.iaload, 1) := by decide +kernel
theorem dX11_runs_123 : decode cX11_runs 123 = .ok (.isub, 1) := by decide +kernel
theorem dX11_runs_124 : decode cX11_runs 124 = .ok (.iastore, 1) := by decide +kernel
theorem dX11_runs_125 : decode cX11_runs 125 = .ok (.goto 45, 3) := by decide +kernel
theorem dX11_runs_128 : decode cX11_runs 128 = .ok (.iload 4, 2) := by decide +kernel
theorem dX11_runs_130 : decode cX11_runs 130 = .ok (.iconst 1, 1) := by decide +kernel
theorem dX11_runs_131 : decode cX11_runs 131 = .ok (.isub, 1) := by decide +kernel
theorem dX11_runs_132 : decode cX11_runs 132 = .ok (.istore 4, 2) := by decide +kernel
theorem dX11_runs_134 : decode cX11_runs 134 = .ok (.aload_n 0, 1) := by decide +kernel
theorem dX11_runs_135 : decode cX11_runs 135 = .ok (.getfield 68, 3) := by decide +kernel
theorem dX11_runs_138 : decode cX11_runs 138 = .ok (.iload 4, 2) := by decide +kernel
theorem dX11_runs_140 : decode cX11_runs 140 = .ok (.iconst 1, 1) := by decide +kernel
theorem dX11_runs_141 : decode cX11_runs 141 = .ok (.isub, 1) := by decide +kernel
theorem dX11_runs_142 : decode cX11_runs 142 = .ok (.aload_n 0, 1) := by decide +kernel
theorem dX11_runs_143 : decode cX11_runs 143 = .ok (.aload_n 0, 1) := by decide +kernel
theorem dX11_runs_144 : decode cX11_runs 144 = .ok (.getfield 43, 3) := by decide +kernel
theorem dX11_runs_147 : decode cX11_runs 147 = .ok (.iload 5, 2) := by decide +kernel
theorem dX11_runs_149 : decode cX11_runs 149 = .ok (.iaload, 1) := by decide +kernel
theorem dX11_runs_150 : decode cX11_runs 150 = .ok (.aload_n 0, 1) := by decide +kernel
theorem dX11_runs_151 : decode cX11_runs 151 = .ok (.getfield 68, 3) := by decide +kernel
theorem dX11_runs_154 : decode cX11_runs 154 = .ok (.iload 4, 2) := by decide +kernel
theorem dX11_runs_156 : decode cX11_runs 156 = .ok (.iconst 1, 1) := by decide +kernel
theorem dX11_runs_157 : decode cX11_runs 157 = .ok (.isub, 1) := by decide +kernel
theorem dX11_runs_158 : decode cX11_runs 158 = .ok (.iaload, 1) := by decide +kernel
theorem dX11_runs_159 : decode cX11_runs 159 = .ok (.aload_n 0, 1) := by decide +kernel
theorem dX11_runs_160 : decode cX11_runs 160 = .ok (.getfield 68, 3) := by decide +kernel
theorem dX11_runs_163 : decode cX11_runs 163 = .ok (.iload 4, 2) := by decide +kernel
theorem dX11_runs_165 : decode cX11_runs 165 = .ok (.iaload, 1) := by decide +kernel
theorem dX11_runs_166 : decode cX11_runs 166 = .ok (.invokevirtual 307, 3) := by decide +kernel
theorem dX11_runs_169 : decode cX11_runs 169 = .ok (.iastore, 1) := by decide +kernel
theorem dX11_runs_170 : decode cX11_runs 170 = .ok (.iinc 5 1, 3) := by decide +kernel
theorem dX11_runs_173 : decode cX11_runs 173 = .ok (.goto (-161), 3) := by decide +kernel
theorem dX11_runs_176 : decode cX11_runs 176 = .ok (.aload_n 0, 1) := by decide +kernel
theorem dX11_runs_177 : decode cX11_runs 177 = .ok (.getfield 68, 3) := by decide +kernel
theorem dX11_runs_180 : decode cX11_runs 180 = .ok (.iconst 0, 1) := by decide +kernel
theorem dX11_runs_181 : decode cX11_runs 181 = .ok (.iaload, 1) := by decide +kernel
theorem dX11_runs_182 : decode cX11_runs 182 = .ok (.ireturn, 1) := by decide +kernel
theorem dX11_lineOf_0 : decode cX11_lineOf 0 = .ok (.iconst 0, 1) := by decide +kernel
theorem dX11_lineOf_1 : decode cX11_lineOf 1 = .ok (.istore_n 2, 1) := by decide +kernel
theorem dX11_lineOf_2 : decode cX11_lineOf 2 = .ok (.iload_n 2, 1) := by decide +kernel
theorem dX11_lineOf_3 : decode cX11_lineOf 3 = .ok (.aload_n 0, 1) := by decide +kernel
theorem dX11_lineOf_4 : decode cX11_lineOf 4 = .ok (.getfield 28, 3) := by decide +kernel
theorem dX11_lineOf_7 : decode cX11_lineOf 7 = .ok (.iconst 0, 1) := by decide +kernel
theorem dX11_lineOf_8 : decode cX11_lineOf 8 = .ok (.iaload, 1) := by decide +kernel
theorem dX11_lineOf_9 : decode cX11_lineOf 9 = .ok (.if_icmp .ge 56, 3) := by decide +kernel
theorem dX11_lineOf_12 : decode cX11_lineOf 12 = .ok (.aload_n 0, 1) := by decide +kernel
theorem dX11_lineOf_13 : decode cX11_lineOf 13 = .ok (.getfield 31, 3) := by decide +kernel
theorem dX11_lineOf_16 : decode cX11_lineOf 16 = .ok (.iload_n 2, 1) := by decide +kernel
theorem dX11_lineOf_17 : decode cX11_lineOf 17 = .ok (.iaload, 1) := by decide +kernel
theorem dX11_lineOf_18 : decode cX11_lineOf 18 = .ok (.iload_n 1, 1) := by decide +kernel
theorem dX11_lineOf_19 : decode cX11_lineOf 19 = .ok (.if_icmp .ne 40, 3) := by decide +kernel
theorem dX11_lineOf_22 : decode cX11_lineOf 22 = .ok (.aload_n 0, 1) := by decide +kernel
theorem dX11_lineOf_23 : decode cX11_lineOf 23 = .ok (.getfield 37, 3) := by decide +kernel
theorem dX11_lineOf_26 : decode cX11_lineOf 26 = .ok (.iload_n 2, 1) := by decide +kernel
theorem dX11_lineOf_27 : decode cX11_lineOf 27 = .ok (.iaload, 1) := by decide +kernel
theorem dX11_lineOf_28 : decode cX11_lineOf 28 = .ok (.aload_n 0, 1) := by decide +kernel
theorem dX11_lineOf_29 : decode cX11_lineOf 29 = .ok (.getfield 40, 3) := by decide +kernel
theorem dX11_lineOf_32 : decode cX11_lineOf 32 = .ok (.iload_n 2, 1) := by decide +kernel
theorem dX11_lineOf_33 : decode cX11_lineOf 33 = .ok (.iaload, 1) := by decide +kernel
theorem dX11_lineOf_34 : decode cX11_lineOf 34 = .ok (.if_icmp .eq 23, 3) := by decide +kernel
theorem dX11_lineOf_37 : decode cX11_lineOf 37 = .ok (.aload_n 0, 1) := by decide +kernel
theorem dX11_lineOf_38 : decode cX11_lineOf 38 = .ok (.iconst 0, 1) := by decide +kernel
theorem dX11_lineOf_39 : decode cX11_lineOf 39 = .ok (.aload_n 0, 1) := by decide +kernel
theorem dX11_lineOf_40 : decode cX11_lineOf 40 = .ok (.getfield 37, 3) := by decide +kernel
theorem dX11_lineOf_43 : decode cX11_lineOf 43 = .ok (.iload_n 2, 1) := by decide +kernel
theorem dX11_lineOf_44 : decode cX11_lineOf 44 = .ok (.iaload, 1) := by decide +kernel
theorem dX11_lineOf_45 : decode cX11_lineOf 45 = .ok (.aload_n 0, 1) := by decide +kernel
theorem dX11_lineOf_46 : decode cX11_lineOf 46 = .ok (.getfield 40, 3) := by decide +kernel
theorem dX11_lineOf_49 : decode cX11_lineOf 49 = .ok (.iload_n 2, 1) := by decide +kernel
theorem dX11_lineOf_50 : decode cX11_lineOf 50 = .ok (.iaload, 1) := by decide +kernel
theorem dX11_lineOf_51 : decode cX11_lineOf 51 = .ok (.invokevirtual 310, 3) := by decide +kernel
theorem dX11_lineOf_54 : decode cX11_lineOf 54 = .ok (.ifCond .eq 5, 3) := by decide +kernel
theorem dX11_lineOf_57 : decode cX11_lineOf 57 = .ok (.iload_n 2, 1) := by decide +kernel
theorem dX11_lineOf_58 : decode cX11_lineOf 58 = .ok (.ireturn, 1) := by decide +kernel
theorem dX11_lineOf_59 : decode cX11_lineOf 59 = .ok (.iinc 2 1, 3) := by decide +kernel
theorem dX11_lineOf_62 : decode cX11_lineOf 62 = .ok (.goto (-60), 3) := by decide +kernel
theorem dX11_lineOf_65 : decode cX11_lineOf 65 = .ok (.iconst (-1), 1) := by decide +kernel
theorem dX11_lineOf_66 : decode cX11_lineOf 66 = .ok (.ireturn, 1) := by decide +kernel
theorem dX11_asks_0 : decode cX11_asks 0 = .ok (.aload_n 0, 1) := by decide +kernel
theorem dX11_asks_1 : decode cX11_asks 1 = .ok (.getfield 65, 3) := by decide +kernel
theorem dX11_asks_4 : decode cX11_asks 4 = .ok (.iconst 0, 1) := by decide +kernel
theorem dX11_asks_5 : decode cX11_asks 5 = .ok (.aload_n 0, 1) := by decide +kernel
theorem dX11_asks_6 : decode cX11_asks 6 = .ok (.getfield 7, 3) := by decide +kernel
theorem dX11_asks_9 : decode cX11_asks 9 = .ok (.bipush 7, 2) := by decide +kernel
theorem dX11_asks_11 : decode cX11_asks 11 = .ok (.iload_n 1, 1) := by decide +kernel
theorem dX11_asks_12 : decode cX11_asks 12 = .ok (.iadd, 1) := by decide +kernel
theorem dX11_asks_13 : decode cX11_asks 13 = .ok (.iaload, 1) := by decide +kernel
theorem dX11_asks_14 : decode cX11_asks 14 = .ok (.iastore, 1) := by decide +kernel
theorem dX11_asks_15 : decode cX11_asks 15 = .ok (.aload_n 0, 1) := by decide +kernel
theorem dX11_asks_16 : decode cX11_asks 16 = .ok (.getfield 65, 3) := by decide +kernel
theorem dX11_asks_19 : decode cX11_asks 19 = .ok (.iconst 1, 1) := by decide +kernel
theorem dX11_asks_20 : decode cX11_asks 20 = .ok (.aload_n 0, 1) := by decide +kernel
theorem dX11_asks_21 : decode cX11_asks 21 = .ok (.getfield 7, 3) := by decide +kernel
theorem dX11_asks_24 : decode cX11_asks 24 = .ok (.bipush 23, 2) := by decide +kernel
theorem dX11_asks_26 : decode cX11_asks 26 = .ok (.iload_n 1, 1) := by decide +kernel
theorem dX11_asks_27 : decode cX11_asks 27 = .ok (.iadd, 1) := by decide +kernel
theorem dX11_asks_28 : decode cX11_asks 28 = .ok (.iaload, 1) := by decide +kernel
theorem dX11_asks_29 : decode cX11_asks 29 = .ok (.iastore, 1) := by decide +kernel
theorem dX11_asks_30 : decode cX11_asks 30 = .ok (.aload_n 0, 1) := by decide +kernel
theorem dX11_asks_31 : decode cX11_asks 31 = .ok (.getfield 65, 3) := by decide +kernel
theorem dX11_asks_34 : decode cX11_asks 34 = .ok (.iconst 2, 1) := by decide +kernel
theorem dX11_asks_35 : decode cX11_asks 35 = .ok (.aload_n 0, 1) := by decide +kernel
theorem dX11_asks_36 : decode cX11_asks 36 = .ok (.getfield 7, 3) := by decide +kernel
theorem dX11_asks_39 : decode cX11_asks 39 = .ok (.bipush 39, 2) := by decide +kernel
theorem dX11_asks_41 : decode cX11_asks 41 = .ok (.iload_n 1, 1) := by decide +kernel
theorem dX11_asks_42 : decode cX11_asks 42 = .ok (.iadd, 1) := by decide +kernel
theorem dX11_asks_43 : decode cX11_asks 43 = .ok (.iaload, 1) := by decide +kernel
theorem dX11_asks_44 : decode cX11_asks 44 = .ok (.iastore, 1) := by decide +kernel
theorem dX11_asks_45 : decode cX11_asks 45 = .ok (.aload_n 0, 1) := by decide +kernel
theorem dX11_asks_46 : decode cX11_asks 46 = .ok (.getfield 65, 3) := by decide +kernel
theorem dX11_asks_49 : decode cX11_asks 49 = .ok (.iconst 3, 1) := by decide +kernel
theorem dX11_asks_50 : decode cX11_asks 50 = .ok (.aload_n 0, 1) := by decide +kernel
theorem dX11_asks_51 : decode cX11_asks 51 = .ok (.getfield 7, 3) := by decide +kernel
theorem dX11_asks_54 : decode cX11_asks 54 = .ok (.bipush 55, 2) := by decide +kernel
theorem dX11_asks_56 : decode cX11_asks 56 = .ok (.iload_n 1, 1) := by decide +kernel
theorem dX11_asks_57 : decode cX11_asks 57 = .ok (.iadd, 1) := by decide +kernel
theorem dX11_asks_58 : decode cX11_asks 58 = .ok (.iaload, 1) := by decide +kernel
theorem dX11_asks_59 : decode cX11_asks 59 = .ok (.iastore, 1) := by decide +kernel
theorem dX11_asks_60 : decode cX11_asks 60 = .ok (.aload_n 0, 1) := by decide +kernel
theorem dX11_asks_61 : decode cX11_asks 61 = .ok (.getfield 65, 3) := by decide +kernel
theorem dX11_asks_64 : decode cX11_asks 64 = .ok (.iconst 4, 1) := by decide +kernel
theorem dX11_asks_65 : decode cX11_asks 65 = .ok (.aload_n 0, 1) := by decide +kernel
theorem dX11_asks_66 : decode cX11_asks 66 = .ok (.getfield 7, 3) := by decide +kernel
theorem dX11_asks_69 : decode cX11_asks 69 = .ok (.bipush 87, 2) := by decide +kernel
theorem dX11_asks_71 : decode cX11_asks 71 = .ok (.iload_n 1, 1) := by decide +kernel
theorem dX11_asks_72 : decode cX11_asks 72 = .ok (.iadd, 1) := by decide +kernel
theorem dX11_asks_73 : decode cX11_asks 73 = .ok (.iaload, 1) := by decide +kernel
theorem dX11_asks_74 : decode cX11_asks 74 = .ok (.iastore, 1) := by decide +kernel
theorem dX11_asks_75 : decode cX11_asks 75 = .ok (.aload_n 0, 1) := by decide +kernel
theorem dX11_asks_76 : decode cX11_asks 76 = .ok (.getfield 65, 3) := by decide +kernel
theorem dX11_asks_79 : decode cX11_asks 79 = .ok (.iconst 5, 1) := by decide +kernel
theorem dX11_asks_80 : decode cX11_asks 80 = .ok (.iload_n 1, 1) := by decide +kernel
theorem dX11_asks_81 : decode cX11_asks 81 = .ok (.iastore, 1) := by decide +kernel
theorem dX11_asks_82 : decode cX11_asks 82 = .ok (.aload_n 0, 1) := by decide +kernel
theorem dX11_asks_83 : decode cX11_asks 83 = .ok (.getfield 65, 3) := by decide +kernel
theorem dX11_asks_86 : decode cX11_asks 86 = .ok (.bipush 6, 2) := by decide +kernel
theorem dX11_asks_88 : decode cX11_asks 88 = .ok (.aload_n 0, 1) := by decide +kernel
theorem dX11_asks_89 : decode cX11_asks 89 = .ok (.getfield 62, 3) := by decide +kernel
theorem dX11_asks_92 : decode cX11_asks 92 = .ok (.iload_n 1, 1) := by decide +kernel
theorem dX11_asks_93 : decode cX11_asks 93 = .ok (.iaload, 1) := by decide +kernel
theorem dX11_asks_94 : decode cX11_asks 94 = .ok (.iastore, 1) := by decide +kernel
theorem dX11_asks_95 : decode cX11_asks 95 = .ok (.aload_n 0, 1) := by decide +kernel
theorem dX11_asks_96 : decode cX11_asks 96 = .ok (.getfield 65, 3) := by decide +kernel
theorem dX11_asks_99 : decode cX11_asks 99 = .ok (.bipush 7, 2) := by decide +kernel
theorem dX11_asks_101 : decode cX11_asks 101 = .ok (.aload_n 0, 1) := by decide +kernel
theorem dX11_asks_102 : decode cX11_asks 102 = .ok (.getfield 7, 3) := by decide +kernel
theorem dX11_asks_105 : decode cX11_asks 105 = .ok (.bipush 6, 2) := by decide +kernel
theorem dX11_asks_107 : decode cX11_asks 107 = .ok (.iaload, 1) := by decide +kernel
theorem dX11_asks_108 : decode cX11_asks 108 = .ok (.iload_n 1, 1) := by decide +kernel
theorem dX11_asks_109 : decode cX11_asks 109 = .ok (.if_icmp .ne 7, 3) := by decide +kernel
theorem dX11_asks_112 : decode cX11_asks 112 = .ok (.iconst 1, 1) := by decide +kernel
theorem dX11_asks_113 : decode cX11_asks 113 = .ok (.goto 4, 3) := by decide +kernel
theorem dX11_asks_116 : decode cX11_asks 116 = .ok (.iconst 0, 1) := by decide +kernel
theorem dX11_asks_117 : decode cX11_asks 117 = .ok (.iastore, 1) := by decide +kernel
theorem dX11_asks_118 : decode cX11_asks 118 = .ok (.aload_n 0, 1) := by decide +kernel
theorem dX11_asks_119 : decode cX11_asks 119 = .ok (.getfield 65, 3) := by decide +kernel
theorem dX11_asks_122 : decode cX11_asks 122 = .ok (.bipush 8, 2) := by decide +kernel
theorem dX11_asks_124 : decode cX11_asks 124 = .ok (.aload_n 0, 1) := by decide +kernel
theorem dX11_asks_125 : decode cX11_asks 125 = .ok (.getfield 7, 3) := by decide +kernel
theorem dX11_asks_128 : decode cX11_asks 128 = .ok (.iconst 4, 1) := by decide +kernel
theorem dX11_asks_129 : decode cX11_asks 129 = .ok (.iaload, 1) := by decide +kernel
theorem dX11_asks_130 : decode cX11_asks 130 = .ok (.iastore, 1) := by decide +kernel
theorem dX11_asks_131 : decode cX11_asks 131 = .ok (.aload_n 0, 1) := by decide +kernel
theorem dX11_asks_132 : decode cX11_asks 132 = .ok (.getfield 65, 3) := by decide +kernel
theorem dX11_asks_135 : decode cX11_asks 135 = .ok (.bipush 9, 2) := by decide +kernel
theorem dX11_asks_137 : decode cX11_asks 137 = .ok (.aload_n 0, 1) := by decide +kernel
theorem dX11_asks_138 : decode cX11_asks 138 = .ok (.getfield 7, 3) := by decide +kernel
theorem dX11_asks_141 : decode cX11_asks 141 = .ok (.iconst 0, 1) := by decide +kernel
theorem dX11_asks_142 : decode cX11_asks 142 = .ok (.iaload, 1) := by decide +kernel
theorem dX11_asks_143 : decode cX11_asks 143 = .ok (.iastore, 1) := by decide +kernel
theorem dX11_asks_144 : decode cX11_asks 144 = .ok (.return_, 1) := by decide +kernel
theorem dX11_lawTells_0 : decode cX11_lawTells 0 = .ok (.aload_n 0, 1) := by decide +kernel
theorem dX11_lawTells_1 : decode cX11_lawTells 1 = .ok (.iload_n 1, 1) := by decide +kernel
theorem dX11_lawTells_2 : decode cX11_lawTells 2 = .ok (.invokevirtual 313, 3) := by decide +kernel
theorem dX11_lawTells_5 : decode cX11_lawTells 5 = .ok (.istore 4, 2) := by decide +kernel
theorem dX11_lawTells_7 : decode cX11_lawTells 7 = .ok (.aload_n 0, 1) := by decide +kernel
theorem dX11_lawTells_8 : decode cX11_lawTells 8 = .ok (.iload 4, 2) := by decide +kernel
theorem dX11_lawTells_10 : decode cX11_lawTells 10 = .ok (.iconst (-1), 1) := by decide +kernel
theorem dX11_lawTells_11 : decode cX11_lawTells 11 = .ok (.if_icmp .ne 7, 3) := by decide +kernel
theorem dX11_lawTells_14 : decode cX11_lawTells 14 = .ok (.iload_n 2, 1) := by decide +kernel
theorem dX11_lawTells_15 : decode cX11_lawTells 15 = .ok (.goto 22, 3) := by decide +kernel
theorem dX11_lawTells_18 : decode cX11_lawTells 18 = .ok (.aload_n 0, 1) := by decide +kernel
theorem dX11_lawTells_19 : decode cX11_lawTells 19 = .ok (.iconst 0, 1) := by decide +kernel
theorem dX11_lawTells_20 : decode cX11_lawTells 20 = .ok (.aload_n 0, 1) := by decide +kernel
theorem dX11_lawTells_21 : decode cX11_lawTells 21 = .ok (.getfield 34, 3) := by decide +kernel
theorem dX11_lawTells_24 : decode cX11_lawTells 24 = .ok (.iload 4, 2) := by decide +kernel
theorem dX11_lawTells_26 : decode cX11_lawTells 26 = .ok (.iaload, 1) := by decide +kernel
theorem dX11_lawTells_27 : decode cX11_lawTells 27 = .ok (.aload_n 0, 1) := by decide +kernel
theorem dX11_lawTells_28 : decode cX11_lawTells 28 = .ok (.getfield 37, 3) := by decide +kernel
theorem dX11_lawTells_31 : decode cX11_lawTells 31 = .ok (.iload 4, 2) := by decide +kernel
theorem dX11_lawTells_33 : decode cX11_lawTells 33 = .ok (.iaload, 1) := by decide +kernel
theorem dX11_lawTells_34 : decode cX11_lawTells 34 = .ok (.invokevirtual 310, 3) := by decide +kernel
theorem dX11_lawTells_37 : decode cX11_lawTells 37 = .ok (.iconst 0, 1) := by decide +kernel
theorem dX11_lawTells_38 : decode cX11_lawTells 38 = .ok (.iload_n 3, 1) := by decide +kernel
theorem dX11_lawTells_39 : decode cX11_lawTells 39 = .ok (.invokevirtual 316, 3) := by decide +kernel
theorem dX11_lawTells_42 : decode cX11_lawTells 42 = .ok (.ireturn, 1) := by decide +kernel
theorem dX11_goesOf_0 : decode cX11_goesOf 0 = .ok (.aload_n 0, 1) := by decide +kernel
theorem dX11_goesOf_1 : decode cX11_goesOf 1 = .ok (.iload_n 1, 1) := by decide +kernel
theorem dX11_goesOf_2 : decode cX11_goesOf 2 = .ok (.invokevirtual 319, 3) := by decide +kernel
theorem dX11_goesOf_5 : decode cX11_goesOf 5 = .ok (.aload_n 0, 1) := by decide +kernel
theorem dX11_goesOf_6 : decode cX11_goesOf 6 = .ok (.iconst 0, 1) := by decide +kernel
theorem dX11_goesOf_7 : decode cX11_goesOf 7 = .ok (.sipush 800, 3) := by decide +kernel
theorem dX11_goesOf_10 : decode cX11_goesOf 10 = .ok (.bipush 100, 2) := by decide +kernel
theorem dX11_goesOf_12 : decode cX11_goesOf 12 = .ok (.aload_n 0, 1) := by decide +kernel
theorem dX11_goesOf_13 : decode cX11_goesOf 13 = .ok (.getfield 65, 3) := by decide +kernel
theorem dX11_goesOf_16 : decode cX11_goesOf 16 = .ok (.bipush 8, 2) := by decide +kernel
theorem dX11_goesOf_18 : decode cX11_goesOf 18 = .ok (.iaload, 1) := by decide +kernel
theorem dX11_goesOf_19 : decode cX11_goesOf 19 = .ok (.imul, 1) := by decide +kernel
theorem dX11_goesOf_20 : decode cX11_goesOf 20 = .ok (.isub, 1) := by decide +kernel
theorem dX11_goesOf_21 : decode cX11_goesOf 21 = .ok (.sipush 1000, 3) := by decide +kernel
theorem dX11_goesOf_24 : decode cX11_goesOf 24 = .ok (.invokevirtual 322, 3) := by decide +kernel
theorem dX11_goesOf_27 : decode cX11_goesOf 27 = .ok (.ireturn, 1) := by decide +kernel
theorem dX11_bearsOf_0 : decode cX11_bearsOf 0 = .ok (.aload_n 0, 1) := by decide +kernel
theorem dX11_bearsOf_1 : decode cX11_bearsOf 1 = .ok (.iload_n 1, 1) := by decide +kernel
theorem dX11_bearsOf_2 : decode cX11_bearsOf 2 = .ok (.invokevirtual 319, 3) := by decide +kernel
theorem dX11_bearsOf_5 : decode cX11_bearsOf 5 = .ok (.aload_n 0, 1) := by decide +kernel
theorem dX11_bearsOf_6 : decode cX11_bearsOf 6 = .ok (.iconst 1, 1) := by decide +kernel
theorem dX11_bearsOf_7 : decode cX11_bearsOf 7 = .ok (.iconst 2, 1) := by decide +kernel
theorem dX11_bearsOf_8 : decode cX11_bearsOf 8 = .ok (.iconst 5, 1) := by decide +kernel
theorem dX11_bearsOf_9 : decode cX11_bearsOf 9 = .ok (.invokevirtual 322, 3) := by decide +kernel
theorem dX11_bearsOf_12 : decode cX11_bearsOf 12 = .ok (.ireturn, 1) := by decide +kernel
