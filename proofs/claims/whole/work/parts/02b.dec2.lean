theorem dX10_init_0 : decode cX10_init 0 = .ok (.aload_n 0, 1) := by decide +kernel
theorem dX10_init_1 : decode cX10_init 1 = .ok (.invokespecial 1, 3) := by decide +kernel
theorem dX10_init_4 : decode cX10_init 4 = .ok (.aload_n 0, 1) := by decide +kernel
theorem dX10_init_5 : decode cX10_init 5 = .ok (.new 7, 3) := by decide +kernel
theorem dX10_init_8 : decode cX10_init 8 = .ok (.dup, 1) := by decide +kernel
theorem dX10_init_9 : decode cX10_init 9 = .ok (.invokespecial 9, 3) := by decide +kernel
theorem dX10_init_12 : decode cX10_init 12 = .ok (.putfield 10, 3) := by decide +kernel
theorem dX10_init_15 : decode cX10_init 15 = .ok (.aload_n 0, 1) := by decide +kernel
theorem dX10_init_16 : decode cX10_init 16 = .ok (.new 16, 3) := by decide +kernel
theorem dX10_init_19 : decode cX10_init 19 = .ok (.dup, 1) := by decide +kernel
theorem dX10_init_20 : decode cX10_init 20 = .ok (.invokespecial 18, 3) := by decide +kernel
theorem dX10_init_23 : decode cX10_init 23 = .ok (.putfield 19, 3) := by decide +kernel
theorem dX10_init_26 : decode cX10_init 26 = .ok (.aload_n 0, 1) := by decide +kernel
theorem dX10_init_27 : decode cX10_init 27 = .ok (.sipush 600, 3) := by decide +kernel
theorem dX10_init_30 : decode cX10_init 30 = .ok (.newarray .int, 2) := by decide +kernel
theorem dX10_init_32 : decode cX10_init 32 = .ok (.putfield 23, 3) := by decide +kernel
theorem dX10_init_35 : decode cX10_init 35 = .ok (.aload_n 0, 1) := by decide +kernel
theorem dX10_init_36 : decode cX10_init 36 = .ok (.new 27, 3) := by decide +kernel
theorem dX10_init_39 : decode cX10_init 39 = .ok (.dup, 1) := by decide +kernel
theorem dX10_init_40 : decode cX10_init 40 = .ok (.invokespecial 29, 3) := by decide +kernel
theorem dX10_init_43 : decode cX10_init 43 = .ok (.putfield 30, 3) := by decide +kernel
theorem dX10_init_46 : decode cX10_init 46 = .ok (.aload_n 0, 1) := by decide +kernel
theorem dX10_init_47 : decode cX10_init 47 = .ok (.new 34, 3) := by decide +kernel
theorem dX10_init_50 : decode cX10_init 50 = .ok (.dup, 1) := by decide +kernel
theorem dX10_init_51 : decode cX10_init 51 = .ok (.invokespecial 36, 3) := by decide +kernel
theorem dX10_init_54 : decode cX10_init 54 = .ok (.putfield 37, 3) := by decide +kernel
theorem dX10_init_57 : decode cX10_init 57 = .ok (.aload_n 0, 1) := by decide +kernel
theorem dX10_init_58 : decode cX10_init 58 = .ok (.new 41, 3) := by decide +kernel
theorem dX10_init_61 : decode cX10_init 61 = .ok (.dup, 1) := by decide +kernel
theorem dX10_init_62 : decode cX10_init 62 = .ok (.invokespecial 43, 3) := by decide +kernel
theorem dX10_init_65 : decode cX10_init 65 = .ok (.putfield 44, 3) := by decide +kernel
theorem dX10_init_68 : decode cX10_init 68 = .ok (.aload_n 0, 1) := by decide +kernel
theorem dX10_init_69 : decode cX10_init 69 = .ok (.new 48, 3) := by decide +kernel
theorem dX10_init_72 : decode cX10_init 72 = .ok (.dup, 1) := by decide +kernel
theorem dX10_init_73 : decode cX10_init 73 = .ok (.aload_n 0, 1) := by decide +kernel
theorem dX10_init_74 : decode cX10_init 74 = .ok (.getfield 10, 3) := by decide +kernel
theorem dX10_init_77 : decode cX10_init 77 = .ok (.aload_n 0, 1) := by decide +kernel
theorem dX10_init_78 : decode cX10_init 78 = .ok (.getfield 19, 3) := by decide +kernel
theorem dX10_init_81 : decode cX10_init 81 = .ok (.aload_n 0, 1) := by decide +kernel
theorem dX10_init_82 : decode cX10_init 82 = .ok (.getfield 23, 3) := by decide +kernel
theorem dX10_init_85 : decode cX10_init 85 = .ok (.iconst 0, 1) := by decide +kernel
theorem dX10_init_86 : decode cX10_init 86 = .ok (.invokespecial 50, 3) := by decide +kernel
theorem dX10_init_89 : decode cX10_init 89 = .ok (.putfield 53, 3) := by decide +kernel
theorem dX10_init_92 : decode cX10_init 92 = .ok (.aload_n 0, 1) := by decide +kernel
theorem dX10_init_93 : decode cX10_init 93 = .ok (.new 7, 3) := by decide +kernel
theorem dX10_init_96 : decode cX10_init 96 = .ok (.dup, 1) := by decide +kernel
theorem dX10_init_97 : decode cX10_init 97 = .ok (.invokespecial 9, 3) := by decide +kernel
theorem dX10_init_100 : decode cX10_init 100 = .ok (.putfield 57, 3) := by decide +kernel
theorem dX10_init_103 : decode cX10_init 103 = .ok (.aload_n 0, 1) := by decide +kernel
theorem dX10_init_104 : decode cX10_init 104 = .ok (.new 48, 3) := by decide +kernel
theorem dX10_init_107 : decode cX10_init 107 = .ok (.dup, 1) := by decide +kernel
theorem dX10_init_108 : decode cX10_init 108 = .ok (.aload_n 0, 1) := by decide +kernel
theorem dX10_init_109 : decode cX10_init 109 = .ok (.getfield 57, 3) := by decide +kernel
theorem dX10_init_112 : decode cX10_init 112 = .ok (.aload_n 0, 1) := by decide +kernel
theorem dX10_init_113 : decode cX10_init 113 = .ok (.getfield 19, 3) := by decide +kernel
theorem dX10_init_116 : decode cX10_init 116 = .ok (.aload_n 0, 1) := by decide +kernel
theorem dX10_init_117 : decode cX10_init 117 = .ok (.getfield 23, 3) := by decide +kernel
theorem dX10_init_120 : decode cX10_init 120 = .ok (.iconst 1, 1) := by decide +kernel
theorem dX10_init_121 : decode cX10_init 121 = .ok (.invokespecial 50, 3) := by decide +kernel
theorem dX10_init_124 : decode cX10_init 124 = .ok (.putfield 60, 3) := by decide +kernel
theorem dX10_init_127 : decode cX10_init 127 = .ok (.aload_n 0, 1) := by decide +kernel
theorem dX10_init_128 : decode cX10_init 128 = .ok (.new 63, 3) := by decide +kernel
theorem dX10_init_131 : decode cX10_init 131 = .ok (.dup, 1) := by decide +kernel
theorem dX10_init_132 : decode cX10_init 132 = .ok (.aload_n 0, 1) := by decide +kernel
theorem dX10_init_133 : decode cX10_init 133 = .ok (.getfield 30, 3) := by decide +kernel
theorem dX10_init_136 : decode cX10_init 136 = .ok (.invokespecial 65, 3) := by decide +kernel
theorem dX10_init_139 : decode cX10_init 139 = .ok (.putfield 68, 3) := by decide +kernel
theorem dX10_init_142 : decode cX10_init 142 = .ok (.aload_n 0, 1) := by decide +kernel
theorem dX10_init_143 : decode cX10_init 143 = .ok (.aconst_null, 1) := by decide +kernel
theorem dX10_init_144 : decode cX10_init 144 = .ok (.putfield 72, 3) := by decide +kernel
theorem dX10_init_147 : decode cX10_init 147 = .ok (.return_, 1) := by decide +kernel
theorem dX10_state_0 : decode cX10_state 0 = .ok (.aload_n 0, 1) := by decide +kernel
theorem dX10_state_1 : decode cX10_state 1 = .ok (.getfield 10, 3) := by decide +kernel
theorem dX10_state_4 : decode cX10_state 4 = .ok (.getfield 76, 3) := by decide +kernel
theorem dX10_state_7 : decode cX10_state 7 = .ok (.istore_n 2, 1) := by decide +kernel
theorem dX10_state_8 : decode cX10_state 8 = .ok (.aload_n 0, 1) := by decide +kernel
theorem dX10_state_9 : decode cX10_state 9 = .ok (.getfield 10, 3) := by decide +kernel
theorem dX10_state_12 : decode cX10_state 12 = .ok (.iload_n 1, 1) := by decide +kernel
theorem dX10_state_13 : decode cX10_state 13 = .ok (.putfield 76, 3) := by decide +kernel
theorem dX10_state_16 : decode cX10_state 16 = .ok (.aload_n 0, 1) := by decide +kernel
theorem dX10_state_17 : decode cX10_state 17 = .ok (.getfield 37, 3) := by decide +kernel
theorem dX10_state_20 : decode cX10_state 20 = .ok (.invokevirtual 80, 3) := by decide +kernel
theorem dX10_state_23 : decode cX10_state 23 = .ok (.iload_n 2, 1) := by decide +kernel
theorem dX10_state_24 : decode cX10_state 24 = .ok (.ireturn, 1) := by decide +kernel
theorem dX10_house_0 : decode cX10_house 0 = .ok (.aload_n 0, 1) := by decide +kernel
theorem dX10_house_1 : decode cX10_house 1 = .ok (.getfield 10, 3) := by decide +kernel
theorem dX10_house_4 : decode cX10_house 4 = .ok (.iload_n 1, 1) := by decide +kernel
theorem dX10_house_5 : decode cX10_house 5 = .ok (.iload_n 2, 1) := by decide +kernel
theorem dX10_house_6 : decode cX10_house 6 = .ok (.iload_n 3, 1) := by decide +kernel
theorem dX10_house_7 : decode cX10_house 7 = .ok (.invokevirtual 83, 3) := by decide +kernel
theorem dX10_house_10 : decode cX10_house 10 = .ok (.istore 4, 2) := by decide +kernel
theorem dX10_house_12 : decode cX10_house 12 = .ok (.iload 4, 2) := by decide +kernel
theorem dX10_house_14 : decode cX10_house 14 = .ok (.iconst (-1), 1) := by decide +kernel
theorem dX10_house_15 : decode cX10_house 15 = .ok (.if_icmp .eq 10, 3) := by decide +kernel
theorem dX10_house_18 : decode cX10_house 18 = .ok (.aload_n 0, 1) := by decide +kernel
theorem dX10_house_19 : decode cX10_house 19 = .ok (.getfield 37, 3) := by decide +kernel
theorem dX10_house_22 : decode cX10_house 22 = .ok (.invokevirtual 80, 3) := by decide +kernel
theorem dX10_house_25 : decode cX10_house 25 = .ok (.iload 4, 2) := by decide +kernel
theorem dX10_house_27 : decode cX10_house 27 = .ok (.ireturn, 1) := by decide +kernel
theorem dX10_set_0 : decode cX10_set 0 = .ok (.aload_n 0, 1) := by decide +kernel
theorem dX10_set_1 : decode cX10_set 1 = .ok (.getfield 10, 3) := by decide +kernel
theorem dX10_set_4 : decode cX10_set 4 = .ok (.iload_n 2, 1) := by decide +kernel
theorem dX10_set_5 : decode cX10_set 5 = .ok (.invokevirtual 87, 3) := by decide +kernel
theorem dX10_set_8 : decode cX10_set 8 = .ok (.ifCond .eq 11, 3) := by decide +kernel
theorem dX10_set_11 : decode cX10_set 11 = .ok (.iload_n 1, 1) := by decide +kernel
theorem dX10_set_12 : decode cX10_set 12 = .ok (.iload_n 3, 1) := by decide +kernel
theorem dX10_set_13 : decode cX10_set 13 = .ok (.invokestatic 91, 3) := by decide +kernel
theorem dX10_set_16 : decode cX10_set 16 = .ok (.ifCond .ne 5, 3) := by decide +kernel
theorem dX10_set_19 : decode cX10_set 19 = .ok (.iconst 0, 1) := by decide +kernel
theorem dX10_set_20 : decode cX10_set 20 = .ok (.ireturn, 1) := by decide +kernel
theorem dX10_set_21 : decode cX10_set 21 = .ok (.aload_n 0, 1) := by decide +kernel
theorem dX10_set_22 : decode cX10_set 22 = .ok (.getfield 10, 3) := by decide +kernel
theorem dX10_set_25 : decode cX10_set 25 = .ok (.iload_n 2, 1) := by decide +kernel
theorem dX10_set_26 : decode cX10_set 26 = .ok (.iload_n 1, 1) := by decide +kernel
theorem dX10_set_27 : decode cX10_set 27 = .ok (.iload_n 3, 1) := by decide +kernel
theorem dX10_set_28 : decode cX10_set 28 = .ok (.invokevirtual 95, 3) := by decide +kernel
theorem dX10_set_31 : decode cX10_set 31 = .ok (.aload_n 0, 1) := by decide +kernel
theorem dX10_set_32 : decode cX10_set 32 = .ok (.getfield 37, 3) := by decide +kernel
theorem dX10_set_35 : decode cX10_set 35 = .ok (.invokevirtual 80, 3) := by decide +kernel
theorem dX10_set_38 : decode cX10_set 38 = .ok (.iconst 1, 1) := by decide +kernel
theorem dX10_set_39 : decode cX10_set 39 = .ok (.ireturn, 1) := by decide +kernel
theorem dX10_act_0 : decode cX10_act 0 = .ok (.aload_n 0, 1) := by decide +kernel
theorem dX10_act_1 : decode cX10_act 1 = .ok (.getfield 53, 3) := by decide +kernel
theorem dX10_act_4 : decode cX10_act 4 = .ok (.iload_n 1, 1) := by decide +kernel
theorem dX10_act_5 : decode cX10_act 5 = .ok (.iload_n 2, 1) := by decide +kernel
theorem dX10_act_6 : decode cX10_act 6 = .ok (.invokevirtual 99, 3) := by decide +kernel
theorem dX10_act_9 : decode cX10_act 9 = .ok (.ifCond .ne 5, 3) := by decide +kernel
theorem dX10_act_12 : decode cX10_act 12 = .ok (.iconst 0, 1) := by decide +kernel
theorem dX10_act_13 : decode cX10_act 13 = .ok (.ireturn, 1) := by decide +kernel
theorem dX10_act_14 : decode cX10_act 14 = .ok (.aload_n 0, 1) := by decide +kernel
theorem dX10_act_15 : decode cX10_act 15 = .ok (.getfield 37, 3) := by decide +kernel
theorem dX10_act_18 : decode cX10_act 18 = .ok (.aload_n 0, 1) := by decide +kernel
theorem dX10_act_19 : decode cX10_act 19 = .ok (.getfield 10, 3) := by decide +kernel
theorem dX10_act_22 : decode cX10_act 22 = .ok (.invokevirtual 102, 3) := by decide +kernel
theorem dX10_act_25 : decode cX10_act 25 = .ok (.aload_n 0, 1) := by decide +kernel
theorem dX10_act_26 : decode cX10_act 26 = .ok (.getfield 53, 3) := by decide +kernel
theorem dX10_act_29 : decode cX10_act 29 = .ok (.iload_n 1, 1) := by decide +kernel
theorem dX10_act_30 : decode cX10_act 30 = .ok (.iload_n 2, 1) := by decide +kernel
theorem dX10_act_31 : decode cX10_act 31 = .ok (.invokevirtual 106, 3) := by decide +kernel
theorem dX10_act_34 : decode cX10_act 34 = .ok (.iconst 1, 1) := by decide +kernel
theorem dX10_act_35 : decode cX10_act 35 = .ok (.ireturn, 1) := by decide +kernel
theorem dX10_years_0 : decode cX10_years 0 = .ok (.iload_n 1, 1) := by decide +kernel
theorem dX10_years_1 : decode cX10_years 1 = .ok (.iconst 1, 1) := by decide +kernel
theorem dX10_years_2 : decode cX10_years 2 = .ok (.if_icmp .lt 24, 3) := by decide +kernel
theorem dX10_years_5 : decode cX10_years 5 = .ok (.iload_n 1, 1) := by decide +kernel
theorem dX10_years_6 : decode cX10_years 6 = .ok (.bipush 60, 2) := by decide +kernel
theorem dX10_years_8 : decode cX10_years 8 = .ok (.if_icmp .gt 18, 3) := by decide +kernel
theorem dX10_years_11 : decode cX10_years 11 = .ok (.aload_n 0, 1) := by decide +kernel
theorem dX10_years_12 : decode cX10_years 12 = .ok (.getfield 10, 3) := by decide +kernel
theorem dX10_years_15 : decode cX10_years 15 = .ok (.getfield 110, 3) := by decide +kernel
theorem dX10_years_18 : decode cX10_years 18 = .ok (.iload_n 1, 1) := by decide +kernel
theorem dX10_years_19 : decode cX10_years 19 = .ok (.iadd, 1) := by decide +kernel
theorem dX10_years_20 : decode cX10_years 20 = .ok (.sipush 9999, 3) := by decide +kernel
theorem dX10_years_23 : decode cX10_years 23 = .ok (.if_icmp .le 5, 3) := by decide +kernel
theorem dX10_years_26 : decode cX10_years 26 = .ok (.iconst (-1), 1) := by decide +kernel
theorem dX10_years_27 : decode cX10_years 27 = .ok (.ireturn, 1) := by decide +kernel
theorem dX10_years_28 : decode cX10_years 28 = .ok (.aload_n 0, 1) := by decide +kernel
theorem dX10_years_29 : decode cX10_years 29 = .ok (.getfield 10, 3) := by decide +kernel
theorem dX10_years_32 : decode cX10_years 32 = .ok (.getfield 113, 3) := by decide +kernel
theorem dX10_years_35 : decode cX10_years 35 = .ok (.istore_n 2, 1) := by decide +kernel
theorem dX10_years_36 : decode cX10_years 36 = .ok (.iconst 0, 1) := by decide +kernel
theorem dX10_years_37 : decode cX10_years 37 = .ok (.istore_n 3, 1) := by decide +kernel
theorem dX10_years_38 : decode cX10_years 38 = .ok (.iload_n 3, 1) := by decide +kernel
theorem dX10_years_39 : decode cX10_years 39 = .ok (.iload_n 1, 1) := by decide +kernel
theorem dX10_years_40 : decode cX10_years 40 = .ok (.if_icmp .ge 27, 3) := by decide +kernel
theorem dX10_years_43 : decode cX10_years 43 = .ok (.aload_n 0, 1) := by decide +kernel
theorem dX10_years_44 : decode cX10_years 44 = .ok (.getfield 37, 3) := by decide +kernel
theorem dX10_years_47 : decode cX10_years 47 = .ok (.aload_n 0, 1) := by decide +kernel
theorem dX10_years_48 : decode cX10_years 48 = .ok (.getfield 10, 3) := by decide +kernel
theorem dX10_years_51 : decode cX10_years 51 = .ok (.invokevirtual 102, 3) := by decide +kernel
theorem dX10_years_54 : decode cX10_years 54 = .ok (.aload_n 0, 1) := by decide +kernel
theorem dX10_years_55 : decode cX10_years 55 = .ok (.getfield 53, 3) := by decide +kernel
theorem dX10_years_58 : decode cX10_years 58 = .ok (.invokevirtual 116, 3) := by decide +kernel
theorem dX10_years_61 : decode cX10_years 61 = .ok (.iinc 3 1, 3) := by decide +kernel
theorem dX10_years_64 : decode cX10_years 64 = .ok (.goto (-26), 3) := by decide +kernel
theorem dX10_years_67 : decode cX10_years 67 = .ok (.aload_n 0, 1) := by decide +kernel
theorem dX10_years_68 : decode cX10_years 68 = .ok (.getfield 10, 3) := by decide +kernel
theorem dX10_years_71 : decode cX10_years 71 = .ok (.getfield 113, 3) := by decide +kernel
theorem dX10_years_74 : decode cX10_years 74 = .ok (.iload_n 2, 1) := by decide +kernel
theorem dX10_years_75 : decode cX10_years 75 = .ok (.isub, 1) := by decide +kernel
theorem dX10_years_76 : decode cX10_years 76 = .ok (.ireturn, 1) := by decide +kernel
theorem dX10_feed_0 : decode cX10_feed 0 = .ok (.aload_n 0, 1) := by decide +kernel
theorem dX10_feed_1 : decode cX10_feed 1 = .ok (.getfield 44, 3) := by decide +kernel
theorem dX10_feed_4 : decode cX10_feed 4 = .ok (.bipush 20, 2) := by decide +kernel
theorem dX10_feed_6 : decode cX10_feed 6 = .ok (.invokevirtual 119, 3) := by decide +kernel
theorem dX10_feed_9 : decode cX10_feed 9 = .ok (.ifCond .ne 5, 3) := by decide +kernel
theorem dX10_feed_12 : decode cX10_feed 12 = .ok (.iconst (-1), 1) := by decide +kernel
theorem dX10_feed_13 : decode cX10_feed 13 = .ok (.ireturn, 1) := by decide +kernel
theorem dX10_feed_14 : decode cX10_feed 14 = .ok (.aload_n 0, 1) := by decide +kernel
theorem dX10_feed_15 : decode cX10_feed 15 = .ok (.getfield 44, 3) := by decide +kernel
theorem dX10_feed_18 : decode cX10_feed 18 = .ok (.iload_n 1, 1) := by decide +kernel
theorem dX10_feed_19 : decode cX10_feed 19 = .ok (.invokevirtual 122, 3) := by decide +kernel
theorem dX10_feed_22 : decode cX10_feed 22 = .ok (.pop, 1) := by decide +kernel
theorem dX10_feed_23 : decode cX10_feed 23 = .ok (.aload_n 0, 1) := by decide +kernel
theorem dX10_feed_24 : decode cX10_feed 24 = .ok (.getfield 44, 3) := by decide +kernel
theorem dX10_feed_27 : decode cX10_feed 27 = .ok (.iload_n 2, 1) := by decide +kernel
theorem dX10_feed_28 : decode cX10_feed 28 = .ok (.invokevirtual 122, 3) := by decide +kernel
theorem dX10_feed_31 : decode cX10_feed 31 = .ok (.pop, 1) := by decide +kernel
theorem dX10_feed_32 : decode cX10_feed 32 = .ok (.aload_n 0, 1) := by decide +kernel
theorem dX10_feed_33 : decode cX10_feed 33 = .ok (.getfield 44, 3) := by decide +kernel
theorem dX10_feed_36 : decode cX10_feed 36 = .ok (.iload_n 3, 1) := by decide +kernel
theorem dX10_feed_37 : decode cX10_feed 37 = .ok (.invokevirtual 122, 3) := by decide +kernel
theorem dX10_feed_40 : decode cX10_feed 40 = .ok (.pop, 1) := by decide +kernel
theorem dX10_feed_41 : decode cX10_feed 41 = .ok (.aload_n 0, 1) := by decide +kernel
theorem dX10_feed_42 : decode cX10_feed 42 = .ok (.getfield 44, 3) := by decide +kernel
theorem dX10_feed_45 : decode cX10_feed 45 = .ok (.iload 4, 2) := by decide +kernel
theorem dX10_feed_47 : decode cX10_feed 47 = .ok (.invokevirtual 122, 3) := by decide +kernel
theorem dX10_feed_50 : decode cX10_feed 50 = .ok (.pop, 1) := by decide +kernel
theorem dX10_feed_51 : decode cX10_feed 51 = .ok (.aload_n 0, 1) := by decide +kernel
theorem dX10_feed_52 : decode cX10_feed 52 = .ok (.getfield 44, 3) := by decide +kernel
theorem dX10_feed_55 : decode cX10_feed 55 = .ok (.iload 5, 2) := by decide +kernel
theorem dX10_feed_57 : decode cX10_feed 57 = .ok (.invokevirtual 122, 3) := by decide +kernel
theorem dX10_feed_60 : decode cX10_feed 60 = .ok (.ireturn, 1) := by decide +kernel
theorem dX10_end_0 : decode cX10_end 0 = .ok (.aload_n 0, 1) := by decide +kernel
theorem dX10_end_1 : decode cX10_end 1 = .ok (.getfield 44, 3) := by decide +kernel
theorem dX10_end_4 : decode cX10_end 4 = .ok (.iload_n 1, 1) := by decide +kernel
theorem dX10_end_5 : decode cX10_end 5 = .ok (.invokevirtual 126, 3) := by decide +kernel
theorem dX10_end_8 : decode cX10_end 8 = .ok (.ireturn, 1) := by decide +kernel
theorem dX10_text_0 : decode cX10_text 0 = .ok (.aload_n 0, 1) := by decide +kernel
theorem dX10_text_1 : decode cX10_text 1 = .ok (.getfield 44, 3) := by decide +kernel
theorem dX10_text_4 : decode cX10_text 4 = .ok (.iload_n 1, 1) := by decide +kernel
theorem dX10_text_5 : decode cX10_text 5 = .ok (.aload_n 0, 1) := by decide +kernel
theorem dX10_text_6 : decode cX10_text 6 = .ok (.getfield 10, 3) := by decide +kernel
theorem dX10_text_9 : decode cX10_text 9 = .ok (.getfield 129, 3) := by decide +kernel
theorem dX10_text_12 : decode cX10_text 12 = .ok (.invokevirtual 132, 3) := by decide +kernel
theorem dX10_text_15 : decode cX10_text 15 = .ok (.istore_n 2, 1) := by decide +kernel
theorem dX10_text_16 : decode cX10_text 16 = .ok (.iload_n 2, 1) := by decide +kernel
theorem dX10_text_17 : decode cX10_text 17 = .ok (.iconst (-1), 1) := by decide +kernel
theorem dX10_text_18 : decode cX10_text 18 = .ok (.if_icmp .eq 29, 3) := by decide +kernel
theorem dX10_text_21 : decode cX10_text 21 = .ok (.aload_n 0, 1) := by decide +kernel
theorem dX10_text_22 : decode cX10_text 22 = .ok (.getfield 19, 3) := by decide +kernel
theorem dX10_text_25 : decode cX10_text 25 = .ok (.iload_n 1, 1) := by decide +kernel
theorem dX10_text_26 : decode cX10_text 26 = .ok (.aload_n 0, 1) := by decide +kernel
theorem dX10_text_27 : decode cX10_text 27 = .ok (.getfield 44, 3) := by decide +kernel
theorem dX10_text_30 : decode cX10_text 30 = .ok (.getfield 136, 3) := by decide +kernel
theorem dX10_text_33 : decode cX10_text 33 = .ok (.invokevirtual 139, 3) := by decide +kernel
theorem dX10_text_36 : decode cX10_text 36 = .ok (.iload_n 1, 1) := by decide +kernel
theorem dX10_text_37 : decode cX10_text 37 = .ok (.ifCond .eq 10, 3) := by decide +kernel
theorem dX10_text_40 : decode cX10_text 40 = .ok (.aload_n 0, 1) := by decide +kernel
theorem dX10_text_41 : decode cX10_text 41 = .ok (.getfield 37, 3) := by decide +kernel
theorem dX10_text_44 : decode cX10_text 44 = .ok (.invokevirtual 80, 3) := by decide +kernel
theorem dX10_text_47 : decode cX10_text 47 = .ok (.iload_n 2, 1) := by decide +kernel
theorem dX10_text_48 : decode cX10_text 48 = .ok (.ireturn, 1) := by decide +kernel
theorem dX10_fault_0 : decode cX10_fault 0 = .ok (.iload_n 1, 1) := by decide +kernel
theorem dX10_fault_1 : decode cX10_fault 1 = .ok (.lookupswitch 43 #[(0, 27), (1, 35)], 27) := by decide +kernel
theorem dX10_fault_28 : decode cX10_fault 28 = .ok (.aload_n 0, 1) := by decide +kernel
theorem dX10_fault_29 : decode cX10_fault 29 = .ok (.getfield 44, 3) := by decide +kernel
theorem dX10_fault_32 : decode cX10_fault 32 = .ok (.getfield 142, 3) := by decide +kernel
theorem dX10_fault_35 : decode cX10_fault 35 = .ok (.ireturn, 1) := by decide +kernel
theorem dX10_fault_36 : decode cX10_fault 36 = .ok (.aload_n 0, 1) := by decide +kernel
theorem dX10_fault_37 : decode cX10_fault 37 = .ok (.getfield 44, 3) := by decide +kernel
theorem dX10_fault_40 : decode cX10_fault 40 = .ok (.getfield 145, 3) := by decide +kernel
theorem dX10_fault_43 : decode cX10_fault 43 = .ok (.ireturn, 1) := by decide +kernel
theorem dX10_fault_44 : decode cX10_fault 44 = .ok (.iconst (-1), 1) := by decide +kernel
theorem dX10_fault_45 : decode cX10_fault 45 = .ok (.ireturn, 1) := by decide +kernel
theorem dX10_of_0 : decode cX10_of 0 = .ok (.aload_n 0, 1) := by decide +kernel
theorem dX10_of_1 : decode cX10_of 1 = .ok (.getfield 10, 3) := by decide +kernel
theorem dX10_of_4 : decode cX10_of 4 = .ok (.iload_n 1, 1) := by decide +kernel
theorem dX10_of_5 : decode cX10_of 5 = .ok (.invokevirtual 87, 3) := by decide +kernel
theorem dX10_of_8 : decode cX10_of 8 = .ok (.ifCond .ne 6, 3) := by decide +kernel
theorem dX10_of_11 : decode cX10_of 11 = .ok (.bipush (-2), 2) := by decide +kernel
theorem dX10_of_13 : decode cX10_of 13 = .ok (.ireturn, 1) := by decide +kernel
theorem dX10_of_14 : decode cX10_of 14 = .ok (.iload_n 2, 1) := by decide +kernel
theorem dX10_of_15 : decode cX10_of 15 = .ok (.tableswitch 128 0 11 #[61, 61, 61, 61, 61, 61, 71, 80, 89, 99, 109, 119], 61) := by decide +kernel
theorem dX10_of_76 : decode cX10_of 76 = .ok (.aload_n 0, 1) := by decide +kernel
theorem dX10_of_77 : decode cX10_of 77 = .ok (.getfield 10, 3) := by decide +kernel
theorem dX10_of_80 : decode cX10_of 80 = .ok (.iload_n 1, 1) := by decide +kernel
theorem dX10_of_81 : decode cX10_of 81 = .ok (.iload_n 2, 1) := by decide +kernel
theorem dX10_of_82 : decode cX10_of 82 = .ok (.invokevirtual 148, 3) := by decide +kernel
theorem dX10_of_85 : decode cX10_of 85 = .ok (.ireturn, 1) := by decide +kernel
theorem dX10_of_86 : decode cX10_of 86 = .ok (.aload_n 0, 1) := by decide +kernel
theorem dX10_of_87 : decode cX10_of 87 = .ok (.getfield 19, 3) := by decide +kernel
theorem dX10_of_90 : decode cX10_of 90 = .ok (.iload_n 1, 1) := by decide +kernel
theorem dX10_of_91 : decode cX10_of 91 = .ok (.invokevirtual 151, 3) := by decide +kernel
theorem dX10_of_94 : decode cX10_of 94 = .ok (.ireturn, 1) := by decide +kernel
theorem dX10_of_95 : decode cX10_of 95 = .ok (.aload_n 0, 1) := by decide +kernel
theorem dX10_of_96 : decode cX10_of 96 = .ok (.getfield 53, 3) := by decide +kernel
theorem dX10_of_99 : decode cX10_of 99 = .ok (.iload_n 1, 1) := by decide +kernel
theorem dX10_of_100 : decode cX10_of 100 = .ok (.invokevirtual 154, 3) := by decide +kernel
theorem dX10_of_103 : decode cX10_of 103 = .ok (.ireturn, 1) := by decide +kernel
theorem dX10_of_104 : decode cX10_of 104 = .ok (.aload_n 0, 1) := by decide +kernel
theorem dX10_of_105 : decode cX10_of 105 = .ok (.getfield 53, 3) := by decide +kernel
theorem dX10_of_108 : decode cX10_of 108 = .ok (.iconst 0, 1) := by decide +kernel
theorem dX10_of_109 : decode cX10_of 109 = .ok (.iload_n 1, 1) := by decide +kernel
theorem dX10_of_110 : decode cX10_of 110 = .ok (.invokevirtual 157, 3) := by decide +kernel
theorem dX10_of_113 : decode cX10_of 113 = .ok (.ireturn, 1) := by decide +kernel
theorem dX10_of_114 : decode cX10_of 114 = .ok (.aload_n 0, 1) := by decide +kernel
theorem dX10_of_115 : decode cX10_of 115 = .ok (.getfield 53, 3) := by decide +kernel
theorem dX10_of_118 : decode cX10_of 118 = .ok (.iconst 1, 1) := by decide +kernel
theorem dX10_of_119 : decode cX10_of 119 = .ok (.iload_n 1, 1) := by decide +kernel
theorem dX10_of_120 : decode cX10_of 120 = .ok (.invokevirtual 157, 3) := by decide +kernel
theorem dX10_of_123 : decode cX10_of 123 = .ok (.ireturn, 1) := by decide +kernel
theorem dX10_of_124 : decode cX10_of 124 = .ok (.aload_n 0, 1) := by decide +kernel
theorem dX10_of_125 : decode cX10_of 125 = .ok (.getfield 53, 3) := by decide +kernel
theorem dX10_of_128 : decode cX10_of 128 = .ok (.iconst 2, 1) := by decide +kernel
theorem dX10_of_129 : decode cX10_of 129 = .ok (.iload_n 1, 1) := by decide +kernel
theorem dX10_of_130 : decode cX10_of 130 = .ok (.invokevirtual 157, 3) := by decide +kernel
theorem dX10_of_133 : decode cX10_of 133 = .ok (.ireturn, 1) := by decide +kernel
theorem dX10_of_134 : decode cX10_of 134 = .ok (.aload_n 0, 1) := by decide +kernel
theorem dX10_of_135 : decode cX10_of 135 = .ok (.getfield 19, 3) := by decide +kernel
theorem dX10_of_138 : decode cX10_of 138 = .ok (.iload_n 1, 1) := by decide +kernel
theorem dX10_of_139 : decode cX10_of 139 = .ok (.invokevirtual 160, 3) := by decide +kernel
theorem dX10_of_142 : decode cX10_of 142 = .ok (.ireturn, 1) := by decide +kernel
theorem dX10_of_143 : decode cX10_of 143 = .ok (.bipush (-2), 2) := by decide +kernel
theorem dX10_of_145 : decode cX10_of 145 = .ok (.ireturn, 1) := by decide +kernel
theorem dX10_book_0 : decode cX10_book 0 = .ok (.iload_n 1, 1) := by decide +kernel
theorem dX10_book_1 : decode cX10_book 1 = .ok (.ifCond .lt 23, 3) := by decide +kernel
theorem dX10_book_4 : decode cX10_book 4 = .ok (.iload_n 1, 1) := by decide +kernel
theorem dX10_book_5 : decode cX10_book 5 = .ok (.aload_n 0, 1) := by decide +kernel
theorem dX10_book_6 : decode cX10_book 6 = .ok (.getfield 10, 3) := by decide +kernel
theorem dX10_book_9 : decode cX10_book 9 = .ok (.getfield 163, 3) := by decide +kernel
theorem dX10_book_12 : decode cX10_book 12 = .ok (.if_icmp .ge 12, 3) := by decide +kernel
theorem dX10_book_15 : decode cX10_book 15 = .ok (.iload_n 2, 1) := by decide +kernel
theorem dX10_book_16 : decode cX10_book 16 = .ok (.ifCond .lt 8, 3) := by decide +kernel
theorem dX10_book_19 : decode cX10_book 19 = .ok (.iload_n 2, 1) := by decide +kernel
theorem dX10_book_20 : decode cX10_book 20 = .ok (.iconst 4, 1) := by decide +kernel
theorem dX10_book_21 : decode cX10_book 21 = .ok (.if_icmp .lt 5, 3) := by decide +kernel
theorem dX10_book_24 : decode cX10_book 24 = .ok (.iconst (-1), 1) := by decide +kernel
theorem dX10_book_25 : decode cX10_book 25 = .ok (.ireturn, 1) := by decide +kernel
theorem dX10_book_26 : decode cX10_book 26 = .ok (.aload_n 0, 1) := by decide +kernel
theorem dX10_book_27 : decode cX10_book 27 = .ok (.getfield 23, 3) := by decide +kernel
theorem dX10_book_30 : decode cX10_book 30 = .ok (.iload_n 1, 1) := by decide +kernel
theorem dX10_book_31 : decode cX10_book 31 = .ok (.iconst 4, 1) := by decide +kernel
theorem dX10_book_32 : decode cX10_book 32 = .ok (.imul, 1) := by decide +kernel
theorem dX10_book_33 : decode cX10_book 33 = .ok (.iload_n 2, 1) := by decide +kernel
theorem dX10_book_34 : decode cX10_book 34 = .ok (.iadd, 1) := by decide +kernel
theorem dX10_book_35 : decode cX10_book 35 = .ok (.iaload, 1) := by decide +kernel
theorem dX10_book_36 : decode cX10_book 36 = .ok (.ireturn, 1) := by decide +kernel
theorem dX10_goes_0 : decode cX10_goes 0 = .ok (.iload_n 1, 1) := by decide +kernel
theorem dX10_goes_1 : decode cX10_goes 1 = .ok (.iconst 1, 1) := by decide +kernel
theorem dX10_goes_2 : decode cX10_goes 2 = .ok (.if_icmp .lt 18, 3) := by decide +kernel
theorem dX10_goes_5 : decode cX10_goes 5 = .ok (.iload_n 1, 1) := by decide +kernel
theorem dX10_goes_6 : decode cX10_goes 6 = .ok (.bipush 60, 2) := by decide +kernel
theorem dX10_goes_8 : decode cX10_goes 8 = .ok (.if_icmp .gt 12, 3) := by decide +kernel
theorem dX10_goes_11 : decode cX10_goes 11 = .ok (.iload_n 2, 1) := by decide +kernel
theorem dX10_goes_12 : decode cX10_goes 12 = .ok (.ifCond .lt 8, 3) := by decide +kernel
theorem dX10_goes_15 : decode cX10_goes 15 = .ok (.iload_n 2, 1) := by decide +kernel
theorem dX10_goes_16 : decode cX10_goes 16 = .ok (.iconst 3, 1) := by decide +kernel
theorem dX10_goes_17 : decode cX10_goes 17 = .ok (.if_icmp .le 5, 3) := by decide +kernel
theorem dX10_goes_20 : decode cX10_goes 20 = .ok (.iconst (-1), 1) := by decide +kernel
theorem dX10_goes_21 : decode cX10_goes 21 = .ok (.ireturn, 1) := by decide +kernel
theorem dX10_goes_22 : decode cX10_goes 22 = .ok (.aload_n 0, 1) := by decide +kernel
theorem dX10_goes_23 : decode cX10_goes 23 = .ok (.getfield 57, 3) := by decide +kernel
theorem dX10_goes_26 : decode cX10_goes 26 = .ok (.aload_n 0, 1) := by decide +kernel
theorem dX10_goes_27 : decode cX10_goes 27 = .ok (.getfield 10, 3) := by decide +kernel
theorem dX10_goes_30 : decode cX10_goes 30 = .ok (.invokevirtual 166, 3) := by decide +kernel
theorem dX10_goes_33 : decode cX10_goes 33 = .ok (.iconst 0, 1) := by decide +kernel
theorem dX10_goes_34 : decode cX10_goes 34 = .ok (.istore_n 3, 1) := by decide +kernel
theorem dX10_goes_35 : decode cX10_goes 35 = .ok (.iload_n 3, 1) := by decide +kernel
theorem dX10_goes_36 : decode cX10_goes 36 = .ok (.iload_n 1, 1) := by decide +kernel
theorem dX10_goes_37 : decode cX10_goes 37 = .ok (.if_icmp .ge 16, 3) := by decide +kernel
theorem dX10_goes_40 : decode cX10_goes 40 = .ok (.aload_n 0, 1) := by decide +kernel
theorem dX10_goes_41 : decode cX10_goes 41 = .ok (.getfield 60, 3) := by decide +kernel
theorem dX10_goes_44 : decode cX10_goes 44 = .ok (.invokevirtual 116, 3) := by decide +kernel
theorem dX10_goes_47 : decode cX10_goes 47 = .ok (.iinc 3 1, 3) := by decide +kernel
theorem dX10_goes_50 : decode cX10_goes 50 = .ok (.goto (-15), 3) := by decide +kernel
theorem dX10_goes_53 : decode cX10_goes 53 = .ok (.iload_n 2, 1) := by decide +kernel
theorem dX10_goes_54 : decode cX10_goes 54 = .ok (.tableswitch 50 0 2 #[26, 34, 42], 26) := by decide +kernel
theorem dX10_goes_80 : decode cX10_goes 80 = .ok (.aload_n 0, 1) := by decide +kernel
theorem dX10_goes_81 : decode cX10_goes 81 = .ok (.getfield 57, 3) := by decide +kernel
theorem dX10_goes_84 : decode cX10_goes 84 = .ok (.getfield 113, 3) := by decide +kernel
theorem dX10_goes_87 : decode cX10_goes 87 = .ok (.ireturn, 1) := by decide +kernel
theorem dX10_goes_88 : decode cX10_goes 88 = .ok (.aload_n 0, 1) := by decide +kernel
theorem dX10_goes_89 : decode cX10_goes 89 = .ok (.getfield 57, 3) := by decide +kernel
theorem dX10_goes_92 : decode cX10_goes 92 = .ok (.getfield 169, 3) := by decide +kernel
theorem dX10_goes_95 : decode cX10_goes 95 = .ok (.ireturn, 1) := by decide +kernel
theorem dX10_goes_96 : decode cX10_goes 96 = .ok (.aload_n 0, 1) := by decide +kernel
theorem dX10_goes_97 : decode cX10_goes 97 = .ok (.getfield 57, 3) := by decide +kernel
theorem dX10_goes_100 : decode cX10_goes 100 = .ok (.getfield 172, 3) := by decide +kernel
theorem dX10_goes_103 : decode cX10_goes 103 = .ok (.ireturn, 1) := by decide +kernel
theorem dX10_goes_104 : decode cX10_goes 104 = .ok (.aload_n 0, 1) := by decide +kernel
theorem dX10_goes_105 : decode cX10_goes 105 = .ok (.getfield 57, 3) := by decide +kernel
theorem dX10_goes_108 : decode cX10_goes 108 = .ok (.invokevirtual 175, 3) := by decide +kernel
theorem dX10_goes_111 : decode cX10_goes 111 = .ok (.ireturn, 1) := by decide +kernel
theorem dX10_jug_0 : decode cX10_jug 0 = .ok (.aload_n 0, 1) := by decide +kernel
theorem dX10_jug_1 : decode cX10_jug 1 = .ok (.getfield 10, 3) := by decide +kernel
theorem dX10_jug_4 : decode cX10_jug 4 = .ok (.iload_n 1, 1) := by decide +kernel
theorem dX10_jug_5 : decode cX10_jug 5 = .ok (.invokevirtual 87, 3) := by decide +kernel
theorem dX10_jug_8 : decode cX10_jug 8 = .ok (.ifCond .ne 5, 3) := by decide +kernel
theorem dX10_jug_11 : decode cX10_jug 11 = .ok (.iconst (-1), 1) := by decide +kernel
theorem dX10_jug_12 : decode cX10_jug 12 = .ok (.ireturn, 1) := by decide +kernel
theorem dX10_jug_13 : decode cX10_jug 13 = .ok (.aload_n 0, 1) := by decide +kernel
theorem dX10_jug_14 : decode cX10_jug 14 = .ok (.getfield 57, 3) := by decide +kernel
theorem dX10_jug_17 : decode cX10_jug 17 = .ok (.aload_n 0, 1) := by decide +kernel
theorem dX10_jug_18 : decode cX10_jug 18 = .ok (.getfield 10, 3) := by decide +kernel
theorem dX10_jug_21 : decode cX10_jug 21 = .ok (.invokevirtual 166, 3) := by decide +kernel
theorem dX10_jug_24 : decode cX10_jug 24 = .ok (.iconst 0, 1) := by decide +kernel
theorem dX10_jug_25 : decode cX10_jug 25 = .ok (.istore_n 2, 1) := by decide +kernel
theorem dX10_jug_26 : decode cX10_jug 26 = .ok (.iload_n 2, 1) := by decide +kernel
theorem dX10_jug_27 : decode cX10_jug 27 = .ok (.bipush 60, 2) := by decide +kernel
theorem dX10_jug_29 : decode cX10_jug 29 = .ok (.if_icmp .ge 27, 3) := by decide +kernel
theorem dX10_jug_32 : decode cX10_jug 32 = .ok (.aload_n 0, 1) := by decide +kernel
theorem dX10_jug_33 : decode cX10_jug 33 = .ok (.getfield 57, 3) := by decide +kernel
theorem dX10_jug_36 : decode cX10_jug 36 = .ok (.getfield 179, 3) := by decide +kernel
theorem dX10_jug_39 : decode cX10_jug 39 = .ok (.iload_n 1, 1) := by decide +kernel
theorem dX10_jug_40 : decode cX10_jug 40 = .ok (.if_icmp .eq 16, 3) := by decide +kernel
theorem dX10_jug_43 : decode cX10_jug 43 = .ok (.aload_n 0, 1) := by decide +kernel
theorem dX10_jug_44 : decode cX10_jug 44 = .ok (.getfield 60, 3) := by decide +kernel
theorem dX10_jug_47 : decode cX10_jug 47 = .ok (.invokevirtual 116, 3) := by decide +kernel
theorem dX10_jug_50 : decode cX10_jug 50 = .ok (.iinc 2 1, 3) := by decide +kernel
theorem dX10_jug_53 : decode cX10_jug 53 = .ok (.goto (-27), 3) := by decide +kernel
theorem dX10_jug_56 : decode cX10_jug 56 = .ok (.aload_n 0, 1) := by decide +kernel
theorem dX10_jug_57 : decode cX10_jug 57 = .ok (.getfield 57, 3) := by decide +kernel
theorem dX10_jug_60 : decode cX10_jug 60 = .ok (.getfield 179, 3) := by decide +kernel
theorem dX10_jug_63 : decode cX10_jug 63 = .ok (.iload_n 1, 1) := by decide +kernel
theorem dX10_jug_64 : decode cX10_jug 64 = .ok (.if_icmp .ne 21, 3) := by decide +kernel
theorem dX10_jug_67 : decode cX10_jug 67 = .ok (.aload_n 0, 1) := by decide +kernel
theorem dX10_jug_68 : decode cX10_jug 68 = .ok (.getfield 57, 3) := by decide +kernel
theorem dX10_jug_71 : decode cX10_jug 71 = .ok (.getfield 110, 3) := by decide +kernel
theorem dX10_jug_74 : decode cX10_jug 74 = .ok (.aload_n 0, 1) := by decide +kernel
theorem dX10_jug_75 : decode cX10_jug 75 = .ok (.getfield 10, 3) := by decide +kernel
theorem dX10_jug_78 : decode cX10_jug 78 = .ok (.getfield 110, 3) := by decide +kernel
theorem dX10_jug_81 : decode cX10_jug 81 = .ok (.isub, 1) := by decide +kernel
theorem dX10_jug_82 : decode cX10_jug 82 = .ok (.goto 4, 3) := by decide +kernel
theorem dX10_jug_85 : decode cX10_jug 85 = .ok (.iconst (-1), 1) := by decide +kernel
theorem dX10_jug_86 : decode cX10_jug 86 = .ok (.ireturn, 1) := by decide +kernel
theorem dX10_meets_0 : decode cX10_meets 0 = .ok (.iload_n 3, 1) := by decide +kernel
theorem dX10_meets_1 : decode cX10_meets 1 = .ok (.sipush 1000, 3) := by decide +kernel
theorem dX10_meets_4 : decode cX10_meets 4 = .ok (.idiv, 1) := by decide +kernel
theorem dX10_meets_5 : decode cX10_meets 5 = .ok (.istore 5, 2) := by decide +kernel
theorem dX10_meets_7 : decode cX10_meets 7 = .ok (.iload_n 3, 1) := by decide +kernel
theorem dX10_meets_8 : decode cX10_meets 8 = .ok (.sipush 1000, 3) := by decide +kernel
theorem dX10_meets_11 : decode cX10_meets 11 = .ok (.irem, 1) := by decide +kernel
theorem dX10_meets_12 : decode cX10_meets 12 = .ok (.istore 6, 2) := by decide +kernel
theorem dX10_meets_14 : decode cX10_meets 14 = .ok (.iload_n 1, 1) := by decide +kernel
theorem dX10_meets_15 : decode cX10_meets 15 = .ok (.iconst 2, 1) := by decide +kernel
theorem dX10_meets_16 : decode cX10_meets 16 = .ok (.if_icmp .lt 41, 3) := by decide +kernel
theorem dX10_meets_19 : decode cX10_meets 19 = .ok (.iload_n 1, 1) := by decide +kernel
theorem dX10_meets_20 : decode cX10_meets 20 = .ok (.sipush 500, 3) := by decide +kernel
theorem dX10_meets_23 : decode cX10_meets 23 = .ok (.if_icmp .gt 34, 3) := by decide +kernel
theorem dX10_meets_26 : decode cX10_meets 26 = .ok (.iload_n 2, 1) := by decide +kernel
theorem dX10_meets_27 : decode cX10_meets 27 = .ok (.iconst 1, 1) := by decide +kernel
theorem dX10_meets_28 : decode cX10_meets 28 = .ok (.if_icmp .lt 29, 3) := by decide +kernel
theorem dX10_meets_31 : decode cX10_meets 31 = .ok (.iload_n 2, 1) := by decide +kernel
theorem dX10_meets_32 : decode cX10_meets 32 = .ok (.bipush 9, 2) := by decide +kernel
theorem dX10_meets_34 : decode cX10_meets 34 = .ok (.if_icmp .gt 23, 3) := by decide +kernel
theorem dX10_meets_37 : decode cX10_meets 37 = .ok (.iload_n 3, 1) := by decide +kernel
theorem dX10_meets_38 : decode cX10_meets 38 = .ok (.ifCond .lt 19, 3) := by decide +kernel
theorem dX10_meets_41 : decode cX10_meets 41 = .ok (.iload 5, 2) := by decide +kernel
theorem dX10_meets_43 : decode cX10_meets 43 = .ok (.iload_n 1, 1) := by decide +kernel
theorem dX10_meets_44 : decode cX10_meets 44 = .ok (.if_icmp .ge 13, 3) := by decide +kernel
theorem dX10_meets_47 : decode cX10_meets 47 = .ok (.iload 6, 2) := by decide +kernel
theorem dX10_meets_49 : decode cX10_meets 49 = .ok (.iload_n 1, 1) := by decide +kernel
theorem dX10_meets_50 : decode cX10_meets 50 = .ok (.if_icmp .ge 7, 3) := by decide +kernel
theorem dX10_meets_53 : decode cX10_meets 53 = .ok (.iconst 1, 1) := by decide +kernel
theorem dX10_meets_54 : decode cX10_meets 54 = .ok (.goto 4, 3) := by decide +kernel
theorem dX10_meets_57 : decode cX10_meets 57 = .ok (.iconst 0, 1) := by decide +kernel
theorem dX10_meets_58 : decode cX10_meets 58 = .ok (.istore 7, 2) := by decide +kernel
theorem dX10_meets_60 : decode cX10_meets 60 = .ok (.iload 7, 2) := by decide +kernel
theorem dX10_meets_62 : decode cX10_meets 62 = .ok (.ifCond .eq 14, 3) := by decide +kernel
theorem dX10_meets_65 : decode cX10_meets 65 = .ok (.iload 4, 2) := by decide +kernel
theorem dX10_meets_67 : decode cX10_meets 67 = .ok (.ifCond .lt 9, 3) := by decide +kernel
theorem dX10_meets_70 : decode cX10_meets 70 = .ok (.iload 4, 2) := by decide +kernel
theorem dX10_meets_72 : decode cX10_meets 72 = .ok (.iconst 1, 1) := by decide +kernel
theorem dX10_meets_73 : decode cX10_meets 73 = .ok (.if_icmp .le 5, 3) := by decide +kernel
theorem dX10_meets_76 : decode cX10_meets 76 = .ok (.iconst (-1), 1) := by decide +kernel
theorem dX10_meets_77 : decode cX10_meets 77 = .ok (.ireturn, 1) := by decide +kernel
theorem dX10_meets_78 : decode cX10_meets 78 = .ok (.iload 6, 2) := by decide +kernel
theorem dX10_meets_80 : decode cX10_meets 80 = .ok (.iload 5, 2) := by decide +kernel
theorem dX10_meets_82 : decode cX10_meets 82 = .ok (.isub, 1) := by decide +kernel
theorem dX10_meets_83 : decode cX10_meets 83 = .ok (.iload_n 1, 1) := by decide +kernel
theorem dX10_meets_84 : decode cX10_meets 84 = .ok (.invokestatic 182, 3) := by decide +kernel
theorem dX10_meets_87 : decode cX10_meets 87 = .ok (.istore 8, 2) := by decide +kernel
theorem dX10_meets_89 : decode cX10_meets 89 = .ok (.iload 4, 2) := by decide +kernel
theorem dX10_meets_91 : decode cX10_meets 91 = .ok (.ifCond .ne 13, 3) := by decide +kernel
theorem dX10_meets_94 : decode cX10_meets 94 = .ok (.iload_n 1, 1) := by decide +kernel
theorem dX10_meets_95 : decode cX10_meets 95 = .ok (.iload_n 2, 1) := by decide +kernel
theorem dX10_meets_96 : decode cX10_meets 96 = .ok (.iload 8, 2) := by decide +kernel
theorem dX10_meets_98 : decode cX10_meets 98 = .ok (.invokestatic 187, 3) := by decide +kernel
theorem dX10_meets_101 : decode cX10_meets 101 = .ok (.goto 10, 3) := by decide +kernel
theorem dX10_meets_104 : decode cX10_meets 104 = .ok (.iload_n 1, 1) := by decide +kernel
theorem dX10_meets_105 : decode cX10_meets 105 = .ok (.iload_n 2, 1) := by decide +kernel
theorem dX10_meets_106 : decode cX10_meets 106 = .ok (.iload 8, 2) := by decide +kernel
theorem dX10_meets_108 : decode cX10_meets 108 = .ok (.invokestatic 192, 3) := by decide +kernel
theorem dX10_meets_111 : decode cX10_meets 111 = .ok (.ireturn, 1) := by decide +kernel
theorem dX10_child_0 : decode cX10_child 0 = .ok (.aload_n 0, 1) := by decide +kernel
theorem dX10_child_1 : decode cX10_child 1 = .ok (.getfield 30, 3) := by decide +kernel
theorem dX10_child_4 : decode cX10_child 4 = .ok (.getfield 195, 3) := by decide +kernel
theorem dX10_child_7 : decode cX10_child 7 = .ok (.iload_n 1, 1) := by decide +kernel
theorem dX10_child_8 : decode cX10_child 8 = .ok (.iconst 0, 1) := by decide +kernel
theorem dX10_child_9 : decode cX10_child 9 = .ok (.iconst 1, 1) := by decide +kernel
theorem dX10_child_10 : decode cX10_child 10 = .ok (.invokevirtual 199, 3) := by decide +kernel
theorem dX10_child_13 : decode cX10_child 13 = .ok (.ireturn, 1) := by decide +kernel
theorem dX10_planned_0 : decode cX10_planned 0 = .ok (.iload_n 1, 1) := by decide +kernel
theorem dX10_planned_1 : decode cX10_planned 1 = .ok (.lookupswitch 43 #[(0, 27), (1, 35)], 27) := by decide +kernel
theorem dX10_planned_28 : decode cX10_planned 28 = .ok (.aload_n 0, 1) := by decide +kernel
theorem dX10_planned_29 : decode cX10_planned 29 = .ok (.getfield 68, 3) := by decide +kernel
theorem dX10_planned_32 : decode cX10_planned 32 = .ok (.invokevirtual 204, 3) := by decide +kernel
theorem dX10_planned_35 : decode cX10_planned 35 = .ok (.ireturn, 1) := by decide +kernel
theorem dX10_planned_36 : decode cX10_planned 36 = .ok (.aload_n 0, 1) := by decide +kernel
theorem dX10_planned_37 : decode cX10_planned 37 = .ok (.getfield 68, 3) := by decide +kernel
theorem dX10_planned_40 : decode cX10_planned 40 = .ok (.invokevirtual 207, 3) := by decide +kernel
theorem dX10_planned_43 : decode cX10_planned 43 = .ok (.ireturn, 1) := by decide +kernel
theorem dX10_planned_44 : decode cX10_planned 44 = .ok (.iconst (-1), 1) := by decide +kernel
theorem dX10_planned_45 : decode cX10_planned 45 = .ok (.ireturn, 1) := by decide +kernel
theorem dX10_siding_0 : decode cX10_siding 0 = .ok (.iload_n 1, 1) := by decide +kernel
theorem dX10_siding_1 : decode cX10_siding 1 = .ok (.invokestatic 210, 3) := by decide +kernel
theorem dX10_siding_4 : decode cX10_siding 4 = .ok (.istore_n 3, 1) := by decide +kernel
theorem dX10_siding_5 : decode cX10_siding 5 = .ok (.iload_n 3, 1) := by decide +kernel
theorem dX10_siding_6 : decode cX10_siding 6 = .ok (.iconst (-1), 1) := by decide +kernel
theorem dX10_siding_7 : decode cX10_siding 7 = .ok (.if_icmp .ne 5, 3) := by decide +kernel
theorem dX10_siding_10 : decode cX10_siding 10 = .ok (.iconst (-1), 1) := by decide +kernel
theorem dX10_siding_11 : decode cX10_siding 11 = .ok (.ireturn, 1) := by decide +kernel
theorem dX10_siding_12 : decode cX10_siding 12 = .ok (.iload_n 2, 1) := by decide +kernel
theorem dX10_siding_13 : decode cX10_siding 13 = .ok (.tableswitch 53 0 2 #[27, 42, 48], 27) := by decide +kernel
theorem dX10_siding_40 : decode cX10_siding 40 = .ok (.iload_n 1, 1) := by decide +kernel
theorem dX10_siding_41 : decode cX10_siding 41 = .ok (.iload_n 3, 1) := by decide +kernel
theorem dX10_siding_42 : decode cX10_siding 42 = .ok (.invokestatic 213, 3) := by decide +kernel
theorem dX10_siding_45 : decode cX10_siding 45 = .ok (.iconst (-1), 1) := by decide +kernel
theorem dX10_siding_46 : decode cX10_siding 46 = .ok (.if_icmp .ne 7, 3) := by decide +kernel
theorem dX10_siding_49 : decode cX10_siding 49 = .ok (.iconst 0, 1) := by decide +kernel
theorem dX10_siding_50 : decode cX10_siding 50 = .ok (.goto 4, 3) := by decide +kernel
theorem dX10_siding_53 : decode cX10_siding 53 = .ok (.iconst 1, 1) := by decide +kernel
theorem dX10_siding_54 : decode cX10_siding 54 = .ok (.ireturn, 1) := by decide +kernel
theorem dX10_siding_55 : decode cX10_siding 55 = .ok (.iload_n 1, 1) := by decide +kernel
theorem dX10_siding_56 : decode cX10_siding 56 = .ok (.iload_n 3, 1) := by decide +kernel
theorem dX10_siding_57 : decode cX10_siding 57 = .ok (.invokestatic 213, 3) := by decide +kernel
theorem dX10_siding_60 : decode cX10_siding 60 = .ok (.ireturn, 1) := by decide +kernel
theorem dX10_siding_61 : decode cX10_siding 61 = .ok (.iload_n 3, 1) := by decide +kernel
theorem dX10_siding_62 : decode cX10_siding 62 = .ok (.invokestatic 216, 3) := by decide +kernel
theorem dX10_siding_65 : decode cX10_siding 65 = .ok (.ireturn, 1) := by decide +kernel
theorem dX10_siding_66 : decode cX10_siding 66 = .ok (.iconst (-1), 1) := by decide +kernel
theorem dX10_siding_67 : decode cX10_siding 67 = .ok (.ireturn, 1) := by decide +kernel
theorem dX10_bought_0 : decode cX10_bought 0 = .ok (.iload_n 1, 1) := by decide +kernel
theorem dX10_bought_1 : decode cX10_bought 1 = .ok (.iconst (-1), 1) := by decide +kernel
theorem dX10_bought_2 : decode cX10_bought 2 = .ok (.if_icmp .ne 14, 3) := by decide +kernel
theorem dX10_bought_5 : decode cX10_bought 5 = .ok (.aload_n 0, 1) := by decide +kernel
theorem dX10_bought_6 : decode cX10_bought 6 = .ok (.getfield 30, 3) := by decide +kernel
theorem dX10_bought_9 : decode cX10_bought 9 = .ok (.getfield 219, 3) := by decide +kernel
theorem dX10_bought_12 : decode cX10_bought 12 = .ok (.invokevirtual 222, 3) := by decide +kernel
theorem dX10_bought_15 : decode cX10_bought 15 = .ok (.ireturn, 1) := by decide +kernel
theorem dX10_bought_16 : decode cX10_bought 16 = .ok (.iload_n 1, 1) := by decide +kernel
theorem dX10_bought_17 : decode cX10_bought 17 = .ok (.ifCond .lt 28, 3) := by decide +kernel
theorem dX10_bought_20 : decode cX10_bought 20 = .ok (.iload_n 1, 1) := by decide +kernel
theorem dX10_bought_21 : decode cX10_bought 21 = .ok (.bipush 8, 2) := by decide +kernel
theorem dX10_bought_23 : decode cX10_bought 23 = .ok (.if_icmp .gt 22, 3) := by decide +kernel
theorem dX10_bought_26 : decode cX10_bought 26 = .ok (.iload_n 2, 1) := by decide +kernel
theorem dX10_bought_27 : decode cX10_bought 27 = .ok (.ifCond .lt 18, 3) := by decide +kernel
theorem dX10_bought_30 : decode cX10_bought 30 = .ok (.iload_n 2, 1) := by decide +kernel
theorem dX10_bought_31 : decode cX10_bought 31 = .ok (.bipush 8, 2) := by decide +kernel
theorem dX10_bought_33 : decode cX10_bought 33 = .ok (.if_icmp .gt 12, 3) := by decide +kernel
theorem dX10_bought_36 : decode cX10_bought 36 = .ok (.iload_n 1, 1) := by decide +kernel
theorem dX10_bought_37 : decode cX10_bought 37 = .ok (.iload_n 2, 1) := by decide +kernel
theorem dX10_bought_38 : decode cX10_bought 38 = .ok (.if_icmp .eq 7, 3) := by decide +kernel
theorem dX10_bought_41 : decode cX10_bought 41 = .ok (.iconst 1, 1) := by decide +kernel
theorem dX10_bought_42 : decode cX10_bought 42 = .ok (.goto 4, 3) := by decide +kernel
theorem dX10_bought_45 : decode cX10_bought 45 = .ok (.iconst 0, 1) := by decide +kernel
theorem dX10_bought_46 : decode cX10_bought 46 = .ok (.istore_n 3, 1) := by decide +kernel
theorem dX10_bought_47 : decode cX10_bought 47 = .ok (.iload_n 3, 1) := by decide +kernel
theorem dX10_bought_48 : decode cX10_bought 48 = .ok (.ifCond .eq 22, 3) := by decide +kernel
theorem dX10_bought_51 : decode cX10_bought 51 = .ok (.aload_n 0, 1) := by decide +kernel
theorem dX10_bought_52 : decode cX10_bought 52 = .ok (.getfield 30, 3) := by decide +kernel
theorem dX10_bought_55 : decode cX10_bought 55 = .ok (.getfield 219, 3) := by decide +kernel
theorem dX10_bought_58 : decode cX10_bought 58 = .ok (.iload_n 1, 1) := by decide +kernel
theorem dX10_bought_59 : decode cX10_bought 59 = .ok (.bipush 16, 2) := by decide +kernel
theorem dX10_bought_61 : decode cX10_bought 61 = .ok (.imul, 1) := by decide +kernel
theorem dX10_bought_62 : decode cX10_bought 62 = .ok (.iload_n 2, 1) := by decide +kernel
theorem dX10_bought_63 : decode cX10_bought 63 = .ok (.iadd, 1) := by decide +kernel
theorem dX10_bought_64 : decode cX10_bought 64 = .ok (.invokevirtual 225, 3) := by decide +kernel
theorem dX10_bought_67 : decode cX10_bought 67 = .ok (.goto 4, 3) := by decide +kernel
theorem dX10_bought_70 : decode cX10_bought 70 = .ok (.iconst (-1), 1) := by decide +kernel
theorem dX10_bought_71 : decode cX10_bought 71 = .ok (.ireturn, 1) := by decide +kernel
theorem dX10_rows_0 : decode cX10_rows 0 = .ok (.iload_n 1, 1) := by decide +kernel
theorem dX10_rows_1 : decode cX10_rows 1 = .ok (.iconst 2, 1) := by decide +kernel
theorem dX10_rows_2 : decode cX10_rows 2 = .ok (.if_icmp .lt 9, 3) := by decide +kernel
theorem dX10_rows_5 : decode cX10_rows 5 = .ok (.iload_n 1, 1) := by decide +kernel
theorem dX10_rows_6 : decode cX10_rows 6 = .ok (.bipush 9, 2) := by decide +kernel
theorem dX10_rows_8 : decode cX10_rows 8 = .ok (.if_icmp .le 5, 3) := by decide +kernel
theorem dX10_rows_11 : decode cX10_rows 11 = .ok (.iconst (-1), 1) := by decide +kernel
theorem dX10_rows_12 : decode cX10_rows 12 = .ok (.ireturn, 1) := by decide +kernel
theorem dX10_rows_13 : decode cX10_rows 13 = .ok (.iload_n 2, 1) := by decide +kernel
theorem dX10_rows_14 : decode cX10_rows 14 = .ok (.lookupswitch 44 #[(0, 26), (1, 35)], 26) := by decide +kernel
theorem dX10_rows_40 : decode cX10_rows 40 = .ok (.aload_n 0, 1) := by decide +kernel
theorem dX10_rows_41 : decode cX10_rows 41 = .ok (.getfield 68, 3) := by decide +kernel
theorem dX10_rows_44 : decode cX10_rows 44 = .ok (.iload_n 1, 1) := by decide +kernel
theorem dX10_rows_45 : decode cX10_rows 45 = .ok (.invokevirtual 228, 3) := by decide +kernel
theorem dX10_rows_48 : decode cX10_rows 48 = .ok (.ireturn, 1) := by decide +kernel
theorem dX10_rows_49 : decode cX10_rows 49 = .ok (.aload_n 0, 1) := by decide +kernel
theorem dX10_rows_50 : decode cX10_rows 50 = .ok (.getfield 68, 3) := by decide +kernel
theorem dX10_rows_53 : decode cX10_rows 53 = .ok (.iload_n 1, 1) := by decide +kernel
theorem dX10_rows_54 : decode cX10_rows 54 = .ok (.invokevirtual 231, 3) := by decide +kernel
theorem dX10_rows_57 : decode cX10_rows 57 = .ok (.ireturn, 1) := by decide +kernel
theorem dX10_rows_58 : decode cX10_rows 58 = .ok (.iconst (-1), 1) := by decide +kernel
theorem dX10_rows_59 : decode cX10_rows 59 = .ok (.ireturn, 1) := by decide +kernel
theorem dX10_dowry_0 : decode cX10_dowry 0 = .ok (.aload_n 0, 1) := by decide +kernel
theorem dX10_dowry_1 : decode cX10_dowry 1 = .ok (.getfield 30, 3) := by decide +kernel
theorem dX10_dowry_4 : decode cX10_dowry 4 = .ok (.getfield 234, 3) := by decide +kernel
theorem dX10_dowry_7 : decode cX10_dowry 7 = .ok (.iload_n 1, 1) := by decide +kernel
theorem dX10_dowry_8 : decode cX10_dowry 8 = .ok (.iconst 0, 1) := by decide +kernel
theorem dX10_dowry_9 : decode cX10_dowry 9 = .ok (.bipush 60, 2) := by decide +kernel
theorem dX10_dowry_11 : decode cX10_dowry 11 = .ok (.invokevirtual 199, 3) := by decide +kernel
theorem dX10_dowry_14 : decode cX10_dowry 14 = .ok (.ireturn, 1) := by decide +kernel
theorem dX10_pushed_0 : decode cX10_pushed 0 = .ok (.iload_n 1, 1) := by decide +kernel
theorem dX10_pushed_1 : decode cX10_pushed 1 = .ok (.ifCond .lt 17, 3) := by decide +kernel
theorem dX10_pushed_4 : decode cX10_pushed 4 = .ok (.iload_n 1, 1) := by decide +kernel
theorem dX10_pushed_5 : decode cX10_pushed 5 = .ok (.aload_n 0, 1) := by decide +kernel
theorem dX10_pushed_6 : decode cX10_pushed 6 = .ok (.getfield 30, 3) := by decide +kernel
theorem dX10_pushed_9 : decode cX10_pushed 9 = .ok (.getfield 234, 3) := by decide +kernel
theorem dX10_pushed_12 : decode cX10_pushed 12 = .ok (.getfield 236, 3) := by decide +kernel
theorem dX10_pushed_15 : decode cX10_pushed 15 = .ok (.if_icmp .le 5, 3) := by decide +kernel
theorem dX10_pushed_18 : decode cX10_pushed 18 = .ok (.iconst (-1), 1) := by decide +kernel
theorem dX10_pushed_19 : decode cX10_pushed 19 = .ok (.ireturn, 1) := by decide +kernel
theorem dX10_pushed_20 : decode cX10_pushed 20 = .ok (.aload_n 0, 1) := by decide +kernel
theorem dX10_pushed_21 : decode cX10_pushed 21 = .ok (.getfield 68, 3) := by decide +kernel
theorem dX10_pushed_24 : decode cX10_pushed 24 = .ok (.invokevirtual 239, 3) := by decide +kernel
theorem dX10_pushed_27 : decode cX10_pushed 27 = .ok (.istore_n 2, 1) := by decide +kernel
theorem dX10_pushed_28 : decode cX10_pushed 28 = .ok (.iload_n 1, 1) := by decide +kernel
theorem dX10_pushed_29 : decode cX10_pushed 29 = .ok (.ifCond .ne 7, 3) := by decide +kernel
theorem dX10_pushed_32 : decode cX10_pushed 32 = .ok (.iload_n 2, 1) := by decide +kernel
theorem dX10_pushed_33 : decode cX10_pushed 33 = .ok (.goto 13, 3) := by decide +kernel
theorem dX10_pushed_36 : decode cX10_pushed 36 = .ok (.aload_n 0, 1) := by decide +kernel
theorem dX10_pushed_37 : decode cX10_pushed 37 = .ok (.getfield 68, 3) := by decide +kernel
theorem dX10_pushed_40 : decode cX10_pushed 40 = .ok (.iload_n 1, 1) := by decide +kernel
theorem dX10_pushed_41 : decode cX10_pushed 41 = .ok (.iconst 1, 1) := by decide +kernel
theorem dX10_pushed_42 : decode cX10_pushed 42 = .ok (.isub, 1) := by decide +kernel
theorem dX10_pushed_43 : decode cX10_pushed 43 = .ok (.invokevirtual 242, 3) := by decide +kernel
theorem dX10_pushed_46 : decode cX10_pushed 46 = .ok (.ireturn, 1) := by decide +kernel
theorem dX10_feuds_0 : decode cX10_feuds 0 = .ok (.iload_n 1, 1) := by decide +kernel
theorem dX10_feuds_1 : decode cX10_feuds 1 = .ok (.lookupswitch 57 #[(0, 27), (1, 42)], 27) := by decide +kernel
theorem dX10_feuds_28 : decode cX10_feuds 28 = .ok (.aload_n 0, 1) := by decide +kernel
theorem dX10_feuds_29 : decode cX10_feuds 29 = .ok (.getfield 19, 3) := by decide +kernel
theorem dX10_feuds_32 : decode cX10_feuds 32 = .ok (.aload_n 0, 1) := by decide +kernel
theorem dX10_feuds_33 : decode cX10_feuds 33 = .ok (.getfield 10, 3) := by decide +kernel
theorem dX10_feuds_36 : decode cX10_feuds 36 = .ok (.getfield 129, 3) := by decide +kernel
theorem dX10_feuds_39 : decode cX10_feuds 39 = .ok (.invokevirtual 245, 3) := by decide +kernel
theorem dX10_feuds_42 : decode cX10_feuds 42 = .ok (.ireturn, 1) := by decide +kernel
theorem dX10_feuds_43 : decode cX10_feuds 43 = .ok (.aload_n 0, 1) := by decide +kernel
theorem dX10_feuds_44 : decode cX10_feuds 44 = .ok (.getfield 19, 3) := by decide +kernel
theorem dX10_feuds_47 : decode cX10_feuds 47 = .ok (.aload_n 0, 1) := by decide +kernel
theorem dX10_feuds_48 : decode cX10_feuds 48 = .ok (.getfield 10, 3) := by decide +kernel
theorem dX10_feuds_51 : decode cX10_feuds 51 = .ok (.getfield 129, 3) := by decide +kernel
theorem dX10_feuds_54 : decode cX10_feuds 54 = .ok (.invokevirtual 248, 3) := by decide +kernel
theorem dX10_feuds_57 : decode cX10_feuds 57 = .ok (.ireturn, 1) := by decide +kernel
theorem dX10_feuds_58 : decode cX10_feuds 58 = .ok (.iconst (-1), 1) := by decide +kernel
theorem dX10_feuds_59 : decode cX10_feuds 59 = .ok (.ireturn, 1) := by decide +kernel
theorem dX10_person_0 : decode cX10_person 0 = .ok (.iload_n 1, 1) := by decide +kernel
theorem dX10_person_1 : decode cX10_person 1 = .ok (.bipush (-10), 2) := by decide +kernel
theorem dX10_person_3 : decode cX10_person 3 = .ok (.if_icmp .ne 14, 3) := by decide +kernel
theorem dX10_person_6 : decode cX10_person 6 = .ok (.aload_n 0, 1) := by decide +kernel
theorem dX10_person_7 : decode cX10_person 7 = .ok (.getfield 30, 3) := by decide +kernel
theorem dX10_person_10 : decode cX10_person 10 = .ok (.getfield 251, 3) := by decide +kernel
theorem dX10_person_13 : decode cX10_person 13 = .ok (.invokevirtual 222, 3) := by decide +kernel
theorem dX10_person_16 : decode cX10_person 16 = .ok (.ireturn, 1) := by decide +kernel
theorem dX10_person_17 : decode cX10_person 17 = .ok (.aload_n 0, 1) := by decide +kernel
theorem dX10_person_18 : decode cX10_person 18 = .ok (.getfield 30, 3) := by decide +kernel
theorem dX10_person_21 : decode cX10_person 21 = .ok (.getfield 251, 3) := by decide +kernel
theorem dX10_person_24 : decode cX10_person 24 = .ok (.getfield 236, 3) := by decide +kernel
theorem dX10_person_27 : decode cX10_person 27 = .ok (.istore_n 3, 1) := by decide +kernel
theorem dX10_person_28 : decode cX10_person 28 = .ok (.iload_n 1, 1) := by decide +kernel
theorem dX10_person_29 : decode cX10_person 29 = .ok (.iconst (-1), 1) := by decide +kernel
theorem dX10_person_30 : decode cX10_person 30 = .ok (.if_icmp .ne 12, 3) := by decide +kernel
theorem dX10_person_33 : decode cX10_person 33 = .ok (.iload_n 2, 1) := by decide +kernel
theorem dX10_person_34 : decode cX10_person 34 = .ok (.iconst (-1), 1) := by decide +kernel
theorem dX10_person_35 : decode cX10_person 35 = .ok (.if_icmp .ne 7, 3) := by decide +kernel
theorem dX10_person_38 : decode cX10_person 38 = .ok (.iconst 1, 1) := by decide +kernel
theorem dX10_person_39 : decode cX10_person 39 = .ok (.goto 4, 3) := by decide +kernel
theorem dX10_person_42 : decode cX10_person 42 = .ok (.iconst 0, 1) := by decide +kernel
theorem dX10_person_43 : decode cX10_person 43 = .ok (.istore 4, 2) := by decide +kernel
theorem dX10_person_45 : decode cX10_person 45 = .ok (.iload_n 1, 1) := by decide +kernel
theorem dX10_person_46 : decode cX10_person 46 = .ok (.ifCond .lt 26, 3) := by decide +kernel
theorem dX10_person_49 : decode cX10_person 49 = .ok (.iload_n 1, 1) := by decide +kernel
theorem dX10_person_50 : decode cX10_person 50 = .ok (.iload_n 3, 1) := by decide +kernel
theorem dX10_person_51 : decode cX10_person 51 = .ok (.if_icmp .ge 21, 3) := by decide +kernel
theorem dX10_person_54 : decode cX10_person 54 = .ok (.iload_n 2, 1) := by decide +kernel
theorem dX10_person_55 : decode cX10_person 55 = .ok (.ifCond .lt 17, 3) := by decide +kernel
theorem dX10_person_58 : decode cX10_person 58 = .ok (.iload_n 2, 1) := by decide +kernel
theorem dX10_person_59 : decode cX10_person 59 = .ok (.iload_n 3, 1) := by decide +kernel
theorem dX10_person_60 : decode cX10_person 60 = .ok (.if_icmp .ge 12, 3) := by decide +kernel
theorem dX10_person_63 : decode cX10_person 63 = .ok (.iload_n 1, 1) := by decide +kernel
theorem dX10_person_64 : decode cX10_person 64 = .ok (.iload_n 2, 1) := by decide +kernel
theorem dX10_person_65 : decode cX10_person 65 = .ok (.if_icmp .eq 7, 3) := by decide +kernel
theorem dX10_person_68 : decode cX10_person 68 = .ok (.iconst 1, 1) := by decide +kernel
theorem dX10_person_69 : decode cX10_person 69 = .ok (.goto 4, 3) := by decide +kernel
theorem dX10_person_72 : decode cX10_person 72 = .ok (.iconst 0, 1) := by decide +kernel
theorem dX10_person_73 : decode cX10_person 73 = .ok (.istore 5, 2) := by decide +kernel
theorem dX10_person_75 : decode cX10_person 75 = .ok (.iload 4, 2) := by decide +kernel
theorem dX10_person_77 : decode cX10_person 77 = .ok (.ifCond .ne 10, 3) := by decide +kernel
theorem dX10_person_80 : decode cX10_person 80 = .ok (.iload 5, 2) := by decide +kernel
theorem dX10_person_82 : decode cX10_person 82 = .ok (.ifCond .ne 5, 3) := by decide +kernel
theorem dX10_person_85 : decode cX10_person 85 = .ok (.iconst (-1), 1) := by decide +kernel
theorem dX10_person_86 : decode cX10_person 86 = .ok (.ireturn, 1) := by decide +kernel
theorem dX10_person_87 : decode cX10_person 87 = .ok (.aload_n 0, 1) := by decide +kernel
theorem dX10_person_88 : decode cX10_person 88 = .ok (.getfield 30, 3) := by decide +kernel
theorem dX10_person_91 : decode cX10_person 91 = .ok (.getfield 251, 3) := by decide +kernel
theorem dX10_person_94 : decode cX10_person 94 = .ok (.iload 4, 2) := by decide +kernel
theorem dX10_person_96 : decode cX10_person 96 = .ok (.ifCond .eq 7, 3) := by decide +kernel
theorem dX10_person_99 : decode cX10_person 99 = .ok (.iconst (-1), 1) := by decide +kernel
theorem dX10_person_100 : decode cX10_person 100 = .ok (.goto 9, 3) := by decide +kernel
theorem dX10_person_103 : decode cX10_person 103 = .ok (.iload_n 1, 1) := by decide +kernel
theorem dX10_person_104 : decode cX10_person 104 = .ok (.bipush 16, 2) := by decide +kernel
theorem dX10_person_106 : decode cX10_person 106 = .ok (.imul, 1) := by decide +kernel
theorem dX10_person_107 : decode cX10_person 107 = .ok (.iload_n 2, 1) := by decide +kernel
theorem dX10_person_108 : decode cX10_person 108 = .ok (.iadd, 1) := by decide +kernel
theorem dX10_person_109 : decode cX10_person 109 = .ok (.invokevirtual 225, 3) := by decide +kernel
theorem dX10_person_112 : decode cX10_person 112 = .ok (.istore 6, 2) := by decide +kernel
theorem dX10_person_114 : decode cX10_person 114 = .ok (.iload 6, 2) := by decide +kernel
theorem dX10_person_116 : decode cX10_person 116 = .ok (.iconst (-1), 1) := by decide +kernel
theorem dX10_person_117 : decode cX10_person 117 = .ok (.if_icmp .ne 7, 3) := by decide +kernel
theorem dX10_person_120 : decode cX10_person 120 = .ok (.iconst (-1), 1) := by decide +kernel
theorem dX10_person_121 : decode cX10_person 121 = .ok (.goto 7, 3) := by decide +kernel
theorem dX10_person_124 : decode cX10_person 124 = .ok (.iload 6, 2) := by decide +kernel
theorem dX10_person_126 : decode cX10_person 126 = .ok (.iconst 1, 1) := by decide +kernel
theorem dX10_person_127 : decode cX10_person 127 = .ok (.isub, 1) := by decide +kernel
theorem dX10_person_128 : decode cX10_person 128 = .ok (.ireturn, 1) := by decide +kernel
theorem dX10_akin_0 : decode cX10_akin 0 = .ok (.aload_n 0, 1) := by decide +kernel
theorem dX10_akin_1 : decode cX10_akin 1 = .ok (.getfield 30, 3) := by decide +kernel
theorem dX10_akin_4 : decode cX10_akin 4 = .ok (.getfield 251, 3) := by decide +kernel
theorem dX10_akin_7 : decode cX10_akin 7 = .ok (.getfield 236, 3) := by decide +kernel
theorem dX10_akin_10 : decode cX10_akin 10 = .ok (.istore 4, 2) := by decide +kernel
theorem dX10_akin_12 : decode cX10_akin 12 = .ok (.iload_n 1, 1) := by decide +kernel
theorem dX10_akin_13 : decode cX10_akin 13 = .ok (.ifCond .lt 28, 3) := by decide +kernel
theorem dX10_akin_16 : decode cX10_akin 16 = .ok (.iload_n 1, 1) := by decide +kernel
theorem dX10_akin_17 : decode cX10_akin 17 = .ok (.iload 4, 2) := by decide +kernel
theorem dX10_akin_19 : decode cX10_akin 19 = .ok (.if_icmp .ge 22, 3) := by decide +kernel
theorem dX10_akin_22 : decode cX10_akin 22 = .ok (.iload_n 2, 1) := by decide +kernel
theorem dX10_akin_23 : decode cX10_akin 23 = .ok (.ifCond .lt 18, 3) := by decide +kernel
theorem dX10_akin_26 : decode cX10_akin 26 = .ok (.iload_n 2, 1) := by decide +kernel
theorem dX10_akin_27 : decode cX10_akin 27 = .ok (.iload 4, 2) := by decide +kernel
theorem dX10_akin_29 : decode cX10_akin 29 = .ok (.if_icmp .ge 12, 3) := by decide +kernel
theorem dX10_akin_32 : decode cX10_akin 32 = .ok (.iload_n 3, 1) := by decide +kernel
theorem dX10_akin_33 : decode cX10_akin 33 = .ok (.ifCond .lt 8, 3) := by decide +kernel
theorem dX10_akin_36 : decode cX10_akin 36 = .ok (.iload_n 3, 1) := by decide +kernel
theorem dX10_akin_37 : decode cX10_akin 37 = .ok (.iconst 1, 1) := by decide +kernel
theorem dX10_akin_38 : decode cX10_akin 38 = .ok (.if_icmp .le 5, 3) := by decide +kernel
theorem dX10_akin_41 : decode cX10_akin 41 = .ok (.iconst (-1), 1) := by decide +kernel
theorem dX10_akin_42 : decode cX10_akin 42 = .ok (.ireturn, 1) := by decide +kernel
theorem dX10_akin_43 : decode cX10_akin 43 = .ok (.aload_n 0, 1) := by decide +kernel
theorem dX10_akin_44 : decode cX10_akin 44 = .ok (.getfield 68, 3) := by decide +kernel
theorem dX10_akin_47 : decode cX10_akin 47 = .ok (.iload_n 1, 1) := by decide +kernel
theorem dX10_akin_48 : decode cX10_akin 48 = .ok (.iload_n 2, 1) := by decide +kernel
theorem dX10_akin_49 : decode cX10_akin 49 = .ok (.invokestatic 254, 3) := by decide +kernel
theorem dX10_akin_52 : decode cX10_akin 52 = .ok (.iload_n 1, 1) := by decide +kernel
theorem dX10_akin_53 : decode cX10_akin 53 = .ok (.iload_n 2, 1) := by decide +kernel
theorem dX10_akin_54 : decode cX10_akin 54 = .ok (.invokestatic 257, 3) := by decide +kernel
theorem dX10_akin_57 : decode cX10_akin 57 = .ok (.invokevirtual 260, 3) := by decide +kernel
theorem dX10_akin_60 : decode cX10_akin 60 = .ok (.istore 5, 2) := by decide +kernel
theorem dX10_akin_62 : decode cX10_akin 62 = .ok (.iload 5, 2) := by decide +kernel
theorem dX10_akin_64 : decode cX10_akin 64 = .ok (.ldc_w 263, 3) := by decide +kernel
theorem dX10_akin_67 : decode cX10_akin 67 = .ok (.iload_n 3, 1) := by decide +kernel
theorem dX10_akin_68 : decode cX10_akin 68 = .ok (.invokestatic 264, 3) := by decide +kernel
theorem dX10_akin_71 : decode cX10_akin 71 = .ok (.ireturn, 1) := by decide +kernel
theorem dX10_home_0 : decode cX10_home 0 = .ok (.iload_n 3, 1) := by decide +kernel
theorem dX10_home_1 : decode cX10_home 1 = .ok (.bipush 10, 2) := by decide +kernel
theorem dX10_home_3 : decode cX10_home 3 = .ok (.idiv, 1) := by decide +kernel
theorem dX10_home_4 : decode cX10_home 4 = .ok (.istore 5, 2) := by decide +kernel
theorem dX10_home_6 : decode cX10_home 6 = .ok (.iload_n 3, 1) := by decide +kernel
theorem dX10_home_7 : decode cX10_home 7 = .ok (.bipush 10, 2) := by decide +kernel
theorem dX10_home_9 : decode cX10_home 9 = .ok (.irem, 1) := by decide +kernel
theorem dX10_home_10 : decode cX10_home 10 = .ok (.istore 6, 2) := by decide +kernel
theorem dX10_home_12 : decode cX10_home 12 = .ok (.iload_n 2, 1) := by decide +kernel
theorem dX10_home_13 : decode cX10_home 13 = .ok (.iconst 1, 1) := by decide +kernel
theorem dX10_home_14 : decode cX10_home 14 = .ok (.if_icmp .lt 54, 3) := by decide +kernel
theorem dX10_home_17 : decode cX10_home 17 = .ok (.iload_n 2, 1) := by decide +kernel
theorem dX10_home_18 : decode cX10_home 18 = .ok (.bipush 8, 2) := by decide +kernel
theorem dX10_home_20 : decode cX10_home 20 = .ok (.if_icmp .gt 48, 3) := by decide +kernel
theorem dX10_home_23 : decode cX10_home 23 = .ok (.iload_n 1, 1) := by decide +kernel
theorem dX10_home_24 : decode cX10_home 24 = .ok (.ifCond .lt 44, 3) := by decide +kernel
theorem dX10_home_27 : decode cX10_home 27 = .ok (.iload_n 1, 1) := by decide +kernel
theorem dX10_home_28 : decode cX10_home 28 = .ok (.iload_n 2, 1) := by decide +kernel
theorem dX10_home_29 : decode cX10_home 29 = .ok (.if_icmp .gt 39, 3) := by decide +kernel
theorem dX10_home_32 : decode cX10_home 32 = .ok (.iload 5, 2) := by decide +kernel
theorem dX10_home_34 : decode cX10_home 34 = .ok (.iconst 1, 1) := by decide +kernel
theorem dX10_home_35 : decode cX10_home 35 = .ok (.if_icmp .lt 33, 3) := by decide +kernel
theorem dX10_home_38 : decode cX10_home 38 = .ok (.iload 5, 2) := by decide +kernel
theorem dX10_home_40 : decode cX10_home 40 = .ok (.iconst 5, 1) := by decide +kernel
theorem dX10_home_41 : decode cX10_home 41 = .ok (.if_icmp .gt 27, 3) := by decide +kernel
theorem dX10_home_44 : decode cX10_home 44 = .ok (.iload 6, 2) := by decide +kernel
theorem dX10_home_46 : decode cX10_home 46 = .ok (.iconst 2, 1) := by decide +kernel
theorem dX10_home_47 : decode cX10_home 47 = .ok (.if_icmp .lt 21, 3) := by decide +kernel
theorem dX10_home_50 : decode cX10_home 50 = .ok (.iload 6, 2) := by decide +kernel
theorem dX10_home_52 : decode cX10_home 52 = .ok (.bipush 6, 2) := by decide +kernel
theorem dX10_home_54 : decode cX10_home 54 = .ok (.if_icmp .gt 14, 3) := by decide +kernel
theorem dX10_home_57 : decode cX10_home 57 = .ok (.iload 5, 2) := by decide +kernel
theorem dX10_home_59 : decode cX10_home 59 = .ok (.iload 6, 2) := by decide +kernel
theorem dX10_home_61 : decode cX10_home 61 = .ok (.if_icmp .ge 7, 3) := by decide +kernel
theorem dX10_home_64 : decode cX10_home 64 = .ok (.iconst 1, 1) := by decide +kernel
theorem dX10_home_65 : decode cX10_home 65 = .ok (.goto 4, 3) := by decide +kernel
theorem dX10_home_68 : decode cX10_home 68 = .ok (.iconst 0, 1) := by decide +kernel
theorem dX10_home_69 : decode cX10_home 69 = .ok (.istore 7, 2) := by decide +kernel
theorem dX10_home_71 : decode cX10_home 71 = .ok (.iload 7, 2) := by decide +kernel
theorem dX10_home_73 : decode cX10_home 73 = .ok (.ifCond .eq 14, 3) := by decide +kernel
theorem dX10_home_76 : decode cX10_home 76 = .ok (.iload 4, 2) := by decide +kernel
theorem dX10_home_78 : decode cX10_home 78 = .ok (.ifCond .lt 9, 3) := by decide +kernel
theorem dX10_home_81 : decode cX10_home 81 = .ok (.iload 4, 2) := by decide +kernel
theorem dX10_home_83 : decode cX10_home 83 = .ok (.iconst 1, 1) := by decide +kernel
theorem dX10_home_84 : decode cX10_home 84 = .ok (.if_icmp .le 5, 3) := by decide +kernel
theorem dX10_home_87 : decode cX10_home 87 = .ok (.iconst (-1), 1) := by decide +kernel
theorem dX10_home_88 : decode cX10_home 88 = .ok (.ireturn, 1) := by decide +kernel
theorem dX10_home_89 : decode cX10_home 89 = .ok (.iload_n 1, 1) := by decide +kernel
theorem dX10_home_90 : decode cX10_home 90 = .ok (.iload_n 2, 1) := by decide +kernel
theorem dX10_home_91 : decode cX10_home 91 = .ok (.iload 5, 2) := by decide +kernel
theorem dX10_home_93 : decode cX10_home 93 = .ok (.iload 6, 2) := by decide +kernel
theorem dX10_home_95 : decode cX10_home 95 = .ok (.iload 5, 2) := by decide +kernel
theorem dX10_home_97 : decode cX10_home 97 = .ok (.isub, 1) := by decide +kernel
theorem dX10_home_98 : decode cX10_home 98 = .ok (.invokestatic 267, 3) := by decide +kernel
theorem dX10_home_101 : decode cX10_home 101 = .ok (.istore 8, 2) := by decide +kernel
theorem dX10_home_103 : decode cX10_home 103 = .ok (.iload_n 2, 1) := by decide +kernel
theorem dX10_home_104 : decode cX10_home 104 = .ok (.iload_n 2, 1) := by decide +kernel
theorem dX10_home_105 : decode cX10_home 105 = .ok (.iload 5, 2) := by decide +kernel
theorem dX10_home_107 : decode cX10_home 107 = .ok (.iload 6, 2) := by decide +kernel
theorem dX10_home_109 : decode cX10_home 109 = .ok (.iload 5, 2) := by decide +kernel
theorem dX10_home_111 : decode cX10_home 111 = .ok (.isub, 1) := by decide +kernel
theorem dX10_home_112 : decode cX10_home 112 = .ok (.invokestatic 267, 3) := by decide +kernel
theorem dX10_home_115 : decode cX10_home 115 = .ok (.istore 9, 2) := by decide +kernel
theorem dX10_home_117 : decode cX10_home 117 = .ok (.iload 8, 2) := by decide +kernel
theorem dX10_home_119 : decode cX10_home 119 = .ok (.iload 9, 2) := by decide +kernel
theorem dX10_home_121 : decode cX10_home 121 = .ok (.iload 4, 2) := by decide +kernel
theorem dX10_home_123 : decode cX10_home 123 = .ok (.invokestatic 264, 3) := by decide +kernel
theorem dX10_home_126 : decode cX10_home 126 = .ok (.ireturn, 1) := by decide +kernel
theorem dX10_streets_0 : decode cX10_streets 0 = .ok (.iload_n 1, 1) := by decide +kernel
theorem dX10_streets_1 : decode cX10_streets 1 = .ok (.iconst 1, 1) := by decide +kernel
theorem dX10_streets_2 : decode cX10_streets 2 = .ok (.if_icmp .lt 19, 3) := by decide +kernel
theorem dX10_streets_5 : decode cX10_streets 5 = .ok (.iload_n 1, 1) := by decide +kernel
theorem dX10_streets_6 : decode cX10_streets 6 = .ok (.bipush 12, 2) := by decide +kernel
theorem dX10_streets_8 : decode cX10_streets 8 = .ok (.if_icmp .gt 13, 3) := by decide +kernel
theorem dX10_streets_11 : decode cX10_streets 11 = .ok (.iload_n 2, 1) := by decide +kernel
theorem dX10_streets_12 : decode cX10_streets 12 = .ok (.iconst 1, 1) := by decide +kernel
theorem dX10_streets_13 : decode cX10_streets 13 = .ok (.if_icmp .lt 8, 3) := by decide +kernel
theorem dX10_streets_16 : decode cX10_streets 16 = .ok (.iload_n 2, 1) := by decide +kernel
theorem dX10_streets_17 : decode cX10_streets 17 = .ok (.iconst 4, 1) := by decide +kernel
theorem dX10_streets_18 : decode cX10_streets 18 = .ok (.if_icmp .le 5, 3) := by decide +kernel
theorem dX10_streets_21 : decode cX10_streets 21 = .ok (.iconst (-1), 1) := by decide +kernel
theorem dX10_streets_22 : decode cX10_streets 22 = .ok (.ireturn, 1) := by decide +kernel
theorem dX10_streets_23 : decode cX10_streets 23 = .ok (.iload_n 3, 1) := by decide +kernel
theorem dX10_streets_24 : decode cX10_streets 24 = .ok (.lookupswitch 52 #[(0, 28), (1, 36)], 28) := by decide +kernel
theorem dX10_streets_52 : decode cX10_streets 52 = .ok (.iload_n 1, 1) := by decide +kernel
theorem dX10_streets_53 : decode cX10_streets 53 = .ok (.iload_n 2, 1) := by decide +kernel
theorem dX10_streets_54 : decode cX10_streets 54 = .ok (.invokestatic 271, 3) := by decide +kernel
theorem dX10_streets_57 : decode cX10_streets 57 = .ok (.iload_n 1, 1) := by decide +kernel
theorem dX10_streets_58 : decode cX10_streets 58 = .ok (.idiv, 1) := by decide +kernel
theorem dX10_streets_59 : decode cX10_streets 59 = .ok (.ireturn, 1) := by decide +kernel
theorem dX10_streets_60 : decode cX10_streets 60 = .ok (.iload_n 1, 1) := by decide +kernel
theorem dX10_streets_61 : decode cX10_streets 61 = .ok (.iload_n 2, 1) := by decide +kernel
theorem dX10_streets_62 : decode cX10_streets 62 = .ok (.invokestatic 271, 3) := by decide +kernel
theorem dX10_streets_65 : decode cX10_streets 65 = .ok (.iload_n 1, 1) := by decide +kernel
theorem dX10_streets_66 : decode cX10_streets 66 = .ok (.iload_n 2, 1) := by decide +kernel
theorem dX10_streets_67 : decode cX10_streets 67 = .ok (.invokestatic 274, 3) := by decide +kernel
theorem dX10_streets_70 : decode cX10_streets 70 = .ok (.iadd, 1) := by decide +kernel
theorem dX10_streets_71 : decode cX10_streets 71 = .ok (.iconst 2, 1) := by decide +kernel
theorem dX10_streets_72 : decode cX10_streets 72 = .ok (.iload_n 1, 1) := by decide +kernel
theorem dX10_streets_73 : decode cX10_streets 73 = .ok (.imul, 1) := by decide +kernel
theorem dX10_streets_74 : decode cX10_streets 74 = .ok (.idiv, 1) := by decide +kernel
theorem dX10_streets_75 : decode cX10_streets 75 = .ok (.ireturn, 1) := by decide +kernel
theorem dX10_streets_76 : decode cX10_streets 76 = .ok (.iconst (-1), 1) := by decide +kernel
theorem dX10_streets_77 : decode cX10_streets 77 = .ok (.ireturn, 1) := by decide +kernel
theorem dX10_moved_0 : decode cX10_moved 0 = .ok (.iload_n 1, 1) := by decide +kernel
theorem dX10_moved_1 : decode cX10_moved 1 = .ok (.ifCond .lt 30, 3) := by decide +kernel
theorem dX10_moved_4 : decode cX10_moved 4 = .ok (.iload_n 1, 1) := by decide +kernel
theorem dX10_moved_5 : decode cX10_moved 5 = .ok (.bipush 9, 2) := by decide +kernel
theorem dX10_moved_7 : decode cX10_moved 7 = .ok (.if_icmp .gt 24, 3) := by decide +kernel
theorem dX10_moved_10 : decode cX10_moved 10 = .ok (.iload_n 2, 1) := by decide +kernel
theorem dX10_moved_11 : decode cX10_moved 11 = .ok (.bipush (-2), 2) := by decide +kernel
theorem dX10_moved_13 : decode cX10_moved 13 = .ok (.if_icmp .lt 18, 3) := by decide +kernel
theorem dX10_moved_16 : decode cX10_moved 16 = .ok (.iload_n 2, 1) := by decide +kernel
theorem dX10_moved_17 : decode cX10_moved 17 = .ok (.bipush 9, 2) := by decide +kernel
theorem dX10_moved_19 : decode cX10_moved 19 = .ok (.if_icmp .gt 12, 3) := by decide +kernel
theorem dX10_moved_22 : decode cX10_moved 22 = .ok (.iload_n 1, 1) := by decide +kernel
theorem dX10_moved_23 : decode cX10_moved 23 = .ok (.iload_n 2, 1) := by decide +kernel
theorem dX10_moved_24 : decode cX10_moved 24 = .ok (.if_icmp .eq 7, 3) := by decide +kernel
theorem dX10_moved_27 : decode cX10_moved 27 = .ok (.iconst 1, 1) := by decide +kernel
theorem dX10_moved_28 : decode cX10_moved 28 = .ok (.goto 4, 3) := by decide +kernel
theorem dX10_moved_31 : decode cX10_moved 31 = .ok (.iconst 0, 1) := by decide +kernel
theorem dX10_moved_32 : decode cX10_moved 32 = .ok (.istore_n 3, 1) := by decide +kernel
theorem dX10_moved_33 : decode cX10_moved 33 = .ok (.iload_n 3, 1) := by decide +kernel
theorem dX10_moved_34 : decode cX10_moved 34 = .ok (.ifCond .eq 13, 3) := by decide +kernel
theorem dX10_moved_37 : decode cX10_moved 37 = .ok (.aload_n 0, 1) := by decide +kernel
theorem dX10_moved_38 : decode cX10_moved 38 = .ok (.getfield 30, 3) := by decide +kernel
theorem dX10_moved_41 : decode cX10_moved 41 = .ok (.getfield 277, 3) := by decide +kernel
theorem dX10_moved_44 : decode cX10_moved 44 = .ok (.iload_n 1, 1) := by decide +kernel
theorem dX10_moved_45 : decode cX10_moved 45 = .ok (.iload_n 2, 1) := by decide +kernel
theorem dX10_moved_46 : decode cX10_moved 46 = .ok (.iastore, 1) := by decide +kernel
theorem dX10_moved_47 : decode cX10_moved 47 = .ok (.iload_n 3, 1) := by decide +kernel
theorem dX10_moved_48 : decode cX10_moved 48 = .ok (.ireturn, 1) := by decide +kernel
theorem dX10_chain_0 : decode cX10_chain 0 = .ok (.aload_n 0, 1) := by decide +kernel
theorem dX10_chain_1 : decode cX10_chain 1 = .ok (.getfield 68, 3) := by decide +kernel
theorem dX10_chain_4 : decode cX10_chain 4 = .ok (.invokevirtual 280, 3) := by decide +kernel
theorem dX10_chain_7 : decode cX10_chain 7 = .ok (.ireturn, 1) := by decide +kernel
theorem dX10_order_0 : decode cX10_order 0 = .ok (.iload_n 1, 1) := by decide +kernel
theorem dX10_order_1 : decode cX10_order 1 = .ok (.iconst 1, 1) := by decide +kernel
theorem dX10_order_2 : decode cX10_order 2 = .ok (.if_icmp .lt 9, 3) := by decide +kernel
theorem dX10_order_5 : decode cX10_order 5 = .ok (.iload_n 1, 1) := by decide +kernel
theorem dX10_order_6 : decode cX10_order 6 = .ok (.bipush 52, 2) := by decide +kernel
theorem dX10_order_8 : decode cX10_order 8 = .ok (.if_icmp .le 5, 3) := by decide +kernel
theorem dX10_order_11 : decode cX10_order 11 = .ok (.iconst (-1), 1) := by decide +kernel
theorem dX10_order_12 : decode cX10_order 12 = .ok (.ireturn, 1) := by decide +kernel
theorem dX10_order_13 : decode cX10_order 13 = .ok (.iload_n 2, 1) := by decide +kernel
theorem dX10_order_14 : decode cX10_order 14 = .ok (.iconst (-1), 1) := by decide +kernel
theorem dX10_order_15 : decode cX10_order 15 = .ok (.if_icmp .ne 8, 3) := by decide +kernel
theorem dX10_order_18 : decode cX10_order 18 = .ok (.iload_n 1, 1) := by decide +kernel
theorem dX10_order_19 : decode cX10_order 19 = .ok (.invokestatic 283, 3) := by decide +kernel
theorem dX10_order_22 : decode cX10_order 22 = .ok (.ireturn, 1) := by decide +kernel
theorem dX10_order_23 : decode cX10_order 23 = .ok (.iload_n 2, 1) := by decide +kernel
theorem dX10_order_24 : decode cX10_order 24 = .ok (.ifCond .lt 23, 3) := by decide +kernel
theorem dX10_order_27 : decode cX10_order 27 = .ok (.iload_n 2, 1) := by decide +kernel
theorem dX10_order_28 : decode cX10_order 28 = .ok (.iload_n 1, 1) := by decide +kernel
theorem dX10_order_29 : decode cX10_order 29 = .ok (.if_icmp .ge 18, 3) := by decide +kernel
theorem dX10_order_32 : decode cX10_order 32 = .ok (.iload_n 3, 1) := by decide +kernel
theorem dX10_order_33 : decode cX10_order 33 = .ok (.ifCond .lt 14, 3) := by decide +kernel
theorem dX10_order_36 : decode cX10_order 36 = .ok (.iload_n 3, 1) := by decide +kernel
theorem dX10_order_37 : decode cX10_order 37 = .ok (.sipush 1000, 3) := by decide +kernel
theorem dX10_order_40 : decode cX10_order 40 = .ok (.if_icmp .gt 7, 3) := by decide +kernel
theorem dX10_order_43 : decode cX10_order 43 = .ok (.iconst 1, 1) := by decide +kernel
theorem dX10_order_44 : decode cX10_order 44 = .ok (.goto 4, 3) := by decide +kernel
theorem dX10_order_47 : decode cX10_order 47 = .ok (.iconst 0, 1) := by decide +kernel
theorem dX10_order_48 : decode cX10_order 48 = .ok (.istore 4, 2) := by decide +kernel
theorem dX10_order_50 : decode cX10_order 50 = .ok (.iload 4, 2) := by decide +kernel
theorem dX10_order_52 : decode cX10_order 52 = .ok (.ifCond .eq 12, 3) := by decide +kernel
theorem dX10_order_55 : decode cX10_order 55 = .ok (.iload_n 1, 1) := by decide +kernel
theorem dX10_order_56 : decode cX10_order 56 = .ok (.iload_n 2, 1) := by decide +kernel
theorem dX10_order_57 : decode cX10_order 57 = .ok (.iload_n 3, 1) := by decide +kernel
theorem dX10_order_58 : decode cX10_order 58 = .ok (.invokestatic 286, 3) := by decide +kernel
theorem dX10_order_61 : decode cX10_order 61 = .ok (.goto 4, 3) := by decide +kernel
theorem dX10_order_64 : decode cX10_order 64 = .ok (.iconst (-1), 1) := by decide +kernel
theorem dX10_order_65 : decode cX10_order 65 = .ok (.ireturn, 1) := by decide +kernel
theorem dX10_height_0 : decode cX10_height 0 = .ok (.aload_n 0, 1) := by decide +kernel
theorem dX10_height_1 : decode cX10_height 1 = .ok (.getfield 30, 3) := by decide +kernel
theorem dX10_height_4 : decode cX10_height 4 = .ok (.getfield 289, 3) := by decide +kernel
theorem dX10_height_7 : decode cX10_height 7 = .ok (.iload_n 1, 1) := by decide +kernel
theorem dX10_height_8 : decode cX10_height 8 = .ok (.iconst 1, 1) := by decide +kernel
theorem dX10_height_9 : decode cX10_height 9 = .ok (.bipush 60, 2) := by decide +kernel
theorem dX10_height_11 : decode cX10_height 11 = .ok (.invokevirtual 199, 3) := by decide +kernel
theorem dX10_height_14 : decode cX10_height 14 = .ok (.ireturn, 1) := by decide +kernel
theorem dX10_windows_0 : decode cX10_windows 0 = .ok (.iload_n 1, 1) := by decide +kernel
theorem dX10_windows_1 : decode cX10_windows 1 = .ok (.tableswitch 51 0 2 #[27, 35, 43], 27) := by decide +kernel
theorem dX10_windows_28 : decode cX10_windows 28 = .ok (.aload_n 0, 1) := by decide +kernel
theorem dX10_windows_29 : decode cX10_windows 29 = .ok (.getfield 68, 3) := by decide +kernel
theorem dX10_windows_32 : decode cX10_windows 32 = .ok (.invokevirtual 292, 3) := by decide +kernel
theorem dX10_windows_35 : decode cX10_windows 35 = .ok (.ireturn, 1) := by decide +kernel
theorem dX10_windows_36 : decode cX10_windows 36 = .ok (.aload_n 0, 1) := by decide +kernel
theorem dX10_windows_37 : decode cX10_windows 37 = .ok (.getfield 68, 3) := by decide +kernel
theorem dX10_windows_40 : decode cX10_windows 40 = .ok (.invokevirtual 295, 3) := by decide +kernel
theorem dX10_windows_43 : decode cX10_windows 43 = .ok (.ireturn, 1) := by decide +kernel
theorem dX10_windows_44 : decode cX10_windows 44 = .ok (.aload_n 0, 1) := by decide +kernel
theorem dX10_windows_45 : decode cX10_windows 45 = .ok (.getfield 68, 3) := by decide +kernel
theorem dX10_windows_48 : decode cX10_windows 48 = .ok (.invokevirtual 298, 3) := by decide +kernel
theorem dX10_windows_51 : decode cX10_windows 51 = .ok (.ireturn, 1) := by decide +kernel
theorem dX10_windows_52 : decode cX10_windows 52 = .ok (.iconst (-1), 1) := by decide +kernel
theorem dX10_windows_53 : decode cX10_windows 53 = .ok (.ireturn, 1) := by decide +kernel
theorem dX10_game_0 : decode cX10_game 0 = .ok (.iload_n 1, 1) := by decide +kernel
theorem dX10_game_1 : decode cX10_game 1 = .ok (.iconst 1, 1) := by decide +kernel
theorem dX10_game_2 : decode cX10_game 2 = .ok (.if_icmp .lt 31, 3) := by decide +kernel
theorem dX10_game_5 : decode cX10_game 5 = .ok (.iload_n 1, 1) := by decide +kernel
theorem dX10_game_6 : decode cX10_game 6 = .ok (.bipush 18, 2) := by decide +kernel
theorem dX10_game_8 : decode cX10_game 8 = .ok (.if_icmp .gt 25, 3) := by decide +kernel
theorem dX10_game_11 : decode cX10_game 11 = .ok (.iload_n 2, 1) := by decide +kernel
theorem dX10_game_12 : decode cX10_game 12 = .ok (.ifCond .lt 21, 3) := by decide +kernel
theorem dX10_game_15 : decode cX10_game 15 = .ok (.iload_n 2, 1) := by decide +kernel
theorem dX10_game_16 : decode cX10_game 16 = .ok (.iconst 1, 1) := by decide +kernel
theorem dX10_game_17 : decode cX10_game 17 = .ok (.iload_n 1, 1) := by decide +kernel
theorem dX10_game_18 : decode cX10_game 18 = .ok (.ishl, 1) := by decide +kernel
theorem dX10_game_19 : decode cX10_game 19 = .ok (.if_icmp .ge 14, 3) := by decide +kernel
theorem dX10_game_22 : decode cX10_game 22 = .ok (.iload_n 2, 1) := by decide +kernel
theorem dX10_game_23 : decode cX10_game 23 = .ok (.invokestatic 301, 3) := by decide +kernel
theorem dX10_game_26 : decode cX10_game 26 = .ok (.ifCond .ne 7, 3) := by decide +kernel
theorem dX10_game_29 : decode cX10_game 29 = .ok (.iconst 1, 1) := by decide +kernel
theorem dX10_game_30 : decode cX10_game 30 = .ok (.goto 4, 3) := by decide +kernel
theorem dX10_game_33 : decode cX10_game 33 = .ok (.iconst 0, 1) := by decide +kernel
theorem dX10_game_34 : decode cX10_game 34 = .ok (.istore 4, 2) := by decide +kernel
theorem dX10_game_36 : decode cX10_game 36 = .ok (.iload 4, 2) := by decide +kernel
theorem dX10_game_38 : decode cX10_game 38 = .ok (.ifCond .eq 12, 3) := by decide +kernel
theorem dX10_game_41 : decode cX10_game 41 = .ok (.iload_n 3, 1) := by decide +kernel
theorem dX10_game_42 : decode cX10_game 42 = .ok (.ifCond .lt 8, 3) := by decide +kernel
theorem dX10_game_45 : decode cX10_game 45 = .ok (.iload_n 3, 1) := by decide +kernel
theorem dX10_game_46 : decode cX10_game 46 = .ok (.iconst 1, 1) := by decide +kernel
theorem dX10_game_47 : decode cX10_game 47 = .ok (.if_icmp .le 5, 3) := by decide +kernel
theorem dX10_game_50 : decode cX10_game 50 = .ok (.iconst (-1), 1) := by decide +kernel
theorem dX10_game_51 : decode cX10_game 51 = .ok (.ireturn, 1) := by decide +kernel
theorem dX10_game_52 : decode cX10_game 52 = .ok (.aload_n 0, 1) := by decide +kernel
theorem dX10_game_53 : decode cX10_game 53 = .ok (.getfield 68, 3) := by decide +kernel
theorem dX10_game_56 : decode cX10_game 56 = .ok (.iload_n 1, 1) := by decide +kernel
theorem dX10_game_57 : decode cX10_game 57 = .ok (.iload_n 2, 1) := by decide +kernel
theorem dX10_game_58 : decode cX10_game 58 = .ok (.invokevirtual 304, 3) := by decide +kernel
theorem dX10_game_61 : decode cX10_game 61 = .ok (.istore 5, 2) := by decide +kernel
theorem dX10_game_63 : decode cX10_game 63 = .ok (.iload_n 3, 1) := by decide +kernel
theorem dX10_game_64 : decode cX10_game 64 = .ok (.iconst 1, 1) := by decide +kernel
theorem dX10_game_65 : decode cX10_game 65 = .ok (.if_icmp .ne 6, 3) := by decide +kernel
theorem dX10_game_68 : decode cX10_game 68 = .ok (.iload 5, 2) := by decide +kernel
theorem dX10_game_70 : decode cX10_game 70 = .ok (.ireturn, 1) := by decide +kernel
theorem dX10_game_71 : decode cX10_game 71 = .ok (.iload 5, 2) := by decide +kernel
theorem dX10_game_73 : decode cX10_game 73 = .ok (.iconst (-1), 1) := by decide +kernel
theorem dX10_game_74 : decode cX10_game 74 = .ok (.if_icmp .ne 7, 3) := by decide +kernel
theorem dX10_game_77 : decode cX10_game 77 = .ok (.iconst 0, 1) := by decide +kernel
theorem dX10_game_78 : decode cX10_game 78 = .ok (.goto 4, 3) := by decide +kernel
theorem dX10_game_81 : decode cX10_game 81 = .ok (.iconst 1, 1) := by decide +kernel
theorem dX10_game_82 : decode cX10_game 82 = .ok (.ireturn, 1) := by decide +kernel
theorem dX10_undo_0 : decode cX10_undo 0 = .ok (.aload_n 0, 1) := by decide +kernel
theorem dX10_undo_1 : decode cX10_undo 1 = .ok (.getfield 37, 3) := by decide +kernel
theorem dX10_undo_4 : decode cX10_undo 4 = .ok (.aload_n 0, 1) := by decide +kernel
theorem dX10_undo_5 : decode cX10_undo 5 = .ok (.getfield 10, 3) := by decide +kernel
theorem dX10_undo_8 : decode cX10_undo 8 = .ok (.invokevirtual 307, 3) := by decide +kernel
theorem dX10_undo_11 : decode cX10_undo 11 = .ok (.ireturn, 1) := by decide +kernel
theorem dX10_image_0 : decode cX10_image 0 = .ok (.iload_n 1, 1) := by decide +kernel
theorem dX10_image_1 : decode cX10_image 1 = .ok (.ifCond .eq 46, 3) := by decide +kernel
theorem dX10_image_4 : decode cX10_image 4 = .ok (.aload_n 0, 1) := by decide +kernel
theorem dX10_image_5 : decode cX10_image 5 = .ok (.getfield 72, 3) := by decide +kernel
theorem dX10_image_8 : decode cX10_image 8 = .ok (.ifnonnull 14, 3) := by decide +kernel
theorem dX10_image_11 : decode cX10_image 11 = .ok (.aload_n 0, 1) := by decide +kernel
theorem dX10_image_12 : decode cX10_image 12 = .ok (.new 311, 3) := by decide +kernel
theorem dX10_image_15 : decode cX10_image 15 = .ok (.dup, 1) := by decide +kernel
theorem dX10_image_16 : decode cX10_image 16 = .ok (.invokespecial 313, 3) := by decide +kernel
theorem dX10_image_19 : decode cX10_image 19 = .ok (.putfield 72, 3) := by decide +kernel
theorem dX10_image_22 : decode cX10_image 22 = .ok (.aload_n 0, 1) := by decide +kernel
theorem dX10_image_23 : decode cX10_image 23 = .ok (.getfield 72, 3) := by decide +kernel
theorem dX10_image_26 : decode cX10_image 26 = .ok (.aload_n 0, 1) := by decide +kernel
theorem dX10_image_27 : decode cX10_image 27 = .ok (.getfield 10, 3) := by decide +kernel
theorem dX10_image_30 : decode cX10_image 30 = .ok (.aload_n 0, 1) := by decide +kernel
theorem dX10_image_31 : decode cX10_image 31 = .ok (.getfield 19, 3) := by decide +kernel
theorem dX10_image_34 : decode cX10_image 34 = .ok (.aload_n 0, 1) := by decide +kernel
theorem dX10_image_35 : decode cX10_image 35 = .ok (.getfield 23, 3) := by decide +kernel
theorem dX10_image_38 : decode cX10_image 38 = .ok (.aload_n 0, 1) := by decide +kernel
theorem dX10_image_39 : decode cX10_image 39 = .ok (.getfield 30, 3) := by decide +kernel
theorem dX10_image_42 : decode cX10_image 42 = .ok (.invokevirtual 314, 3) := by decide +kernel
theorem dX10_image_45 : decode cX10_image 45 = .ok (.iconst 1, 1) := by decide +kernel
theorem dX10_image_46 : decode cX10_image 46 = .ok (.ireturn, 1) := by decide +kernel
theorem dX10_image_47 : decode cX10_image 47 = .ok (.aload_n 0, 1) := by decide +kernel
theorem dX10_image_48 : decode cX10_image 48 = .ok (.getfield 72, 3) := by decide +kernel
theorem dX10_image_51 : decode cX10_image 51 = .ok (.ifnonnull 5, 3) := by decide +kernel
theorem dX10_image_54 : decode cX10_image 54 = .ok (.iconst 0, 1) := by decide +kernel
theorem dX10_image_55 : decode cX10_image 55 = .ok (.ireturn, 1) := by decide +kernel
theorem dX10_image_56 : decode cX10_image 56 = .ok (.aload_n 0, 1) := by decide +kernel
theorem dX10_image_57 : decode cX10_image 57 = .ok (.getfield 72, 3) := by decide +kernel
theorem dX10_image_60 : decode cX10_image 60 = .ok (.aload_n 0, 1) := by decide +kernel
theorem dX10_image_61 : decode cX10_image 61 = .ok (.getfield 10, 3) := by decide +kernel
theorem dX10_image_64 : decode cX10_image 64 = .ok (.aload_n 0, 1) := by decide +kernel
theorem dX10_image_65 : decode cX10_image 65 = .ok (.getfield 19, 3) := by decide +kernel
theorem dX10_image_68 : decode cX10_image 68 = .ok (.aload_n 0, 1) := by decide +kernel
theorem dX10_image_69 : decode cX10_image 69 = .ok (.getfield 23, 3) := by decide +kernel
theorem dX10_image_72 : decode cX10_image 72 = .ok (.aload_n 0, 1) := by decide +kernel
theorem dX10_image_73 : decode cX10_image 73 = .ok (.getfield 30, 3) := by decide +kernel
theorem dX10_image_76 : decode cX10_image 76 = .ok (.invokevirtual 317, 3) := by decide +kernel
theorem dX10_image_79 : decode cX10_image 79 = .ok (.aload_n 0, 1) := by decide +kernel
theorem dX10_image_80 : decode cX10_image 80 = .ok (.getfield 37, 3) := by decide +kernel
theorem dX10_image_83 : decode cX10_image 83 = .ok (.invokevirtual 80, 3) := by decide +kernel
theorem dX10_image_86 : decode cX10_image 86 = .ok (.iconst 1, 1) := by decide +kernel
theorem dX10_image_87 : decode cX10_image 87 = .ok (.ireturn, 1) := by decide +kernel
theorem dX10_look_0 : decode cX10_look 0 = .ok (.iload_n 1, 1) := by decide +kernel
theorem dX10_look_1 : decode cX10_look 1 = .ok (.tableswitch 163 0 13 #[71, 79, 87, 95, 103, 111, 119, 127, 135, 143, 143, 143, 143, 155], 71) := by decide +kernel
theorem dX10_look_72 : decode cX10_look 72 = .ok (.aload_n 0, 1) := by decide +kernel
theorem dX10_look_73 : decode cX10_look 73 = .ok (.getfield 10, 3) := by decide +kernel
theorem dX10_look_76 : decode cX10_look 76 = .ok (.getfield 129, 3) := by decide +kernel
theorem dX10_look_79 : decode cX10_look 79 = .ok (.ireturn, 1) := by decide +kernel
theorem dX10_look_80 : decode cX10_look 80 = .ok (.aload_n 0, 1) := by decide +kernel
theorem dX10_look_81 : decode cX10_look 81 = .ok (.getfield 10, 3) := by decide +kernel
theorem dX10_look_84 : decode cX10_look 84 = .ok (.getfield 113, 3) := by decide +kernel
theorem dX10_look_87 : decode cX10_look 87 = .ok (.ireturn, 1) := by decide +kernel
theorem dX10_look_88 : decode cX10_look 88 = .ok (.aload_n 0, 1) := by decide +kernel
theorem dX10_look_89 : decode cX10_look 89 = .ok (.getfield 10, 3) := by decide +kernel
theorem dX10_look_92 : decode cX10_look 92 = .ok (.getfield 169, 3) := by decide +kernel
theorem dX10_look_95 : decode cX10_look 95 = .ok (.ireturn, 1) := by decide +kernel
theorem dX10_look_96 : decode cX10_look 96 = .ok (.aload_n 0, 1) := by decide +kernel
theorem dX10_look_97 : decode cX10_look 97 = .ok (.getfield 10, 3) := by decide +kernel
theorem dX10_look_100 : decode cX10_look 100 = .ok (.getfield 172, 3) := by decide +kernel
theorem dX10_look_103 : decode cX10_look 103 = .ok (.ireturn, 1) := by decide +kernel
theorem dX10_look_104 : decode cX10_look 104 = .ok (.aload_n 0, 1) := by decide +kernel
theorem dX10_look_105 : decode cX10_look 105 = .ok (.getfield 10, 3) := by decide +kernel
theorem dX10_look_108 : decode cX10_look 108 = .ok (.getfield 179, 3) := by decide +kernel
theorem dX10_look_111 : decode cX10_look 111 = .ok (.ireturn, 1) := by decide +kernel
theorem dX10_look_112 : decode cX10_look 112 = .ok (.aload_n 0, 1) := by decide +kernel
theorem dX10_look_113 : decode cX10_look 113 = .ok (.getfield 10, 3) := by decide +kernel
theorem dX10_look_116 : decode cX10_look 116 = .ok (.invokevirtual 320, 3) := by decide +kernel
theorem dX10_look_119 : decode cX10_look 119 = .ok (.ireturn, 1) := by decide +kernel
theorem dX10_look_120 : decode cX10_look 120 = .ok (.aload_n 0, 1) := by decide +kernel
theorem dX10_look_121 : decode cX10_look 121 = .ok (.getfield 10, 3) := by decide +kernel
theorem dX10_look_124 : decode cX10_look 124 = .ok (.getfield 110, 3) := by decide +kernel
theorem dX10_look_127 : decode cX10_look 127 = .ok (.ireturn, 1) := by decide +kernel
theorem dX10_look_128 : decode cX10_look 128 = .ok (.aload_n 0, 1) := by decide +kernel
theorem dX10_look_129 : decode cX10_look 129 = .ok (.getfield 10, 3) := by decide +kernel
theorem dX10_look_132 : decode cX10_look 132 = .ok (.getfield 163, 3) := by decide +kernel
theorem dX10_look_135 : decode cX10_look 135 = .ok (.ireturn, 1) := by decide +kernel
theorem dX10_look_136 : decode cX10_look 136 = .ok (.aload_n 0, 1) := by decide +kernel
theorem dX10_look_137 : decode cX10_look 137 = .ok (.getfield 10, 3) := by decide +kernel
theorem dX10_look_140 : decode cX10_look 140 = .ok (.getfield 76, 3) := by decide +kernel
theorem dX10_look_143 : decode cX10_look 143 = .ok (.ireturn, 1) := by decide +kernel
theorem dX10_look_144 : decode cX10_look 144 = .ok (.aload_n 0, 1) := by decide +kernel
theorem dX10_look_145 : decode cX10_look 145 = .ok (.getfield 19, 3) := by decide +kernel
theorem dX10_look_148 : decode cX10_look 148 = .ok (.iload_n 1, 1) := by decide +kernel
theorem dX10_look_149 : decode cX10_look 149 = .ok (.bipush 9, 2) := by decide +kernel
theorem dX10_look_151 : decode cX10_look 151 = .ok (.isub, 1) := by decide +kernel
theorem dX10_look_152 : decode cX10_look 152 = .ok (.invokevirtual 323, 3) := by decide +kernel
theorem dX10_look_155 : decode cX10_look 155 = .ok (.ireturn, 1) := by decide +kernel
theorem dX10_look_156 : decode cX10_look 156 = .ok (.aload_n 0, 1) := by decide +kernel
theorem dX10_look_157 : decode cX10_look 157 = .ok (.getfield 37, 3) := by decide +kernel
theorem dX10_look_160 : decode cX10_look 160 = .ok (.getfield 326, 3) := by decide +kernel
theorem dX10_look_163 : decode cX10_look 163 = .ok (.ireturn, 1) := by decide +kernel
theorem dX10_look_164 : decode cX10_look 164 = .ok (.ldc_w 327, 3) := by decide +kernel
theorem dX10_look_167 : decode cX10_look 167 = .ok (.ireturn, 1) := by decide +kernel
theorem dX10_canBe_0 : decode cX10_canBe 0 = .ok (.iload_n 0, 1) := by decide +kernel
theorem dX10_canBe_1 : decode cX10_canBe 1 = .ok (.ifCond .lt 28, 3) := by decide +kernel
theorem dX10_canBe_4 : decode cX10_canBe 4 = .ok (.iload_n 0, 1) := by decide +kernel
theorem dX10_canBe_5 : decode cX10_canBe 5 = .ok (.getstatic 328, 3) := by decide +kernel
theorem dX10_canBe_8 : decode cX10_canBe 8 = .ok (.arraylength, 1) := by decide +kernel
theorem dX10_canBe_9 : decode cX10_canBe 9 = .ok (.if_icmp .ge 20, 3) := by decide +kernel
theorem dX10_canBe_12 : decode cX10_canBe 12 = .ok (.iload_n 1, 1) := by decide +kernel
theorem dX10_canBe_13 : decode cX10_canBe 13 = .ok (.ifCond .lt 16, 3) := by decide +kernel
theorem dX10_canBe_16 : decode cX10_canBe 16 = .ok (.iload_n 1, 1) := by decide +kernel
theorem dX10_canBe_17 : decode cX10_canBe 17 = .ok (.getstatic 328, 3) := by decide +kernel
theorem dX10_canBe_20 : decode cX10_canBe 20 = .ok (.iload_n 0, 1) := by decide +kernel
theorem dX10_canBe_21 : decode cX10_canBe 21 = .ok (.iaload, 1) := by decide +kernel
theorem dX10_canBe_22 : decode cX10_canBe 22 = .ok (.if_icmp .gt 7, 3) := by decide +kernel
theorem dX10_canBe_25 : decode cX10_canBe 25 = .ok (.iconst 1, 1) := by decide +kernel
theorem dX10_canBe_26 : decode cX10_canBe 26 = .ok (.goto 4, 3) := by decide +kernel
theorem dX10_canBe_29 : decode cX10_canBe 29 = .ok (.iconst 0, 1) := by decide +kernel
theorem dX10_canBe_30 : decode cX10_canBe 30 = .ok (.ireturn, 1) := by decide +kernel
