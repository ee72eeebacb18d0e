theorem dX11_bringsOf_0 : decode cX11_bringsOf 0 = .ok (.aload_n 0, 1) := by decide +kernel
theorem dX11_bringsOf_1 : decode cX11_bringsOf 1 = .ok (.iload_n 1, 1) := by decide +kernel
theorem dX11_bringsOf_2 : decode cX11_bringsOf 2 = .ok (.invokevirtual 319, 3) := by decide +kernel
theorem dX11_bringsOf_5 : decode cX11_bringsOf 5 = .ok (.aload_n 0, 1) := by decide +kernel
theorem dX11_bringsOf_6 : decode cX11_bringsOf 6 = .ok (.iconst 2, 1) := by decide +kernel
theorem dX11_bringsOf_7 : decode cX11_bringsOf 7 = .ok (.aload_n 0, 1) := by decide +kernel
theorem dX11_bringsOf_8 : decode cX11_bringsOf 8 = .ok (.getfield 65, 3) := by decide +kernel
theorem dX11_bringsOf_11 : decode cX11_bringsOf 11 = .ok (.iconst 3, 1) := by decide +kernel
theorem dX11_bringsOf_12 : decode cX11_bringsOf 12 = .ok (.iaload, 1) := by decide +kernel
theorem dX11_bringsOf_13 : decode cX11_bringsOf 13 = .ok (.iconst 1, 1) := by decide +kernel
theorem dX11_bringsOf_14 : decode cX11_bringsOf 14 = .ok (.ishr, 1) := by decide +kernel
theorem dX11_bringsOf_15 : decode cX11_bringsOf 15 = .ok (.aload_n 0, 1) := by decide +kernel
theorem dX11_bringsOf_16 : decode cX11_bringsOf 16 = .ok (.getfield 65, 3) := by decide +kernel
theorem dX11_bringsOf_19 : decode cX11_bringsOf 19 = .ok (.iconst 3, 1) := by decide +kernel
theorem dX11_bringsOf_20 : decode cX11_bringsOf 20 = .ok (.iaload, 1) := by decide +kernel
theorem dX11_bringsOf_21 : decode cX11_bringsOf 21 = .ok (.invokevirtual 322, 3) := by decide +kernel
theorem dX11_bringsOf_24 : decode cX11_bringsOf 24 = .ok (.ireturn, 1) := by decide +kernel
theorem dX11_notes_0 : decode cX11_notes 0 = .ok (.aload_n 0, 1) := by decide +kernel
theorem dX11_notes_1 : decode cX11_notes 1 = .ok (.getfield 138, 3) := by decide +kernel
theorem dX11_notes_4 : decode cX11_notes 4 = .ok (.ifCond .ne 15, 3) := by decide +kernel
theorem dX11_notes_7 : decode cX11_notes 7 = .ok (.aload_n 0, 1) := by decide +kernel
theorem dX11_notes_8 : decode cX11_notes 8 = .ok (.getfield 7, 3) := by decide +kernel
theorem dX11_notes_11 : decode cX11_notes 11 = .ok (.iconst 2, 1) := by decide +kernel
theorem dX11_notes_12 : decode cX11_notes 12 = .ok (.iaload, 1) := by decide +kernel
theorem dX11_notes_13 : decode cX11_notes 13 = .ok (.sipush 150, 3) := by decide +kernel
theorem dX11_notes_16 : decode cX11_notes 16 = .ok (.if_icmp .ne 4, 3) := by decide +kernel
theorem dX11_notes_19 : decode cX11_notes 19 = .ok (.return_, 1) := by decide +kernel
theorem dX11_notes_20 : decode cX11_notes 20 = .ok (.iconst 4, 1) := by decide +kernel
theorem dX11_notes_21 : decode cX11_notes 21 = .ok (.aload_n 0, 1) := by decide +kernel
theorem dX11_notes_22 : decode cX11_notes 22 = .ok (.getfield 7, 3) := by decide +kernel
theorem dX11_notes_25 : decode cX11_notes 25 = .ok (.iconst 2, 1) := by decide +kernel
theorem dX11_notes_26 : decode cX11_notes 26 = .ok (.iaload, 1) := by decide +kernel
theorem dX11_notes_27 : decode cX11_notes 27 = .ok (.imul, 1) := by decide +kernel
theorem dX11_notes_28 : decode cX11_notes 28 = .ok (.istore 4, 2) := by decide +kernel
theorem dX11_notes_30 : decode cX11_notes 30 = .ok (.aload_n 0, 1) := by decide +kernel
theorem dX11_notes_31 : decode cX11_notes 31 = .ok (.getfield 19, 3) := by decide +kernel
theorem dX11_notes_34 : decode cX11_notes 34 = .ok (.iload 4, 2) := by decide +kernel
theorem dX11_notes_36 : decode cX11_notes 36 = .ok (.aload_n 0, 1) := by decide +kernel
theorem dX11_notes_37 : decode cX11_notes 37 = .ok (.getfield 7, 3) := by decide +kernel
theorem dX11_notes_40 : decode cX11_notes 40 = .ok (.iconst 0, 1) := by decide +kernel
theorem dX11_notes_41 : decode cX11_notes 41 = .ok (.iaload, 1) := by decide +kernel
theorem dX11_notes_42 : decode cX11_notes 42 = .ok (.iastore, 1) := by decide +kernel
theorem dX11_notes_43 : decode cX11_notes 43 = .ok (.aload_n 0, 1) := by decide +kernel
theorem dX11_notes_44 : decode cX11_notes 44 = .ok (.getfield 19, 3) := by decide +kernel
theorem dX11_notes_47 : decode cX11_notes 47 = .ok (.iload 4, 2) := by decide +kernel
theorem dX11_notes_49 : decode cX11_notes 49 = .ok (.iconst 1, 1) := by decide +kernel
theorem dX11_notes_50 : decode cX11_notes 50 = .ok (.iadd, 1) := by decide +kernel
theorem dX11_notes_51 : decode cX11_notes 51 = .ok (.iload_n 1, 1) := by decide +kernel
theorem dX11_notes_52 : decode cX11_notes 52 = .ok (.iastore, 1) := by decide +kernel
theorem dX11_notes_53 : decode cX11_notes 53 = .ok (.aload_n 0, 1) := by decide +kernel
theorem dX11_notes_54 : decode cX11_notes 54 = .ok (.getfield 19, 3) := by decide +kernel
theorem dX11_notes_57 : decode cX11_notes 57 = .ok (.iload 4, 2) := by decide +kernel
theorem dX11_notes_59 : decode cX11_notes 59 = .ok (.iconst 2, 1) := by decide +kernel
theorem dX11_notes_60 : decode cX11_notes 60 = .ok (.iadd, 1) := by decide +kernel
theorem dX11_notes_61 : decode cX11_notes 61 = .ok (.iload_n 2, 1) := by decide +kernel
theorem dX11_notes_62 : decode cX11_notes 62 = .ok (.iastore, 1) := by decide +kernel
theorem dX11_notes_63 : decode cX11_notes 63 = .ok (.aload_n 0, 1) := by decide +kernel
theorem dX11_notes_64 : decode cX11_notes 64 = .ok (.getfield 19, 3) := by decide +kernel
theorem dX11_notes_67 : decode cX11_notes 67 = .ok (.iload 4, 2) := by decide +kernel
theorem dX11_notes_69 : decode cX11_notes 69 = .ok (.iconst 3, 1) := by decide +kernel
theorem dX11_notes_70 : decode cX11_notes 70 = .ok (.iadd, 1) := by decide +kernel
theorem dX11_notes_71 : decode cX11_notes 71 = .ok (.iload_n 3, 1) := by decide +kernel
theorem dX11_notes_72 : decode cX11_notes 72 = .ok (.iastore, 1) := by decide +kernel
theorem dX11_notes_73 : decode cX11_notes 73 = .ok (.aload_n 0, 1) := by decide +kernel
theorem dX11_notes_74 : decode cX11_notes 74 = .ok (.getfield 7, 3) := by decide +kernel
theorem dX11_notes_77 : decode cX11_notes 77 = .ok (.iconst 2, 1) := by decide +kernel
theorem dX11_notes_78 : decode cX11_notes 78 = .ok (.aload_n 0, 1) := by decide +kernel
theorem dX11_notes_79 : decode cX11_notes 79 = .ok (.getfield 7, 3) := by decide +kernel
theorem dX11_notes_82 : decode cX11_notes 82 = .ok (.iconst 2, 1) := by decide +kernel
theorem dX11_notes_83 : decode cX11_notes 83 = .ok (.iaload, 1) := by decide +kernel
theorem dX11_notes_84 : decode cX11_notes 84 = .ok (.iconst 1, 1) := by decide +kernel
theorem dX11_notes_85 : decode cX11_notes 85 = .ok (.iadd, 1) := by decide +kernel
theorem dX11_notes_86 : decode cX11_notes 86 = .ok (.iastore, 1) := by decide +kernel
theorem dX11_notes_87 : decode cX11_notes 87 = .ok (.return_, 1) := by decide +kernel
theorem dX11_nextOf_0 : decode cX11_nextOf 0 = .ok (.aload_n 0, 1) := by decide +kernel
theorem dX11_nextOf_1 : decode cX11_nextOf 1 = .ok (.getfield 62, 3) := by decide +kernel
theorem dX11_nextOf_4 : decode cX11_nextOf 4 = .ok (.iload_n 1, 1) := by decide +kernel
theorem dX11_nextOf_5 : decode cX11_nextOf 5 = .ok (.iaload, 1) := by decide +kernel
theorem dX11_nextOf_6 : decode cX11_nextOf 6 = .ok (.ifCond .ne 7, 3) := by decide +kernel
theorem dX11_nextOf_9 : decode cX11_nextOf 9 = .ok (.iconst 1, 1) := by decide +kernel
theorem dX11_nextOf_10 : decode cX11_nextOf 10 = .ok (.goto 4, 3) := by decide +kernel
theorem dX11_nextOf_13 : decode cX11_nextOf 13 = .ok (.iconst (-1), 1) := by decide +kernel
theorem dX11_nextOf_14 : decode cX11_nextOf 14 = .ok (.istore_n 2, 1) := by decide +kernel
theorem dX11_nextOf_15 : decode cX11_nextOf 15 = .ok (.iload_n 1, 1) := by decide +kernel
theorem dX11_nextOf_16 : decode cX11_nextOf 16 = .ok (.iload_n 2, 1) := by decide +kernel
theorem dX11_nextOf_17 : decode cX11_nextOf 17 = .ok (.iadd, 1) := by decide +kernel
theorem dX11_nextOf_18 : decode cX11_nextOf 18 = .ok (.istore_n 3, 1) := by decide +kernel
theorem dX11_nextOf_19 : decode cX11_nextOf 19 = .ok (.aload_n 0, 1) := by decide +kernel
theorem dX11_nextOf_20 : decode cX11_nextOf 20 = .ok (.iload_n 3, 1) := by decide +kernel
theorem dX11_nextOf_21 : decode cX11_nextOf 21 = .ok (.invokevirtual 151, 3) := by decide +kernel
theorem dX11_nextOf_24 : decode cX11_nextOf 24 = .ok (.ifCond .eq 25, 3) := by decide +kernel
theorem dX11_nextOf_27 : decode cX11_nextOf 27 = .ok (.aload_n 0, 1) := by decide +kernel
theorem dX11_nextOf_28 : decode cX11_nextOf 28 = .ok (.getfield 62, 3) := by decide +kernel
theorem dX11_nextOf_31 : decode cX11_nextOf 31 = .ok (.iload_n 3, 1) := by decide +kernel
theorem dX11_nextOf_32 : decode cX11_nextOf 32 = .ok (.iaload, 1) := by decide +kernel
theorem dX11_nextOf_33 : decode cX11_nextOf 33 = .ok (.aload_n 0, 1) := by decide +kernel
theorem dX11_nextOf_34 : decode cX11_nextOf 34 = .ok (.getfield 62, 3) := by decide +kernel
theorem dX11_nextOf_37 : decode cX11_nextOf 37 = .ok (.iload_n 1, 1) := by decide +kernel
theorem dX11_nextOf_38 : decode cX11_nextOf 38 = .ok (.iaload, 1) := by decide +kernel
theorem dX11_nextOf_39 : decode cX11_nextOf 39 = .ok (.if_icmp .eq 10, 3) := by decide +kernel
theorem dX11_nextOf_42 : decode cX11_nextOf 42 = .ok (.iload_n 3, 1) := by decide +kernel
theorem dX11_nextOf_43 : decode cX11_nextOf 43 = .ok (.iload_n 2, 1) := by decide +kernel
theorem dX11_nextOf_44 : decode cX11_nextOf 44 = .ok (.iadd, 1) := by decide +kernel
theorem dX11_nextOf_45 : decode cX11_nextOf 45 = .ok (.istore_n 3, 1) := by decide +kernel
theorem dX11_nextOf_46 : decode cX11_nextOf 46 = .ok (.goto (-27), 3) := by decide +kernel
theorem dX11_nextOf_49 : decode cX11_nextOf 49 = .ok (.aload_n 0, 1) := by decide +kernel
theorem dX11_nextOf_50 : decode cX11_nextOf 50 = .ok (.iload_n 3, 1) := by decide +kernel
theorem dX11_nextOf_51 : decode cX11_nextOf 51 = .ok (.invokevirtual 151, 3) := by decide +kernel
theorem dX11_nextOf_54 : decode cX11_nextOf 54 = .ok (.ifCond .eq 7, 3) := by decide +kernel
theorem dX11_nextOf_57 : decode cX11_nextOf 57 = .ok (.iload_n 3, 1) := by decide +kernel
theorem dX11_nextOf_58 : decode cX11_nextOf 58 = .ok (.goto 4, 3) := by decide +kernel
theorem dX11_nextOf_61 : decode cX11_nextOf 61 = .ok (.iconst (-1), 1) := by decide +kernel
theorem dX11_nextOf_62 : decode cX11_nextOf 62 = .ok (.ireturn, 1) := by decide +kernel
theorem dX11_canGo_0 : decode cX11_canGo 0 = .ok (.aload_n 0, 1) := by decide +kernel
theorem dX11_canGo_1 : decode cX11_canGo 1 = .ok (.iload_n 1, 1) := by decide +kernel
theorem dX11_canGo_2 : decode cX11_canGo 2 = .ok (.invokevirtual 325, 3) := by decide +kernel
theorem dX11_canGo_5 : decode cX11_canGo 5 = .ok (.istore_n 2, 1) := by decide +kernel
theorem dX11_canGo_6 : decode cX11_canGo 6 = .ok (.iload_n 2, 1) := by decide +kernel
theorem dX11_canGo_7 : decode cX11_canGo 7 = .ok (.iconst (-1), 1) := by decide +kernel
theorem dX11_canGo_8 : decode cX11_canGo 8 = .ok (.if_icmp .eq 55, 3) := by decide +kernel
theorem dX11_canGo_11 : decode cX11_canGo 11 = .ok (.aload_n 0, 1) := by decide +kernel
theorem dX11_canGo_12 : decode cX11_canGo 12 = .ok (.getfield 7, 3) := by decide +kernel
theorem dX11_canGo_15 : decode cX11_canGo 15 = .ok (.bipush 23, 2) := by decide +kernel
theorem dX11_canGo_17 : decode cX11_canGo 17 = .ok (.iload_n 2, 1) := by decide +kernel
theorem dX11_canGo_18 : decode cX11_canGo 18 = .ok (.iadd, 1) := by decide +kernel
theorem dX11_canGo_19 : decode cX11_canGo 19 = .ok (.iaload, 1) := by decide +kernel
theorem dX11_canGo_20 : decode cX11_canGo 20 = .ok (.ifCond .le 47, 3) := by decide +kernel
theorem dX11_canGo_23 : decode cX11_canGo 23 = .ok (.aload_n 0, 1) := by decide +kernel
theorem dX11_canGo_24 : decode cX11_canGo 24 = .ok (.getfield 7, 3) := by decide +kernel
theorem dX11_canGo_27 : decode cX11_canGo 27 = .ok (.bipush 87, 2) := by decide +kernel
theorem dX11_canGo_29 : decode cX11_canGo 29 = .ok (.iload_n 2, 1) := by decide +kernel
theorem dX11_canGo_30 : decode cX11_canGo 30 = .ok (.iadd, 1) := by decide +kernel
theorem dX11_canGo_31 : decode cX11_canGo 31 = .ok (.iaload, 1) := by decide +kernel
theorem dX11_canGo_32 : decode cX11_canGo 32 = .ok (.ifCond .ne 35, 3) := by decide +kernel
theorem dX11_canGo_35 : decode cX11_canGo 35 = .ok (.aload_n 0, 1) := by decide +kernel
theorem dX11_canGo_36 : decode cX11_canGo 36 = .ok (.aload_n 0, 1) := by decide +kernel
theorem dX11_canGo_37 : decode cX11_canGo 37 = .ok (.getfield 59, 3) := by decide +kernel
theorem dX11_canGo_40 : decode cX11_canGo 40 = .ok (.iload_n 1, 1) := by decide +kernel
theorem dX11_canGo_41 : decode cX11_canGo 41 = .ok (.iaload, 1) := by decide +kernel
theorem dX11_canGo_42 : decode cX11_canGo 42 = .ok (.iload_n 2, 1) := by decide +kernel
theorem dX11_canGo_43 : decode cX11_canGo 43 = .ok (.invokevirtual 328, 3) := by decide +kernel
theorem dX11_canGo_46 : decode cX11_canGo 46 = .ok (.ifCond .ne 21, 3) := by decide +kernel
theorem dX11_canGo_49 : decode cX11_canGo 49 = .ok (.aload_n 0, 1) := by decide +kernel
theorem dX11_canGo_50 : decode cX11_canGo 50 = .ok (.aload_n 0, 1) := by decide +kernel
theorem dX11_canGo_51 : decode cX11_canGo 51 = .ok (.getfield 59, 3) := by decide +kernel
theorem dX11_canGo_54 : decode cX11_canGo 54 = .ok (.iload_n 2, 1) := by decide +kernel
theorem dX11_canGo_55 : decode cX11_canGo 55 = .ok (.iaload, 1) := by decide +kernel
theorem dX11_canGo_56 : decode cX11_canGo 56 = .ok (.iload_n 1, 1) := by decide +kernel
theorem dX11_canGo_57 : decode cX11_canGo 57 = .ok (.invokevirtual 328, 3) := by decide +kernel
theorem dX11_canGo_60 : decode cX11_canGo 60 = .ok (.ifCond .ne 7, 3) := by decide +kernel
theorem dX11_canGo_63 : decode cX11_canGo 63 = .ok (.iconst 1, 1) := by decide +kernel
theorem dX11_canGo_64 : decode cX11_canGo 64 = .ok (.goto 4, 3) := by decide +kernel
theorem dX11_canGo_67 : decode cX11_canGo 67 = .ok (.iconst 0, 1) := by decide +kernel
theorem dX11_canGo_68 : decode cX11_canGo 68 = .ok (.ireturn, 1) := by decide +kernel
theorem dX11_getsRicher_0 : decode cX11_getsRicher 0 = .ok (.aload_n 0, 1) := by decide +kernel
theorem dX11_getsRicher_1 : decode cX11_getsRicher 1 = .ok (.getfield 7, 3) := by decide +kernel
theorem dX11_getsRicher_4 : decode cX11_getsRicher 4 = .ok (.bipush 55, 2) := by decide +kernel
theorem dX11_getsRicher_6 : decode cX11_getsRicher 6 = .ok (.iload_n 1, 1) := by decide +kernel
theorem dX11_getsRicher_7 : decode cX11_getsRicher 7 = .ok (.iadd, 1) := by decide +kernel
theorem dX11_getsRicher_8 : decode cX11_getsRicher 8 = .ok (.aload_n 0, 1) := by decide +kernel
theorem dX11_getsRicher_9 : decode cX11_getsRicher 9 = .ok (.sipush 9999, 3) := by decide +kernel
theorem dX11_getsRicher_12 : decode cX11_getsRicher 12 = .ok (.aload_n 0, 1) := by decide +kernel
theorem dX11_getsRicher_13 : decode cX11_getsRicher 13 = .ok (.getfield 7, 3) := by decide +kernel
theorem dX11_getsRicher_16 : decode cX11_getsRicher 16 = .ok (.bipush 55, 2) := by decide +kernel
theorem dX11_getsRicher_18 : decode cX11_getsRicher 18 = .ok (.iload_n 1, 1) := by decide +kernel
theorem dX11_getsRicher_19 : decode cX11_getsRicher 19 = .ok (.iadd, 1) := by decide +kernel
theorem dX11_getsRicher_20 : decode cX11_getsRicher 20 = .ok (.iaload, 1) := by decide +kernel
theorem dX11_getsRicher_21 : decode cX11_getsRicher 21 = .ok (.iload_n 2, 1) := by decide +kernel
theorem dX11_getsRicher_22 : decode cX11_getsRicher 22 = .ok (.iadd, 1) := by decide +kernel
theorem dX11_getsRicher_23 : decode cX11_getsRicher 23 = .ok (.invokevirtual 332, 3) := by decide +kernel
theorem dX11_getsRicher_26 : decode cX11_getsRicher 26 = .ok (.iastore, 1) := by decide +kernel
theorem dX11_getsRicher_27 : decode cX11_getsRicher 27 = .ok (.return_, 1) := by decide +kernel
theorem dX11_girlGoes_0 : decode cX11_girlGoes 0 = .ok (.aload_n 0, 1) := by decide +kernel
theorem dX11_girlGoes_1 : decode cX11_girlGoes 1 = .ok (.iload_n 1, 1) := by decide +kernel
theorem dX11_girlGoes_2 : decode cX11_girlGoes 2 = .ok (.invokevirtual 325, 3) := by decide +kernel
theorem dX11_girlGoes_5 : decode cX11_girlGoes 5 = .ok (.istore_n 2, 1) := by decide +kernel
theorem dX11_girlGoes_6 : decode cX11_girlGoes 6 = .ok (.aload_n 0, 1) := by decide +kernel
theorem dX11_girlGoes_7 : decode cX11_girlGoes 7 = .ok (.getfield 7, 3) := by decide +kernel
theorem dX11_girlGoes_10 : decode cX11_girlGoes 10 = .ok (.bipush 7, 2) := by decide +kernel
theorem dX11_girlGoes_12 : decode cX11_girlGoes 12 = .ok (.iload_n 1, 1) := by decide +kernel
theorem dX11_girlGoes_13 : decode cX11_girlGoes 13 = .ok (.iadd, 1) := by decide +kernel
theorem dX11_girlGoes_14 : decode cX11_girlGoes 14 = .ok (.aload_n 0, 1) := by decide +kernel
theorem dX11_girlGoes_15 : decode cX11_girlGoes 15 = .ok (.getfield 7, 3) := by decide +kernel
theorem dX11_girlGoes_18 : decode cX11_girlGoes 18 = .ok (.bipush 7, 2) := by decide +kernel
theorem dX11_girlGoes_20 : decode cX11_girlGoes 20 = .ok (.iload_n 1, 1) := by decide +kernel
theorem dX11_girlGoes_21 : decode cX11_girlGoes 21 = .ok (.iadd, 1) := by decide +kernel
theorem dX11_girlGoes_22 : decode cX11_girlGoes 22 = .ok (.iaload, 1) := by decide +kernel
theorem dX11_girlGoes_23 : decode cX11_girlGoes 23 = .ok (.iconst 1, 1) := by decide +kernel
theorem dX11_girlGoes_24 : decode cX11_girlGoes 24 = .ok (.isub, 1) := by decide +kernel
theorem dX11_girlGoes_25 : decode cX11_girlGoes 25 = .ok (.iastore, 1) := by decide +kernel
theorem dX11_girlGoes_26 : decode cX11_girlGoes 26 = .ok (.aload_n 0, 1) := by decide +kernel
theorem dX11_girlGoes_27 : decode cX11_girlGoes 27 = .ok (.iload_n 1, 1) := by decide +kernel
theorem dX11_girlGoes_28 : decode cX11_girlGoes 28 = .ok (.invokevirtual 335, 3) := by decide +kernel
theorem dX11_girlGoes_31 : decode cX11_girlGoes 31 = .ok (.istore_n 3, 1) := by decide +kernel
theorem dX11_girlGoes_32 : decode cX11_girlGoes 32 = .ok (.aload_n 0, 1) := by decide +kernel
theorem dX11_girlGoes_33 : decode cX11_girlGoes 33 = .ok (.getfield 7, 3) := by decide +kernel
theorem dX11_girlGoes_36 : decode cX11_girlGoes 36 = .ok (.bipush 55, 2) := by decide +kernel
theorem dX11_girlGoes_38 : decode cX11_girlGoes 38 = .ok (.iload_n 1, 1) := by decide +kernel
theorem dX11_girlGoes_39 : decode cX11_girlGoes 39 = .ok (.iadd, 1) := by decide +kernel
theorem dX11_girlGoes_40 : decode cX11_girlGoes 40 = .ok (.aload_n 0, 1) := by decide +kernel
theorem dX11_girlGoes_41 : decode cX11_girlGoes 41 = .ok (.getfield 7, 3) := by decide +kernel
theorem dX11_girlGoes_44 : decode cX11_girlGoes 44 = .ok (.bipush 55, 2) := by decide +kernel
theorem dX11_girlGoes_46 : decode cX11_girlGoes 46 = .ok (.iload_n 1, 1) := by decide +kernel
theorem dX11_girlGoes_47 : decode cX11_girlGoes 47 = .ok (.iadd, 1) := by decide +kernel
theorem dX11_girlGoes_48 : decode cX11_girlGoes 48 = .ok (.iaload, 1) := by decide +kernel
theorem dX11_girlGoes_49 : decode cX11_girlGoes 49 = .ok (.iload_n 3, 1) := by decide +kernel
theorem dX11_girlGoes_50 : decode cX11_girlGoes 50 = .ok (.isub, 1) := by decide +kernel
theorem dX11_girlGoes_51 : decode cX11_girlGoes 51 = .ok (.iastore, 1) := by decide +kernel
theorem dX11_girlGoes_52 : decode cX11_girlGoes 52 = .ok (.aload_n 0, 1) := by decide +kernel
theorem dX11_girlGoes_53 : decode cX11_girlGoes 53 = .ok (.getfield 7, 3) := by decide +kernel
theorem dX11_girlGoes_56 : decode cX11_girlGoes 56 = .ok (.bipush 71, 2) := by decide +kernel
theorem dX11_girlGoes_58 : decode cX11_girlGoes 58 = .ok (.iload_n 1, 1) := by decide +kernel
theorem dX11_girlGoes_59 : decode cX11_girlGoes 59 = .ok (.iadd, 1) := by decide +kernel
theorem dX11_girlGoes_60 : decode cX11_girlGoes 60 = .ok (.iaload, 1) := by decide +kernel
theorem dX11_girlGoes_61 : decode cX11_girlGoes 61 = .ok (.istore 4, 2) := by decide +kernel
theorem dX11_girlGoes_63 : decode cX11_girlGoes 63 = .ok (.aload_n 0, 1) := by decide +kernel
theorem dX11_girlGoes_64 : decode cX11_girlGoes 64 = .ok (.getfield 7, 3) := by decide +kernel
theorem dX11_girlGoes_67 : decode cX11_girlGoes 67 = .ok (.bipush 71, 2) := by decide +kernel
theorem dX11_girlGoes_69 : decode cX11_girlGoes 69 = .ok (.iload_n 1, 1) := by decide +kernel
theorem dX11_girlGoes_70 : decode cX11_girlGoes 70 = .ok (.iadd, 1) := by decide +kernel
theorem dX11_girlGoes_71 : decode cX11_girlGoes 71 = .ok (.iconst 0, 1) := by decide +kernel
theorem dX11_girlGoes_72 : decode cX11_girlGoes 72 = .ok (.iastore, 1) := by decide +kernel
theorem dX11_girlGoes_73 : decode cX11_girlGoes 73 = .ok (.iload_n 2, 1) := by decide +kernel
theorem dX11_girlGoes_74 : decode cX11_girlGoes 74 = .ok (.iconst (-1), 1) := by decide +kernel
theorem dX11_girlGoes_75 : decode cX11_girlGoes 75 = .ok (.if_icmp .ne 25, 3) := by decide +kernel
theorem dX11_girlGoes_78 : decode cX11_girlGoes 78 = .ok (.aload_n 0, 1) := by decide +kernel
theorem dX11_girlGoes_79 : decode cX11_girlGoes 79 = .ok (.getfield 7, 3) := by decide +kernel
theorem dX11_girlGoes_82 : decode cX11_girlGoes 82 = .ok (.iconst 3, 1) := by decide +kernel
theorem dX11_girlGoes_83 : decode cX11_girlGoes 83 = .ok (.aload_n 0, 1) := by decide +kernel
theorem dX11_girlGoes_84 : decode cX11_girlGoes 84 = .ok (.getfield 7, 3) := by decide +kernel
theorem dX11_girlGoes_87 : decode cX11_girlGoes 87 = .ok (.iconst 3, 1) := by decide +kernel
theorem dX11_girlGoes_88 : decode cX11_girlGoes 88 = .ok (.iaload, 1) := by decide +kernel
theorem dX11_girlGoes_89 : decode cX11_girlGoes 89 = .ok (.iconst 1, 1) := by decide +kernel
theorem dX11_girlGoes_90 : decode cX11_girlGoes 90 = .ok (.iadd, 1) := by decide +kernel
theorem dX11_girlGoes_91 : decode cX11_girlGoes 91 = .ok (.iastore, 1) := by decide +kernel
theorem dX11_girlGoes_92 : decode cX11_girlGoes 92 = .ok (.aload_n 0, 1) := by decide +kernel
theorem dX11_girlGoes_93 : decode cX11_girlGoes 93 = .ok (.iconst 1, 1) := by decide +kernel
theorem dX11_girlGoes_94 : decode cX11_girlGoes 94 = .ok (.iload_n 1, 1) := by decide +kernel
theorem dX11_girlGoes_95 : decode cX11_girlGoes 95 = .ok (.iload_n 3, 1) := by decide +kernel
theorem dX11_girlGoes_96 : decode cX11_girlGoes 96 = .ok (.invokevirtual 338, 3) := by decide +kernel
theorem dX11_girlGoes_99 : decode cX11_girlGoes 99 = .ok (.return_, 1) := by decide +kernel
theorem dX11_girlGoes_100 : decode cX11_girlGoes 100 = .ok (.aload_n 0, 1) := by decide +kernel
theorem dX11_girlGoes_101 : decode cX11_girlGoes 101 = .ok (.iload_n 2, 1) := by decide +kernel
theorem dX11_girlGoes_102 : decode cX11_girlGoes 102 = .ok (.iload_n 3, 1) := by decide +kernel
theorem dX11_girlGoes_103 : decode cX11_girlGoes 103 = .ok (.invokevirtual 342, 3) := by decide +kernel
theorem dX11_girlGoes_106 : decode cX11_girlGoes 106 = .ok (.aload_n 0, 1) := by decide +kernel
theorem dX11_girlGoes_107 : decode cX11_girlGoes 107 = .ok (.getfield 7, 3) := by decide +kernel
theorem dX11_girlGoes_110 : decode cX11_girlGoes 110 = .ok (.bipush 23, 2) := by decide +kernel
theorem dX11_girlGoes_112 : decode cX11_girlGoes 112 = .ok (.iload_n 2, 1) := by decide +kernel
theorem dX11_girlGoes_113 : decode cX11_girlGoes 113 = .ok (.iadd, 1) := by decide +kernel
theorem dX11_girlGoes_114 : decode cX11_girlGoes 114 = .ok (.aload_n 0, 1) := by decide +kernel
theorem dX11_girlGoes_115 : decode cX11_girlGoes 115 = .ok (.getfield 7, 3) := by decide +kernel
theorem dX11_girlGoes_118 : decode cX11_girlGoes 118 = .ok (.bipush 23, 2) := by decide +kernel
theorem dX11_girlGoes_120 : decode cX11_girlGoes 120 = .ok (.iload_n 2, 1) := by decide +kernel
theorem dX11_girlGoes_121 : decode cX11_girlGoes 121 = .ok (.iadd, 1) := by decide +kernel
theorem dX11_girlGoes_122 : decode cX11_girlGoes 122 = .ok (.iaload, 1) := by decide +kernel
theorem dX11_girlGoes_123 : decode cX11_girlGoes 123 = .ok (.iconst 1, 1) := by decide +kernel
theorem dX11_girlGoes_124 : decode cX11_girlGoes 124 = .ok (.isub, 1) := by decide +kernel
theorem dX11_girlGoes_125 : decode cX11_girlGoes 125 = .ok (.iastore, 1) := by decide +kernel
theorem dX11_girlGoes_126 : decode cX11_girlGoes 126 = .ok (.aload_n 0, 1) := by decide +kernel
theorem dX11_girlGoes_127 : decode cX11_girlGoes 127 = .ok (.getfield 7, 3) := by decide +kernel
theorem dX11_girlGoes_130 : decode cX11_girlGoes 130 = .ok (.bipush 39, 2) := by decide +kernel
theorem dX11_girlGoes_132 : decode cX11_girlGoes 132 = .ok (.iload_n 2, 1) := by decide +kernel
theorem dX11_girlGoes_133 : decode cX11_girlGoes 133 = .ok (.iadd, 1) := by decide +kernel
theorem dX11_girlGoes_134 : decode cX11_girlGoes 134 = .ok (.aload_n 0, 1) := by decide +kernel
theorem dX11_girlGoes_135 : decode cX11_girlGoes 135 = .ok (.bipush 9, 2) := by decide +kernel
theorem dX11_girlGoes_137 : decode cX11_girlGoes 137 = .ok (.aload_n 0, 1) := by decide +kernel
theorem dX11_girlGoes_138 : decode cX11_girlGoes 138 = .ok (.getfield 7, 3) := by decide +kernel
theorem dX11_girlGoes_141 : decode cX11_girlGoes 141 = .ok (.bipush 39, 2) := by decide +kernel
theorem dX11_girlGoes_143 : decode cX11_girlGoes 143 = .ok (.iload_n 2, 1) := by decide +kernel
theorem dX11_girlGoes_144 : decode cX11_girlGoes 144 = .ok (.iadd, 1) := by decide +kernel
theorem dX11_girlGoes_145 : decode cX11_girlGoes 145 = .ok (.iaload, 1) := by decide +kernel
theorem dX11_girlGoes_146 : decode cX11_girlGoes 146 = .ok (.iconst 1, 1) := by decide +kernel
theorem dX11_girlGoes_147 : decode cX11_girlGoes 147 = .ok (.iadd, 1) := by decide +kernel
theorem dX11_girlGoes_148 : decode cX11_girlGoes 148 = .ok (.invokevirtual 332, 3) := by decide +kernel
theorem dX11_girlGoes_151 : decode cX11_girlGoes 151 = .ok (.iastore, 1) := by decide +kernel
theorem dX11_girlGoes_152 : decode cX11_girlGoes 152 = .ok (.aload_n 0, 1) := by decide +kernel
theorem dX11_girlGoes_153 : decode cX11_girlGoes 153 = .ok (.getfield 7, 3) := by decide +kernel
theorem dX11_girlGoes_156 : decode cX11_girlGoes 156 = .ok (.iconst 5, 1) := by decide +kernel
theorem dX11_girlGoes_157 : decode cX11_girlGoes 157 = .ok (.aload_n 0, 1) := by decide +kernel
theorem dX11_girlGoes_158 : decode cX11_girlGoes 158 = .ok (.getfield 7, 3) := by decide +kernel
theorem dX11_girlGoes_161 : decode cX11_girlGoes 161 = .ok (.iconst 5, 1) := by decide +kernel
theorem dX11_girlGoes_162 : decode cX11_girlGoes 162 = .ok (.iaload, 1) := by decide +kernel
theorem dX11_girlGoes_163 : decode cX11_girlGoes 163 = .ok (.iconst 1, 1) := by decide +kernel
theorem dX11_girlGoes_164 : decode cX11_girlGoes 164 = .ok (.iadd, 1) := by decide +kernel
theorem dX11_girlGoes_165 : decode cX11_girlGoes 165 = .ok (.iastore, 1) := by decide +kernel
theorem dX11_girlGoes_166 : decode cX11_girlGoes 166 = .ok (.iload 4, 2) := by decide +kernel
theorem dX11_girlGoes_168 : decode cX11_girlGoes 168 = .ok (.ifCond .le 14, 3) := by decide +kernel
theorem dX11_girlGoes_171 : decode cX11_girlGoes 171 = .ok (.aload_n 0, 1) := by decide +kernel
theorem dX11_girlGoes_172 : decode cX11_girlGoes 172 = .ok (.getfield 7, 3) := by decide +kernel
theorem dX11_girlGoes_175 : decode cX11_girlGoes 175 = .ok (.bipush 71, 2) := by decide +kernel
theorem dX11_girlGoes_177 : decode cX11_girlGoes 177 = .ok (.iload_n 2, 1) := by decide +kernel
theorem dX11_girlGoes_178 : decode cX11_girlGoes 178 = .ok (.iadd, 1) := by decide +kernel
theorem dX11_girlGoes_179 : decode cX11_girlGoes 179 = .ok (.iload 4, 2) := by decide +kernel
theorem dX11_girlGoes_181 : decode cX11_girlGoes 181 = .ok (.iastore, 1) := by decide +kernel
theorem dX11_girlGoes_182 : decode cX11_girlGoes 182 = .ok (.aload_n 0, 1) := by decide +kernel
theorem dX11_girlGoes_183 : decode cX11_girlGoes 183 = .ok (.getfield 7, 3) := by decide +kernel
theorem dX11_girlGoes_186 : decode cX11_girlGoes 186 = .ok (.bipush 6, 2) := by decide +kernel
theorem dX11_girlGoes_188 : decode cX11_girlGoes 188 = .ok (.iaload, 1) := by decide +kernel
theorem dX11_girlGoes_189 : decode cX11_girlGoes 189 = .ok (.iload_n 1, 1) := by decide +kernel
theorem dX11_girlGoes_190 : decode cX11_girlGoes 190 = .ok (.if_icmp .ne 11, 3) := by decide +kernel
theorem dX11_girlGoes_193 : decode cX11_girlGoes 193 = .ok (.aload_n 0, 1) := by decide +kernel
theorem dX11_girlGoes_194 : decode cX11_girlGoes 194 = .ok (.getfield 7, 3) := by decide +kernel
theorem dX11_girlGoes_197 : decode cX11_girlGoes 197 = .ok (.bipush 6, 2) := by decide +kernel
theorem dX11_girlGoes_199 : decode cX11_girlGoes 199 = .ok (.iload_n 2, 1) := by decide +kernel
theorem dX11_girlGoes_200 : decode cX11_girlGoes 200 = .ok (.iastore, 1) := by decide +kernel
theorem dX11_girlGoes_201 : decode cX11_girlGoes 201 = .ok (.aload_n 0, 1) := by decide +kernel
theorem dX11_girlGoes_202 : decode cX11_girlGoes 202 = .ok (.iconst 0, 1) := by decide +kernel
theorem dX11_girlGoes_203 : decode cX11_girlGoes 203 = .ok (.iload_n 1, 1) := by decide +kernel
theorem dX11_girlGoes_204 : decode cX11_girlGoes 204 = .ok (.iload_n 3, 1) := by decide +kernel
theorem dX11_girlGoes_205 : decode cX11_girlGoes 205 = .ok (.invokevirtual 338, 3) := by decide +kernel
theorem dX11_girlGoes_208 : decode cX11_girlGoes 208 = .ok (.return_, 1) := by decide +kernel
theorem dX11_canAct_0 : decode cX11_canAct 0 = .ok (.aload_n 0, 1) := by decide +kernel
theorem dX11_canAct_1 : decode cX11_canAct 1 = .ok (.iload_n 2, 1) := by decide +kernel
theorem dX11_canAct_2 : decode cX11_canAct 2 = .ok (.invokevirtual 151, 3) := by decide +kernel
theorem dX11_canAct_5 : decode cX11_canAct 5 = .ok (.ifCond .ne 5, 3) := by decide +kernel
theorem dX11_canAct_8 : decode cX11_canAct 8 = .ok (.iconst 0, 1) := by decide +kernel
theorem dX11_canAct_9 : decode cX11_canAct 9 = .ok (.ireturn, 1) := by decide +kernel
theorem dX11_canAct_10 : decode cX11_canAct 10 = .ok (.iload_n 1, 1) := by decide +kernel
theorem dX11_canAct_11 : decode cX11_canAct 11 = .ok (.ifCond .ne 29, 3) := by decide +kernel
theorem dX11_canAct_14 : decode cX11_canAct 14 = .ok (.aload_n 0, 1) := by decide +kernel
theorem dX11_canAct_15 : decode cX11_canAct 15 = .ok (.getfield 7, 3) := by decide +kernel
theorem dX11_canAct_18 : decode cX11_canAct 18 = .ok (.bipush 7, 2) := by decide +kernel
theorem dX11_canAct_20 : decode cX11_canAct 20 = .ok (.iload_n 2, 1) := by decide +kernel
theorem dX11_canAct_21 : decode cX11_canAct 21 = .ok (.iadd, 1) := by decide +kernel
theorem dX11_canAct_22 : decode cX11_canAct 22 = .ok (.iaload, 1) := by decide +kernel
theorem dX11_canAct_23 : decode cX11_canAct 23 = .ok (.ifCond .le 15, 3) := by decide +kernel
theorem dX11_canAct_26 : decode cX11_canAct 26 = .ok (.aload_n 0, 1) := by decide +kernel
theorem dX11_canAct_27 : decode cX11_canAct 27 = .ok (.iload_n 2, 1) := by decide +kernel
theorem dX11_canAct_28 : decode cX11_canAct 28 = .ok (.invokevirtual 345, 3) := by decide +kernel
theorem dX11_canAct_31 : decode cX11_canAct 31 = .ok (.ifCond .eq 7, 3) := by decide +kernel
theorem dX11_canAct_34 : decode cX11_canAct 34 = .ok (.iconst 1, 1) := by decide +kernel
theorem dX11_canAct_35 : decode cX11_canAct 35 = .ok (.goto 4, 3) := by decide +kernel
theorem dX11_canAct_38 : decode cX11_canAct 38 = .ok (.iconst 0, 1) := by decide +kernel
theorem dX11_canAct_39 : decode cX11_canAct 39 = .ok (.ireturn, 1) := by decide +kernel
theorem dX11_canAct_40 : decode cX11_canAct 40 = .ok (.iload_n 1, 1) := by decide +kernel
theorem dX11_canAct_41 : decode cX11_canAct 41 = .ok (.iconst 1, 1) := by decide +kernel
theorem dX11_canAct_42 : decode cX11_canAct 42 = .ok (.if_icmp .eq 8, 3) := by decide +kernel
theorem dX11_canAct_45 : decode cX11_canAct 45 = .ok (.iload_n 1, 1) := by decide +kernel
theorem dX11_canAct_46 : decode cX11_canAct 46 = .ok (.iconst 2, 1) := by decide +kernel
theorem dX11_canAct_47 : decode cX11_canAct 47 = .ok (.if_icmp .ne 33, 3) := by decide +kernel
theorem dX11_canAct_50 : decode cX11_canAct 50 = .ok (.aload_n 0, 1) := by decide +kernel
theorem dX11_canAct_51 : decode cX11_canAct 51 = .ok (.getfield 7, 3) := by decide +kernel
theorem dX11_canAct_54 : decode cX11_canAct 54 = .ok (.iload_n 1, 1) := by decide +kernel
theorem dX11_canAct_55 : decode cX11_canAct 55 = .ok (.iconst 1, 1) := by decide +kernel
theorem dX11_canAct_56 : decode cX11_canAct 56 = .ok (.if_icmp .ne 8, 3) := by decide +kernel
theorem dX11_canAct_59 : decode cX11_canAct 59 = .ok (.bipush 7, 2) := by decide +kernel
theorem dX11_canAct_61 : decode cX11_canAct 61 = .ok (.goto 5, 3) := by decide +kernel
theorem dX11_canAct_64 : decode cX11_canAct 64 = .ok (.bipush 23, 2) := by decide +kernel
theorem dX11_canAct_66 : decode cX11_canAct 66 = .ok (.iload_n 2, 1) := by decide +kernel
theorem dX11_canAct_67 : decode cX11_canAct 67 = .ok (.iadd, 1) := by decide +kernel
theorem dX11_canAct_68 : decode cX11_canAct 68 = .ok (.iaload, 1) := by decide +kernel
theorem dX11_canAct_69 : decode cX11_canAct 69 = .ok (.bipush 9, 2) := by decide +kernel
theorem dX11_canAct_71 : decode cX11_canAct 71 = .ok (.if_icmp .ge 7, 3) := by decide +kernel
theorem dX11_canAct_74 : decode cX11_canAct 74 = .ok (.iconst 1, 1) := by decide +kernel
theorem dX11_canAct_75 : decode cX11_canAct 75 = .ok (.goto 4, 3) := by decide +kernel
theorem dX11_canAct_78 : decode cX11_canAct 78 = .ok (.iconst 0, 1) := by decide +kernel
theorem dX11_canAct_79 : decode cX11_canAct 79 = .ok (.ireturn, 1) := by decide +kernel
theorem dX11_canAct_80 : decode cX11_canAct 80 = .ok (.iload_n 1, 1) := by decide +kernel
theorem dX11_canAct_81 : decode cX11_canAct 81 = .ok (.iconst 3, 1) := by decide +kernel
theorem dX11_canAct_82 : decode cX11_canAct 82 = .ok (.if_icmp .ne 16, 3) := by decide +kernel
theorem dX11_canAct_85 : decode cX11_canAct 85 = .ok (.aload_n 0, 1) := by decide +kernel
theorem dX11_canAct_86 : decode cX11_canAct 86 = .ok (.getfield 7, 3) := by decide +kernel
theorem dX11_canAct_89 : decode cX11_canAct 89 = .ok (.bipush 87, 2) := by decide +kernel
theorem dX11_canAct_91 : decode cX11_canAct 91 = .ok (.iload_n 2, 1) := by decide +kernel
theorem dX11_canAct_92 : decode cX11_canAct 92 = .ok (.iadd, 1) := by decide +kernel
theorem dX11_canAct_93 : decode cX11_canAct 93 = .ok (.iaload, 1) := by decide +kernel
theorem dX11_canAct_94 : decode cX11_canAct 94 = .ok (.iconst 1, 1) := by decide +kernel
theorem dX11_canAct_95 : decode cX11_canAct 95 = .ok (.if_icmp .eq 19, 3) := by decide +kernel
theorem dX11_canAct_98 : decode cX11_canAct 98 = .ok (.iload_n 1, 1) := by decide +kernel
theorem dX11_canAct_99 : decode cX11_canAct 99 = .ok (.iconst 4, 1) := by decide +kernel
theorem dX11_canAct_100 : decode cX11_canAct 100 = .ok (.if_icmp .ne 18, 3) := by decide +kernel
theorem dX11_canAct_103 : decode cX11_canAct 103 = .ok (.aload_n 0, 1) := by decide +kernel
theorem dX11_canAct_104 : decode cX11_canAct 104 = .ok (.getfield 7, 3) := by decide +kernel
theorem dX11_canAct_107 : decode cX11_canAct 107 = .ok (.bipush 6, 2) := by decide +kernel
theorem dX11_canAct_109 : decode cX11_canAct 109 = .ok (.iaload, 1) := by decide +kernel
theorem dX11_canAct_110 : decode cX11_canAct 110 = .ok (.iload_n 2, 1) := by decide +kernel
theorem dX11_canAct_111 : decode cX11_canAct 111 = .ok (.if_icmp .eq 7, 3) := by decide +kernel
theorem dX11_canAct_114 : decode cX11_canAct 114 = .ok (.iconst 1, 1) := by decide +kernel
theorem dX11_canAct_115 : decode cX11_canAct 115 = .ok (.goto 4, 3) := by decide +kernel
theorem dX11_canAct_118 : decode cX11_canAct 118 = .ok (.iconst 0, 1) := by decide +kernel
theorem dX11_canAct_119 : decode cX11_canAct 119 = .ok (.ireturn, 1) := by decide +kernel
theorem dX11_act_0 : decode cX11_act 0 = .ok (.aload_n 0, 1) := by decide +kernel
theorem dX11_act_1 : decode cX11_act 1 = .ok (.iconst 0, 1) := by decide +kernel
theorem dX11_act_2 : decode cX11_act 2 = .ok (.putfield 132, 3) := by decide +kernel
theorem dX11_act_5 : decode cX11_act 5 = .ok (.aload_n 0, 1) := by decide +kernel
theorem dX11_act_6 : decode cX11_act 6 = .ok (.iload_n 1, 1) := by decide +kernel
theorem dX11_act_7 : decode cX11_act 7 = .ok (.iload_n 2, 1) := by decide +kernel
theorem dX11_act_8 : decode cX11_act 8 = .ok (.invokevirtual 348, 3) := by decide +kernel
theorem dX11_act_11 : decode cX11_act 11 = .ok (.ifCond .ne 5, 3) := by decide +kernel
theorem dX11_act_14 : decode cX11_act 14 = .ok (.iconst 0, 1) := by decide +kernel
theorem dX11_act_15 : decode cX11_act 15 = .ok (.ireturn, 1) := by decide +kernel
theorem dX11_act_16 : decode cX11_act 16 = .ok (.aload_n 0, 1) := by decide +kernel
theorem dX11_act_17 : decode cX11_act 17 = .ok (.invokevirtual 351, 3) := by decide +kernel
theorem dX11_act_20 : decode cX11_act 20 = .ok (.iload_n 1, 1) := by decide +kernel
theorem dX11_act_21 : decode cX11_act 21 = .ok (.ifCond .ne 8, 3) := by decide +kernel
theorem dX11_act_24 : decode cX11_act 24 = .ok (.aload_n 0, 1) := by decide +kernel
theorem dX11_act_25 : decode cX11_act 25 = .ok (.iload_n 2, 1) := by decide +kernel
theorem dX11_act_26 : decode cX11_act 26 = .ok (.invokevirtual 354, 3) := by decide +kernel
theorem dX11_act_29 : decode cX11_act 29 = .ok (.iload_n 1, 1) := by decide +kernel
theorem dX11_act_30 : decode cX11_act 30 = .ok (.iconst 1, 1) := by decide +kernel
theorem dX11_act_31 : decode cX11_act 31 = .ok (.if_icmp .ne 23, 3) := by decide +kernel
theorem dX11_act_34 : decode cX11_act 34 = .ok (.aload_n 0, 1) := by decide +kernel
theorem dX11_act_35 : decode cX11_act 35 = .ok (.getfield 7, 3) := by decide +kernel
theorem dX11_act_38 : decode cX11_act 38 = .ok (.bipush 7, 2) := by decide +kernel
theorem dX11_act_40 : decode cX11_act 40 = .ok (.iload_n 2, 1) := by decide +kernel
theorem dX11_act_41 : decode cX11_act 41 = .ok (.iadd, 1) := by decide +kernel
theorem dX11_act_42 : decode cX11_act 42 = .ok (.aload_n 0, 1) := by decide +kernel
theorem dX11_act_43 : decode cX11_act 43 = .ok (.getfield 7, 3) := by decide +kernel
theorem dX11_act_46 : decode cX11_act 46 = .ok (.bipush 7, 2) := by decide +kernel
theorem dX11_act_48 : decode cX11_act 48 = .ok (.iload_n 2, 1) := by decide +kernel
theorem dX11_act_49 : decode cX11_act 49 = .ok (.iadd, 1) := by decide +kernel
theorem dX11_act_50 : decode cX11_act 50 = .ok (.iaload, 1) := by decide +kernel
theorem dX11_act_51 : decode cX11_act 51 = .ok (.iconst 1, 1) := by decide +kernel
theorem dX11_act_52 : decode cX11_act 52 = .ok (.iadd, 1) := by decide +kernel
theorem dX11_act_53 : decode cX11_act 53 = .ok (.iastore, 1) := by decide +kernel
theorem dX11_act_54 : decode cX11_act 54 = .ok (.iload_n 1, 1) := by decide +kernel
theorem dX11_act_55 : decode cX11_act 55 = .ok (.iconst 2, 1) := by decide +kernel
theorem dX11_act_56 : decode cX11_act 56 = .ok (.if_icmp .ne 23, 3) := by decide +kernel
theorem dX11_act_59 : decode cX11_act 59 = .ok (.aload_n 0, 1) := by decide +kernel
theorem dX11_act_60 : decode cX11_act 60 = .ok (.getfield 7, 3) := by decide +kernel
theorem dX11_act_63 : decode cX11_act 63 = .ok (.bipush 23, 2) := by decide +kernel
theorem dX11_act_65 : decode cX11_act 65 = .ok (.iload_n 2, 1) := by decide +kernel
theorem dX11_act_66 : decode cX11_act 66 = .ok (.iadd, 1) := by decide +kernel
theorem dX11_act_67 : decode cX11_act 67 = .ok (.aload_n 0, 1) := by decide +kernel
theorem dX11_act_68 : decode cX11_act 68 = .ok (.getfield 7, 3) := by decide +kernel
theorem dX11_act_71 : decode cX11_act 71 = .ok (.bipush 23, 2) := by decide +kernel
theorem dX11_act_73 : decode cX11_act 73 = .ok (.iload_n 2, 1) := by decide +kernel
theorem dX11_act_74 : decode cX11_act 74 = .ok (.iadd, 1) := by decide +kernel
theorem dX11_act_75 : decode cX11_act 75 = .ok (.iaload, 1) := by decide +kernel
theorem dX11_act_76 : decode cX11_act 76 = .ok (.iconst 1, 1) := by decide +kernel
theorem dX11_act_77 : decode cX11_act 77 = .ok (.iadd, 1) := by decide +kernel
theorem dX11_act_78 : decode cX11_act 78 = .ok (.iastore, 1) := by decide +kernel
theorem dX11_act_79 : decode cX11_act 79 = .ok (.iload_n 1, 1) := by decide +kernel
theorem dX11_act_80 : decode cX11_act 80 = .ok (.iconst 3, 1) := by decide +kernel
theorem dX11_act_81 : decode cX11_act 81 = .ok (.if_icmp .ne 13, 3) := by decide +kernel
theorem dX11_act_84 : decode cX11_act 84 = .ok (.aload_n 0, 1) := by decide +kernel
theorem dX11_act_85 : decode cX11_act 85 = .ok (.getfield 7, 3) := by decide +kernel
theorem dX11_act_88 : decode cX11_act 88 = .ok (.bipush 87, 2) := by decide +kernel
theorem dX11_act_90 : decode cX11_act 90 = .ok (.iload_n 2, 1) := by decide +kernel
theorem dX11_act_91 : decode cX11_act 91 = .ok (.iadd, 1) := by decide +kernel
theorem dX11_act_92 : decode cX11_act 92 = .ok (.iconst 0, 1) := by decide +kernel
theorem dX11_act_93 : decode cX11_act 93 = .ok (.iastore, 1) := by decide +kernel
theorem dX11_act_94 : decode cX11_act 94 = .ok (.iload_n 1, 1) := by decide +kernel
theorem dX11_act_95 : decode cX11_act 95 = .ok (.iconst 4, 1) := by decide +kernel
theorem dX11_act_96 : decode cX11_act 96 = .ok (.if_icmp .ne 11, 3) := by decide +kernel
theorem dX11_act_99 : decode cX11_act 99 = .ok (.aload_n 0, 1) := by decide +kernel
theorem dX11_act_100 : decode cX11_act 100 = .ok (.getfield 7, 3) := by decide +kernel
theorem dX11_act_103 : decode cX11_act 103 = .ok (.bipush 6, 2) := by decide +kernel
theorem dX11_act_105 : decode cX11_act 105 = .ok (.iload_n 2, 1) := by decide +kernel
theorem dX11_act_106 : decode cX11_act 106 = .ok (.iastore, 1) := by decide +kernel
theorem dX11_act_107 : decode cX11_act 107 = .ok (.iconst 1, 1) := by decide +kernel
theorem dX11_act_108 : decode cX11_act 108 = .ok (.ireturn, 1) := by decide +kernel
theorem dX11_happens_0 : decode cX11_happens 0 = .ok (.aload_n 0, 1) := by decide +kernel
theorem dX11_happens_1 : decode cX11_happens 1 = .ok (.getfield 138, 3) := by decide +kernel
theorem dX11_happens_4 : decode cX11_happens 4 = .ok (.ifCond .eq 20, 3) := by decide +kernel
theorem dX11_happens_7 : decode cX11_happens 7 = .ok (.iconst 2, 1) := by decide +kernel
theorem dX11_happens_8 : decode cX11_happens 8 = .ok (.iload_n 1, 1) := by decide +kernel
theorem dX11_happens_9 : decode cX11_happens 9 = .ok (.imul, 1) := by decide +kernel
theorem dX11_happens_10 : decode cX11_happens 10 = .ok (.sipush 1000, 3) := by decide +kernel
theorem dX11_happens_13 : decode cX11_happens 13 = .ok (.if_icmp .lt 7, 3) := by decide +kernel
theorem dX11_happens_16 : decode cX11_happens 16 = .ok (.iconst 1, 1) := by decide +kernel
theorem dX11_happens_17 : decode cX11_happens 17 = .ok (.goto 27, 3) := by decide +kernel
theorem dX11_happens_20 : decode cX11_happens 20 = .ok (.iconst 0, 1) := by decide +kernel
theorem dX11_happens_21 : decode cX11_happens 21 = .ok (.goto 23, 3) := by decide +kernel
theorem dX11_happens_24 : decode cX11_happens 24 = .ok (.iload_n 1, 1) := by decide +kernel
theorem dX11_happens_25 : decode cX11_happens 25 = .ok (.ifCond .le 18, 3) := by decide +kernel
theorem dX11_happens_28 : decode cX11_happens 28 = .ok (.aload_n 0, 1) := by decide +kernel
theorem dX11_happens_29 : decode cX11_happens 29 = .ok (.sipush 1000, 3) := by decide +kernel
theorem dX11_happens_32 : decode cX11_happens 32 = .ok (.invokevirtual 357, 3) := by decide +kernel
theorem dX11_happens_35 : decode cX11_happens 35 = .ok (.iload_n 1, 1) := by decide +kernel
theorem dX11_happens_36 : decode cX11_happens 36 = .ok (.if_icmp .ge 7, 3) := by decide +kernel
theorem dX11_happens_39 : decode cX11_happens 39 = .ok (.iconst 1, 1) := by decide +kernel
theorem dX11_happens_40 : decode cX11_happens 40 = .ok (.goto 4, 3) := by decide +kernel
theorem dX11_happens_43 : decode cX11_happens 43 = .ok (.iconst 0, 1) := by decide +kernel
theorem dX11_happens_44 : decode cX11_happens 44 = .ok (.ireturn, 1) := by decide +kernel
theorem dX11_does_0 : decode cX11_does 0 = .ok (.aload_n 0, 1) := by decide +kernel
theorem dX11_does_1 : decode cX11_does 1 = .ok (.getfield 56, 3) := by decide +kernel
theorem dX11_does_4 : decode cX11_does 4 = .ok (.iload_n 1, 1) := by decide +kernel
theorem dX11_does_5 : decode cX11_does 5 = .ok (.iconst 1, 1) := by decide +kernel
theorem dX11_does_6 : decode cX11_does 6 = .ok (.iadd, 1) := by decide +kernel
theorem dX11_does_7 : decode cX11_does 7 = .ok (.iaload, 1) := by decide +kernel
theorem dX11_does_8 : decode cX11_does 8 = .ok (.istore_n 2, 1) := by decide +kernel
theorem dX11_does_9 : decode cX11_does 9 = .ok (.aload_n 0, 1) := by decide +kernel
theorem dX11_does_10 : decode cX11_does 10 = .ok (.getfield 56, 3) := by decide +kernel
theorem dX11_does_13 : decode cX11_does 13 = .ok (.iload_n 1, 1) := by decide +kernel
theorem dX11_does_14 : decode cX11_does 14 = .ok (.iconst 2, 1) := by decide +kernel
theorem dX11_does_15 : decode cX11_does 15 = .ok (.iadd, 1) := by decide +kernel
theorem dX11_does_16 : decode cX11_does 16 = .ok (.iaload, 1) := by decide +kernel
theorem dX11_does_17 : decode cX11_does 17 = .ok (.istore_n 3, 1) := by decide +kernel
theorem dX11_does_18 : decode cX11_does 18 = .ok (.iload_n 2, 1) := by decide +kernel
theorem dX11_does_19 : decode cX11_does 19 = .ok (.ifCond .ne 29, 3) := by decide +kernel
theorem dX11_does_22 : decode cX11_does 22 = .ok (.aload_n 0, 1) := by decide +kernel
theorem dX11_does_23 : decode cX11_does 23 = .ok (.getfield 7, 3) := by decide +kernel
theorem dX11_does_26 : decode cX11_does 26 = .ok (.bipush 7, 2) := by decide +kernel
theorem dX11_does_28 : decode cX11_does 28 = .ok (.iload_n 3, 1) := by decide +kernel
theorem dX11_does_29 : decode cX11_does 29 = .ok (.iadd, 1) := by decide +kernel
theorem dX11_does_30 : decode cX11_does 30 = .ok (.aload_n 0, 1) := by decide +kernel
theorem dX11_does_31 : decode cX11_does 31 = .ok (.bipush 9, 2) := by decide +kernel
theorem dX11_does_33 : decode cX11_does 33 = .ok (.aload_n 0, 1) := by decide +kernel
theorem dX11_does_34 : decode cX11_does 34 = .ok (.getfield 7, 3) := by decide +kernel
theorem dX11_does_37 : decode cX11_does 37 = .ok (.bipush 7, 2) := by decide +kernel
theorem dX11_does_39 : decode cX11_does 39 = .ok (.iload_n 3, 1) := by decide +kernel
theorem dX11_does_40 : decode cX11_does 40 = .ok (.iadd, 1) := by decide +kernel
theorem dX11_does_41 : decode cX11_does 41 = .ok (.iaload, 1) := by decide +kernel
theorem dX11_does_42 : decode cX11_does 42 = .ok (.iconst 1, 1) := by decide +kernel
theorem dX11_does_43 : decode cX11_does 43 = .ok (.iadd, 1) := by decide +kernel
theorem dX11_does_44 : decode cX11_does 44 = .ok (.invokevirtual 332, 3) := by decide +kernel
theorem dX11_does_47 : decode cX11_does 47 = .ok (.iastore, 1) := by decide +kernel
theorem dX11_does_48 : decode cX11_does 48 = .ok (.iload_n 2, 1) := by decide +kernel
theorem dX11_does_49 : decode cX11_does 49 = .ok (.iconst 1, 1) := by decide +kernel
theorem dX11_does_50 : decode cX11_does 50 = .ok (.if_icmp .ne 29, 3) := by decide +kernel
theorem dX11_does_53 : decode cX11_does 53 = .ok (.aload_n 0, 1) := by decide +kernel
theorem dX11_does_54 : decode cX11_does 54 = .ok (.getfield 7, 3) := by decide +kernel
theorem dX11_does_57 : decode cX11_does 57 = .ok (.bipush 23, 2) := by decide +kernel
theorem dX11_does_59 : decode cX11_does 59 = .ok (.iload_n 3, 1) := by decide +kernel
theorem dX11_does_60 : decode cX11_does 60 = .ok (.iadd, 1) := by decide +kernel
theorem dX11_does_61 : decode cX11_does 61 = .ok (.aload_n 0, 1) := by decide +kernel
theorem dX11_does_62 : decode cX11_does 62 = .ok (.bipush 9, 2) := by decide +kernel
theorem dX11_does_64 : decode cX11_does 64 = .ok (.aload_n 0, 1) := by decide +kernel
theorem dX11_does_65 : decode cX11_does 65 = .ok (.getfield 7, 3) := by decide +kernel
theorem dX11_does_68 : decode cX11_does 68 = .ok (.bipush 23, 2) := by decide +kernel
theorem dX11_does_70 : decode cX11_does 70 = .ok (.iload_n 3, 1) := by decide +kernel
theorem dX11_does_71 : decode cX11_does 71 = .ok (.iadd, 1) := by decide +kernel
theorem dX11_does_72 : decode cX11_does 72 = .ok (.iaload, 1) := by decide +kernel
theorem dX11_does_73 : decode cX11_does 73 = .ok (.iconst 1, 1) := by decide +kernel
theorem dX11_does_74 : decode cX11_does 74 = .ok (.iadd, 1) := by decide +kernel
theorem dX11_does_75 : decode cX11_does 75 = .ok (.invokevirtual 332, 3) := by decide +kernel
theorem dX11_does_78 : decode cX11_does 78 = .ok (.iastore, 1) := by decide +kernel
theorem dX11_does_79 : decode cX11_does 79 = .ok (.iload_n 2, 1) := by decide +kernel
theorem dX11_does_80 : decode cX11_does 80 = .ok (.iconst 2, 1) := by decide +kernel
theorem dX11_does_81 : decode cX11_does 81 = .ok (.if_icmp .eq 8, 3) := by decide +kernel
theorem dX11_does_84 : decode cX11_does 84 = .ok (.iload_n 2, 1) := by decide +kernel
theorem dX11_does_85 : decode cX11_does 85 = .ok (.iconst 3, 1) := by decide +kernel
theorem dX11_does_86 : decode cX11_does 86 = .ok (.if_icmp .ne 22, 3) := by decide +kernel
theorem dX11_does_89 : decode cX11_does 89 = .ok (.aload_n 0, 1) := by decide +kernel
theorem dX11_does_90 : decode cX11_does 90 = .ok (.getfield 7, 3) := by decide +kernel
theorem dX11_does_93 : decode cX11_does 93 = .ok (.bipush 87, 2) := by decide +kernel
theorem dX11_does_95 : decode cX11_does 95 = .ok (.iload_n 3, 1) := by decide +kernel
theorem dX11_does_96 : decode cX11_does 96 = .ok (.iadd, 1) := by decide +kernel
theorem dX11_does_97 : decode cX11_does 97 = .ok (.iload_n 2, 1) := by decide +kernel
theorem dX11_does_98 : decode cX11_does 98 = .ok (.iconst 2, 1) := by decide +kernel
theorem dX11_does_99 : decode cX11_does 99 = .ok (.if_icmp .ne 7, 3) := by decide +kernel
theorem dX11_does_102 : decode cX11_does 102 = .ok (.iconst 1, 1) := by decide +kernel
theorem dX11_does_103 : decode cX11_does 103 = .ok (.goto 4, 3) := by decide +kernel
theorem dX11_does_106 : decode cX11_does 106 = .ok (.iconst 0, 1) := by decide +kernel
theorem dX11_does_107 : decode cX11_does 107 = .ok (.iastore, 1) := by decide +kernel
theorem dX11_does_108 : decode cX11_does 108 = .ok (.iload_n 2, 1) := by decide +kernel
theorem dX11_does_109 : decode cX11_does 109 = .ok (.iconst 4, 1) := by decide +kernel
theorem dX11_does_110 : decode cX11_does 110 = .ok (.if_icmp .ne 16, 3) := by decide +kernel
theorem dX11_does_113 : decode cX11_does 113 = .ok (.aload_n 0, 1) := by decide +kernel
theorem dX11_does_114 : decode cX11_does 114 = .ok (.iload_n 3, 1) := by decide +kernel
theorem dX11_does_115 : decode cX11_does 115 = .ok (.aload_n 0, 1) := by decide +kernel
theorem dX11_does_116 : decode cX11_does 116 = .ok (.getfield 56, 3) := by decide +kernel
theorem dX11_does_119 : decode cX11_does 119 = .ok (.iload_n 1, 1) := by decide +kernel
theorem dX11_does_120 : decode cX11_does 120 = .ok (.iconst 3, 1) := by decide +kernel
theorem dX11_does_121 : decode cX11_does 121 = .ok (.iadd, 1) := by decide +kernel
theorem dX11_does_122 : decode cX11_does 122 = .ok (.iaload, 1) := by decide +kernel
theorem dX11_does_123 : decode cX11_does 123 = .ok (.invokevirtual 342, 3) := by decide +kernel
theorem dX11_does_126 : decode cX11_does 126 = .ok (.iload_n 2, 1) := by decide +kernel
theorem dX11_does_127 : decode cX11_does 127 = .ok (.iconst 5, 1) := by decide +kernel
theorem dX11_does_128 : decode cX11_does 128 = .ok (.if_icmp .ne 11, 3) := by decide +kernel
theorem dX11_does_131 : decode cX11_does 131 = .ok (.aload_n 0, 1) := by decide +kernel
theorem dX11_does_132 : decode cX11_does 132 = .ok (.getfield 7, 3) := by decide +kernel
theorem dX11_does_135 : decode cX11_does 135 = .ok (.bipush 6, 2) := by decide +kernel
theorem dX11_does_137 : decode cX11_does 137 = .ok (.iload_n 3, 1) := by decide +kernel
theorem dX11_does_138 : decode cX11_does 138 = .ok (.iastore, 1) := by decide +kernel
theorem dX11_does_139 : decode cX11_does 139 = .ok (.return_, 1) := by decide +kernel
theorem dX11_girlsGo_0 : decode cX11_girlsGo 0 = .ok (.iconst 0, 1) := by decide +kernel
theorem dX11_girlsGo_1 : decode cX11_girlsGo 1 = .ok (.istore_n 1, 1) := by decide +kernel
theorem dX11_girlsGo_2 : decode cX11_girlsGo 2 = .ok (.iload_n 1, 1) := by decide +kernel
theorem dX11_girlsGo_3 : decode cX11_girlsGo 3 = .ok (.bipush 16, 2) := by decide +kernel
theorem dX11_girlsGo_5 : decode cX11_girlsGo 5 = .ok (.if_icmp .ge 16, 3) := by decide +kernel
theorem dX11_girlsGo_8 : decode cX11_girlsGo 8 = .ok (.aload_n 0, 1) := by decide +kernel
theorem dX11_girlsGo_9 : decode cX11_girlsGo 9 = .ok (.getfield 71, 3) := by decide +kernel
theorem dX11_girlsGo_12 : decode cX11_girlsGo 12 = .ok (.iload_n 1, 1) := by decide +kernel
theorem dX11_girlsGo_13 : decode cX11_girlsGo 13 = .ok (.iconst 0, 1) := by decide +kernel
theorem dX11_girlsGo_14 : decode cX11_girlsGo 14 = .ok (.iastore, 1) := by decide +kernel
theorem dX11_girlsGo_15 : decode cX11_girlsGo 15 = .ok (.iinc 1 1, 3) := by decide +kernel
theorem dX11_girlsGo_18 : decode cX11_girlsGo 18 = .ok (.goto (-16), 3) := by decide +kernel
theorem dX11_girlsGo_21 : decode cX11_girlsGo 21 = .ok (.iconst 0, 1) := by decide +kernel
theorem dX11_girlsGo_22 : decode cX11_girlsGo 22 = .ok (.istore_n 1, 1) := by decide +kernel
theorem dX11_girlsGo_23 : decode cX11_girlsGo 23 = .ok (.iload_n 1, 1) := by decide +kernel
theorem dX11_girlsGo_24 : decode cX11_girlsGo 24 = .ok (.aload_n 0, 1) := by decide +kernel
theorem dX11_girlsGo_25 : decode cX11_girlsGo 25 = .ok (.getfield 144, 3) := by decide +kernel
theorem dX11_girlsGo_28 : decode cX11_girlsGo 28 = .ok (.if_icmp .ge 94, 3) := by decide +kernel
theorem dX11_girlsGo_31 : decode cX11_girlsGo 31 = .ok (.aload_n 0, 1) := by decide +kernel
theorem dX11_girlsGo_32 : decode cX11_girlsGo 32 = .ok (.getfield 7, 3) := by decide +kernel
theorem dX11_girlsGo_35 : decode cX11_girlsGo 35 = .ok (.bipush 7, 2) := by decide +kernel
theorem dX11_girlsGo_37 : decode cX11_girlsGo 37 = .ok (.iload_n 1, 1) := by decide +kernel
theorem dX11_girlsGo_38 : decode cX11_girlsGo 38 = .ok (.iadd, 1) := by decide +kernel
theorem dX11_girlsGo_39 : decode cX11_girlsGo 39 = .ok (.iaload, 1) := by decide +kernel
theorem dX11_girlsGo_40 : decode cX11_girlsGo 40 = .ok (.ifCond .ne 6, 3) := by decide +kernel
theorem dX11_girlsGo_43 : decode cX11_girlsGo 43 = .ok (.goto 73, 3) := by decide +kernel
theorem dX11_girlsGo_46 : decode cX11_girlsGo 46 = .ok (.aload_n 0, 1) := by decide +kernel
theorem dX11_girlsGo_47 : decode cX11_girlsGo 47 = .ok (.iload_n 1, 1) := by decide +kernel
theorem dX11_girlsGo_48 : decode cX11_girlsGo 48 = .ok (.invokevirtual 325, 3) := by decide +kernel
theorem dX11_girlsGo_51 : decode cX11_girlsGo 51 = .ok (.istore_n 2, 1) := by decide +kernel
theorem dX11_girlsGo_52 : decode cX11_girlsGo 52 = .ok (.aload_n 0, 1) := by decide +kernel
theorem dX11_girlsGo_53 : decode cX11_girlsGo 53 = .ok (.iload_n 1, 1) := by decide +kernel
theorem dX11_girlsGo_54 : decode cX11_girlsGo 54 = .ok (.invokevirtual 345, 3) := by decide +kernel
theorem dX11_girlsGo_57 : decode cX11_girlsGo 57 = .ok (.ifCond .ne 27, 3) := by decide +kernel
theorem dX11_girlsGo_60 : decode cX11_girlsGo 60 = .ok (.aload_n 0, 1) := by decide +kernel
theorem dX11_girlsGo_61 : decode cX11_girlsGo 61 = .ok (.getfield 7, 3) := by decide +kernel
theorem dX11_girlsGo_64 : decode cX11_girlsGo 64 = .ok (.iconst 4, 1) := by decide +kernel
theorem dX11_girlsGo_65 : decode cX11_girlsGo 65 = .ok (.aload_n 0, 1) := by decide +kernel
theorem dX11_girlsGo_66 : decode cX11_girlsGo 66 = .ok (.getfield 7, 3) := by decide +kernel
theorem dX11_girlsGo_69 : decode cX11_girlsGo 69 = .ok (.iconst 4, 1) := by decide +kernel
theorem dX11_girlsGo_70 : decode cX11_girlsGo 70 = .ok (.iaload, 1) := by decide +kernel
theorem dX11_girlsGo_71 : decode cX11_girlsGo 71 = .ok (.iconst 1, 1) := by decide +kernel
theorem dX11_girlsGo_72 : decode cX11_girlsGo 72 = .ok (.iadd, 1) := by decide +kernel
theorem dX11_girlsGo_73 : decode cX11_girlsGo 73 = .ok (.iastore, 1) := by decide +kernel
theorem dX11_girlsGo_74 : decode cX11_girlsGo 74 = .ok (.aload_n 0, 1) := by decide +kernel
theorem dX11_girlsGo_75 : decode cX11_girlsGo 75 = .ok (.iconst 2, 1) := by decide +kernel
theorem dX11_girlsGo_76 : decode cX11_girlsGo 76 = .ok (.iload_n 1, 1) := by decide +kernel
theorem dX11_girlsGo_77 : decode cX11_girlsGo 77 = .ok (.iload_n 2, 1) := by decide +kernel
theorem dX11_girlsGo_78 : decode cX11_girlsGo 78 = .ok (.invokevirtual 338, 3) := by decide +kernel
theorem dX11_girlsGo_81 : decode cX11_girlsGo 81 = .ok (.goto 35, 3) := by decide +kernel
theorem dX11_girlsGo_84 : decode cX11_girlsGo 84 = .ok (.aload_n 0, 1) := by decide +kernel
theorem dX11_girlsGo_85 : decode cX11_girlsGo 85 = .ok (.aload_n 0, 1) := by decide +kernel
theorem dX11_girlsGo_86 : decode cX11_girlsGo 86 = .ok (.iload_n 1, 1) := by decide +kernel
theorem dX11_girlsGo_87 : decode cX11_girlsGo 87 = .ok (.invokevirtual 360, 3) := by decide +kernel
theorem dX11_girlsGo_90 : decode cX11_girlsGo 90 = .ok (.invokevirtual 363, 3) := by decide +kernel
theorem dX11_girlsGo_93 : decode cX11_girlsGo 93 = .ok (.ifCond .ne 6, 3) := by decide +kernel
theorem dX11_girlsGo_96 : decode cX11_girlsGo 96 = .ok (.goto 20, 3) := by decide +kernel
theorem dX11_girlsGo_99 : decode cX11_girlsGo 99 = .ok (.aload_n 0, 1) := by decide +kernel
theorem dX11_girlsGo_100 : decode cX11_girlsGo 100 = .ok (.iload_n 1, 1) := by decide +kernel
theorem dX11_girlsGo_101 : decode cX11_girlsGo 101 = .ok (.invokevirtual 354, 3) := by decide +kernel
theorem dX11_girlsGo_104 : decode cX11_girlsGo 104 = .ok (.iload_n 2, 1) := by decide +kernel
theorem dX11_girlsGo_105 : decode cX11_girlsGo 105 = .ok (.iconst (-1), 1) := by decide +kernel
theorem dX11_girlsGo_106 : decode cX11_girlsGo 106 = .ok (.if_icmp .eq 10, 3) := by decide +kernel
theorem dX11_girlsGo_109 : decode cX11_girlsGo 109 = .ok (.aload_n 0, 1) := by decide +kernel
theorem dX11_girlsGo_110 : decode cX11_girlsGo 110 = .ok (.getfield 71, 3) := by decide +kernel
theorem dX11_girlsGo_113 : decode cX11_girlsGo 113 = .ok (.iload_n 2, 1) := by decide +kernel
theorem dX11_girlsGo_114 : decode cX11_girlsGo 114 = .ok (.iconst 1, 1) := by decide +kernel
theorem dX11_girlsGo_115 : decode cX11_girlsGo 115 = .ok (.iastore, 1) := by decide +kernel
theorem dX11_girlsGo_116 : decode cX11_girlsGo 116 = .ok (.iinc 1 1, 3) := by decide +kernel
theorem dX11_girlsGo_119 : decode cX11_girlsGo 119 = .ok (.goto (-96), 3) := by decide +kernel
theorem dX11_girlsGo_122 : decode cX11_girlsGo 122 = .ok (.return_, 1) := by decide +kernel
theorem dX11_childrenOf_0 : decode cX11_childrenOf 0 = .ok (.iconst 0, 1) := by decide +kernel
theorem dX11_childrenOf_1 : decode cX11_childrenOf 1 = .ok (.istore_n 2, 1) := by decide +kernel
theorem dX11_childrenOf_2 : decode cX11_childrenOf 2 = .ok (.iconst 0, 1) := by decide +kernel
theorem dX11_childrenOf_3 : decode cX11_childrenOf 3 = .ok (.istore_n 3, 1) := by decide +kernel
theorem dX11_childrenOf_4 : decode cX11_childrenOf 4 = .ok (.aload_n 0, 1) := by decide +kernel
theorem dX11_childrenOf_5 : decode cX11_childrenOf 5 = .ok (.getfield 7, 3) := by decide +kernel
theorem dX11_childrenOf_8 : decode cX11_childrenOf 8 = .ok (.bipush 39, 2) := by decide +kernel
theorem dX11_childrenOf_10 : decode cX11_childrenOf 10 = .ok (.iload_n 1, 1) := by decide +kernel
theorem dX11_childrenOf_11 : decode cX11_childrenOf 11 = .ok (.iadd, 1) := by decide +kernel
theorem dX11_childrenOf_12 : decode cX11_childrenOf 12 = .ok (.iaload, 1) := by decide +kernel
theorem dX11_childrenOf_13 : decode cX11_childrenOf 13 = .ok (.istore 4, 2) := by decide +kernel
theorem dX11_childrenOf_15 : decode cX11_childrenOf 15 = .ok (.iload 4, 2) := by decide +kernel
theorem dX11_childrenOf_17 : decode cX11_childrenOf 17 = .ok (.ifCond .le 102, 3) := by decide +kernel
theorem dX11_childrenOf_20 : decode cX11_childrenOf 20 = .ok (.aload_n 0, 1) := by decide +kernel
theorem dX11_childrenOf_21 : decode cX11_childrenOf 21 = .ok (.iload_n 1, 1) := by decide +kernel
theorem dX11_childrenOf_22 : decode cX11_childrenOf 22 = .ok (.invokevirtual 366, 3) := by decide +kernel
theorem dX11_childrenOf_25 : decode cX11_childrenOf 25 = .ok (.istore 5, 2) := by decide +kernel
theorem dX11_childrenOf_27 : decode cX11_childrenOf 27 = .ok (.iload 5, 2) := by decide +kernel
theorem dX11_childrenOf_29 : decode cX11_childrenOf 29 = .ok (.ifCond .le 84, 3) := by decide +kernel
theorem dX11_childrenOf_32 : decode cX11_childrenOf 32 = .ok (.aload_n 0, 1) := by decide +kernel
theorem dX11_childrenOf_33 : decode cX11_childrenOf 33 = .ok (.getfield 138, 3) := by decide +kernel
theorem dX11_childrenOf_36 : decode cX11_childrenOf 36 = .ok (.ifCond .eq 9, 3) := by decide +kernel
theorem dX11_childrenOf_39 : decode cX11_childrenOf 39 = .ok (.iload_n 3, 1) := by decide +kernel
theorem dX11_childrenOf_40 : decode cX11_childrenOf 40 = .ok (.iconst 2, 1) := by decide +kernel
theorem dX11_childrenOf_41 : decode cX11_childrenOf 41 = .ok (.irem, 1) := by decide +kernel
theorem dX11_childrenOf_42 : decode cX11_childrenOf 42 = .ok (.goto 8, 3) := by decide +kernel
theorem dX11_childrenOf_45 : decode cX11_childrenOf 45 = .ok (.aload_n 0, 1) := by decide +kernel
theorem dX11_childrenOf_46 : decode cX11_childrenOf 46 = .ok (.iconst 2, 1) := by decide +kernel
theorem dX11_childrenOf_47 : decode cX11_childrenOf 47 = .ok (.invokevirtual 357, 3) := by decide +kernel
theorem dX11_childrenOf_50 : decode cX11_childrenOf 50 = .ok (.istore 6, 2) := by decide +kernel
theorem dX11_childrenOf_52 : decode cX11_childrenOf 52 = .ok (.iload_n 3, 1) := by decide +kernel
theorem dX11_childrenOf_53 : decode cX11_childrenOf 53 = .ok (.iconst 1, 1) := by decide +kernel
theorem dX11_childrenOf_54 : decode cX11_childrenOf 54 = .ok (.iadd, 1) := by decide +kernel
theorem dX11_childrenOf_55 : decode cX11_childrenOf 55 = .ok (.istore_n 3, 1) := by decide +kernel
theorem dX11_childrenOf_56 : decode cX11_childrenOf 56 = .ok (.iload 6, 2) := by decide +kernel
theorem dX11_childrenOf_58 : decode cX11_childrenOf 58 = .ok (.ifCond .ne 8, 3) := by decide +kernel
theorem dX11_childrenOf_61 : decode cX11_childrenOf 61 = .ok (.bipush 7, 2) := by decide +kernel
theorem dX11_childrenOf_63 : decode cX11_childrenOf 63 = .ok (.goto 5, 3) := by decide +kernel
theorem dX11_childrenOf_66 : decode cX11_childrenOf 66 = .ok (.bipush 23, 2) := by decide +kernel
theorem dX11_childrenOf_68 : decode cX11_childrenOf 68 = .ok (.iload_n 1, 1) := by decide +kernel
theorem dX11_childrenOf_69 : decode cX11_childrenOf 69 = .ok (.iadd, 1) := by decide +kernel
theorem dX11_childrenOf_70 : decode cX11_childrenOf 70 = .ok (.istore 7, 2) := by decide +kernel
theorem dX11_childrenOf_72 : decode cX11_childrenOf 72 = .ok (.aload_n 0, 1) := by decide +kernel
theorem dX11_childrenOf_73 : decode cX11_childrenOf 73 = .ok (.getfield 7, 3) := by decide +kernel
theorem dX11_childrenOf_76 : decode cX11_childrenOf 76 = .ok (.iload 7, 2) := by decide +kernel
theorem dX11_childrenOf_78 : decode cX11_childrenOf 78 = .ok (.iaload, 1) := by decide +kernel
theorem dX11_childrenOf_79 : decode cX11_childrenOf 79 = .ok (.bipush 9, 2) := by decide +kernel
theorem dX11_childrenOf_81 : decode cX11_childrenOf 81 = .ok (.if_icmp .ne 6, 3) := by decide +kernel
theorem dX11_childrenOf_84 : decode cX11_childrenOf 84 = .ok (.goto 23, 3) := by decide +kernel
theorem dX11_childrenOf_87 : decode cX11_childrenOf 87 = .ok (.aload_n 0, 1) := by decide +kernel
theorem dX11_childrenOf_88 : decode cX11_childrenOf 88 = .ok (.getfield 7, 3) := by decide +kernel
theorem dX11_childrenOf_91 : decode cX11_childrenOf 91 = .ok (.iload 7, 2) := by decide +kernel
theorem dX11_childrenOf_93 : decode cX11_childrenOf 93 = .ok (.aload_n 0, 1) := by decide +kernel
theorem dX11_childrenOf_94 : decode cX11_childrenOf 94 = .ok (.getfield 7, 3) := by decide +kernel
theorem dX11_childrenOf_97 : decode cX11_childrenOf 97 = .ok (.iload 7, 2) := by decide +kernel
theorem dX11_childrenOf_99 : decode cX11_childrenOf 99 = .ok (.iaload, 1) := by decide +kernel
theorem dX11_childrenOf_100 : decode cX11_childrenOf 100 = .ok (.iconst 1, 1) := by decide +kernel
theorem dX11_childrenOf_101 : decode cX11_childrenOf 101 = .ok (.iadd, 1) := by decide +kernel
theorem dX11_childrenOf_102 : decode cX11_childrenOf 102 = .ok (.iastore, 1) := by decide +kernel
theorem dX11_childrenOf_103 : decode cX11_childrenOf 103 = .ok (.iload_n 2, 1) := by decide +kernel
theorem dX11_childrenOf_104 : decode cX11_childrenOf 104 = .ok (.iconst 1, 1) := by decide +kernel
theorem dX11_childrenOf_105 : decode cX11_childrenOf 105 = .ok (.iadd, 1) := by decide +kernel
theorem dX11_childrenOf_106 : decode cX11_childrenOf 106 = .ok (.istore_n 2, 1) := by decide +kernel
theorem dX11_childrenOf_107 : decode cX11_childrenOf 107 = .ok (.iinc 5 (-1), 3) := by decide +kernel
theorem dX11_childrenOf_110 : decode cX11_childrenOf 110 = .ok (.goto (-83), 3) := by decide +kernel
theorem dX11_childrenOf_113 : decode cX11_childrenOf 113 = .ok (.iinc 4 (-1), 3) := by decide +kernel
theorem dX11_childrenOf_116 : decode cX11_childrenOf 116 = .ok (.goto (-101), 3) := by decide +kernel
theorem dX11_childrenOf_119 : decode cX11_childrenOf 119 = .ok (.aload_n 0, 1) := by decide +kernel
theorem dX11_childrenOf_120 : decode cX11_childrenOf 120 = .ok (.getfield 7, 3) := by decide +kernel
theorem dX11_childrenOf_123 : decode cX11_childrenOf 123 = .ok (.bipush 39, 2) := by decide +kernel
theorem dX11_childrenOf_125 : decode cX11_childrenOf 125 = .ok (.iload_n 1, 1) := by decide +kernel
theorem dX11_childrenOf_126 : decode cX11_childrenOf 126 = .ok (.iadd, 1) := by decide +kernel
theorem dX11_childrenOf_127 : decode cX11_childrenOf 127 = .ok (.iconst 0, 1) := by decide +kernel
theorem dX11_childrenOf_128 : decode cX11_childrenOf 128 = .ok (.iastore, 1) := by decide +kernel
theorem dX11_childrenOf_129 : decode cX11_childrenOf 129 = .ok (.iload_n 2, 1) := by decide +kernel
theorem dX11_childrenOf_130 : decode cX11_childrenOf 130 = .ok (.ifCond .le 10, 3) := by decide +kernel
theorem dX11_childrenOf_133 : decode cX11_childrenOf 133 = .ok (.aload_n 0, 1) := by decide +kernel
theorem dX11_childrenOf_134 : decode cX11_childrenOf 134 = .ok (.iconst 3, 1) := by decide +kernel
theorem dX11_childrenOf_135 : decode cX11_childrenOf 135 = .ok (.iload_n 1, 1) := by decide +kernel
theorem dX11_childrenOf_136 : decode cX11_childrenOf 136 = .ok (.iload_n 2, 1) := by decide +kernel
theorem dX11_childrenOf_137 : decode cX11_childrenOf 137 = .ok (.invokevirtual 338, 3) := by decide +kernel
theorem dX11_childrenOf_140 : decode cX11_childrenOf 140 = .ok (.return_, 1) := by decide +kernel
theorem dX11_goesBy_0 : decode cX11_goesBy 0 = .ok (.aload_n 0, 1) := by decide +kernel
theorem dX11_goesBy_1 : decode cX11_goesBy 1 = .ok (.getfield 7, 3) := by decide +kernel
theorem dX11_goesBy_4 : decode cX11_goesBy 4 = .ok (.iconst 5, 1) := by decide +kernel
theorem dX11_goesBy_5 : decode cX11_goesBy 5 = .ok (.iaload, 1) := by decide +kernel
theorem dX11_goesBy_6 : decode cX11_goesBy 6 = .ok (.istore_n 1, 1) := by decide +kernel
theorem dX11_goesBy_7 : decode cX11_goesBy 7 = .ok (.iconst 0, 1) := by decide +kernel
theorem dX11_goesBy_8 : decode cX11_goesBy 8 = .ok (.istore_n 2, 1) := by decide +kernel
theorem dX11_goesBy_9 : decode cX11_goesBy 9 = .ok (.iload_n 2, 1) := by decide +kernel
theorem dX11_goesBy_10 : decode cX11_goesBy 10 = .ok (.iconst 4, 1) := by decide +kernel
theorem dX11_goesBy_11 : decode cX11_goesBy 11 = .ok (.aload_n 0, 1) := by decide +kernel
theorem dX11_goesBy_12 : decode cX11_goesBy 12 = .ok (.getfield 286, 3) := by decide +kernel
theorem dX11_goesBy_15 : decode cX11_goesBy 15 = .ok (.imul, 1) := by decide +kernel
theorem dX11_goesBy_16 : decode cX11_goesBy 16 = .ok (.if_icmp .ge 30, 3) := by decide +kernel
theorem dX11_goesBy_19 : decode cX11_goesBy 19 = .ok (.aload_n 0, 1) := by decide +kernel
theorem dX11_goesBy_20 : decode cX11_goesBy 20 = .ok (.getfield 56, 3) := by decide +kernel
theorem dX11_goesBy_23 : decode cX11_goesBy 23 = .ok (.iload_n 2, 1) := by decide +kernel
theorem dX11_goesBy_24 : decode cX11_goesBy 24 = .ok (.iaload, 1) := by decide +kernel
theorem dX11_goesBy_25 : decode cX11_goesBy 25 = .ok (.aload_n 0, 1) := by decide +kernel
theorem dX11_goesBy_26 : decode cX11_goesBy 26 = .ok (.getfield 7, 3) := by decide +kernel
theorem dX11_goesBy_29 : decode cX11_goesBy 29 = .ok (.iconst 0, 1) := by decide +kernel
theorem dX11_goesBy_30 : decode cX11_goesBy 30 = .ok (.iaload, 1) := by decide +kernel
theorem dX11_goesBy_31 : decode cX11_goesBy 31 = .ok (.if_icmp .ne 8, 3) := by decide +kernel
theorem dX11_goesBy_34 : decode cX11_goesBy 34 = .ok (.aload_n 0, 1) := by decide +kernel
theorem dX11_goesBy_35 : decode cX11_goesBy 35 = .ok (.iload_n 2, 1) := by decide +kernel
theorem dX11_goesBy_36 : decode cX11_goesBy 36 = .ok (.invokevirtual 369, 3) := by decide +kernel
theorem dX11_goesBy_39 : decode cX11_goesBy 39 = .ok (.iload_n 2, 1) := by decide +kernel
theorem dX11_goesBy_40 : decode cX11_goesBy 40 = .ok (.iconst 4, 1) := by decide +kernel
theorem dX11_goesBy_41 : decode cX11_goesBy 41 = .ok (.iadd, 1) := by decide +kernel
theorem dX11_goesBy_42 : decode cX11_goesBy 42 = .ok (.istore_n 2, 1) := by decide +kernel
theorem dX11_goesBy_43 : decode cX11_goesBy 43 = .ok (.goto (-34), 3) := by decide +kernel
theorem dX11_goesBy_46 : decode cX11_goesBy 46 = .ok (.aload_n 0, 1) := by decide +kernel
theorem dX11_goesBy_47 : decode cX11_goesBy 47 = .ok (.invokevirtual 372, 3) := by decide +kernel
theorem dX11_goesBy_50 : decode cX11_goesBy 50 = .ok (.iconst 0, 1) := by decide +kernel
theorem dX11_goesBy_51 : decode cX11_goesBy 51 = .ok (.istore_n 2, 1) := by decide +kernel
theorem dX11_goesBy_52 : decode cX11_goesBy 52 = .ok (.iload_n 2, 1) := by decide +kernel
theorem dX11_goesBy_53 : decode cX11_goesBy 53 = .ok (.aload_n 0, 1) := by decide +kernel
theorem dX11_goesBy_54 : decode cX11_goesBy 54 = .ok (.getfield 144, 3) := by decide +kernel
theorem dX11_goesBy_57 : decode cX11_goesBy 57 = .ok (.if_icmp .ge 14, 3) := by decide +kernel
theorem dX11_goesBy_60 : decode cX11_goesBy 60 = .ok (.aload_n 0, 1) := by decide +kernel
theorem dX11_goesBy_61 : decode cX11_goesBy 61 = .ok (.iload_n 2, 1) := by decide +kernel
theorem dX11_goesBy_62 : decode cX11_goesBy 62 = .ok (.invokevirtual 375, 3) := by decide +kernel
theorem dX11_goesBy_65 : decode cX11_goesBy 65 = .ok (.iinc 2 1, 3) := by decide +kernel
theorem dX11_goesBy_68 : decode cX11_goesBy 68 = .ok (.goto (-16), 3) := by decide +kernel
theorem dX11_goesBy_71 : decode cX11_goesBy 71 = .ok (.iconst 0, 1) := by decide +kernel
theorem dX11_goesBy_72 : decode cX11_goesBy 72 = .ok (.istore_n 2, 1) := by decide +kernel
theorem dX11_goesBy_73 : decode cX11_goesBy 73 = .ok (.iload_n 2, 1) := by decide +kernel
theorem dX11_goesBy_74 : decode cX11_goesBy 74 = .ok (.aload_n 0, 1) := by decide +kernel
theorem dX11_goesBy_75 : decode cX11_goesBy 75 = .ok (.getfield 144, 3) := by decide +kernel
theorem dX11_goesBy_78 : decode cX11_goesBy 78 = .ok (.if_icmp .ge 76, 3) := by decide +kernel
theorem dX11_goesBy_81 : decode cX11_goesBy 81 = .ok (.aload_n 0, 1) := by decide +kernel
theorem dX11_goesBy_82 : decode cX11_goesBy 82 = .ok (.getfield 71, 3) := by decide +kernel
theorem dX11_goesBy_85 : decode cX11_goesBy 85 = .ok (.iload_n 2, 1) := by decide +kernel
theorem dX11_goesBy_86 : decode cX11_goesBy 86 = .ok (.iaload, 1) := by decide +kernel
theorem dX11_goesBy_87 : decode cX11_goesBy 87 = .ok (.iconst 1, 1) := by decide +kernel
theorem dX11_goesBy_88 : decode cX11_goesBy 88 = .ok (.if_icmp .eq 60, 3) := by decide +kernel
theorem dX11_goesBy_91 : decode cX11_goesBy 91 = .ok (.aload_n 0, 1) := by decide +kernel
theorem dX11_goesBy_92 : decode cX11_goesBy 92 = .ok (.getfield 7, 3) := by decide +kernel
theorem dX11_goesBy_95 : decode cX11_goesBy 95 = .ok (.bipush 23, 2) := by decide +kernel
theorem dX11_goesBy_97 : decode cX11_goesBy 97 = .ok (.iload_n 2, 1) := by decide +kernel
theorem dX11_goesBy_98 : decode cX11_goesBy 98 = .ok (.iadd, 1) := by decide +kernel
theorem dX11_goesBy_99 : decode cX11_goesBy 99 = .ok (.iaload, 1) := by decide +kernel
theorem dX11_goesBy_100 : decode cX11_goesBy 100 = .ok (.ifCond .eq 48, 3) := by decide +kernel
theorem dX11_goesBy_103 : decode cX11_goesBy 103 = .ok (.aload_n 0, 1) := by decide +kernel
theorem dX11_goesBy_104 : decode cX11_goesBy 104 = .ok (.getfield 7, 3) := by decide +kernel
theorem dX11_goesBy_107 : decode cX11_goesBy 107 = .ok (.bipush 7, 2) := by decide +kernel
theorem dX11_goesBy_109 : decode cX11_goesBy 109 = .ok (.iload_n 2, 1) := by decide +kernel
theorem dX11_goesBy_110 : decode cX11_goesBy 110 = .ok (.iadd, 1) := by decide +kernel
theorem dX11_goesBy_111 : decode cX11_goesBy 111 = .ok (.iaload, 1) := by decide +kernel
theorem dX11_goesBy_112 : decode cX11_goesBy 112 = .ok (.ifCond .gt 36, 3) := by decide +kernel
theorem dX11_goesBy_115 : decode cX11_goesBy 115 = .ok (.aload_n 0, 1) := by decide +kernel
theorem dX11_goesBy_116 : decode cX11_goesBy 116 = .ok (.getfield 7, 3) := by decide +kernel
theorem dX11_goesBy_119 : decode cX11_goesBy 119 = .ok (.bipush 87, 2) := by decide +kernel
theorem dX11_goesBy_121 : decode cX11_goesBy 121 = .ok (.iload_n 2, 1) := by decide +kernel
theorem dX11_goesBy_122 : decode cX11_goesBy 122 = .ok (.iadd, 1) := by decide +kernel
theorem dX11_goesBy_123 : decode cX11_goesBy 123 = .ok (.iaload, 1) := by decide +kernel
theorem dX11_goesBy_124 : decode cX11_goesBy 124 = .ok (.iconst 1, 1) := by decide +kernel
theorem dX11_goesBy_125 : decode cX11_goesBy 125 = .ok (.if_icmp .ne 6, 3) := by decide +kernel
theorem dX11_goesBy_128 : decode cX11_goesBy 128 = .ok (.goto 20, 3) := by decide +kernel
theorem dX11_goesBy_131 : decode cX11_goesBy 131 = .ok (.aload_n 0, 1) := by decide +kernel
theorem dX11_goesBy_132 : decode cX11_goesBy 132 = .ok (.getfield 7, 3) := by decide +kernel
theorem dX11_goesBy_135 : decode cX11_goesBy 135 = .ok (.bipush 87, 2) := by decide +kernel
theorem dX11_goesBy_137 : decode cX11_goesBy 137 = .ok (.iload_n 2, 1) := by decide +kernel
theorem dX11_goesBy_138 : decode cX11_goesBy 138 = .ok (.iadd, 1) := by decide +kernel
theorem dX11_goesBy_139 : decode cX11_goesBy 139 = .ok (.iconst 1, 1) := by decide +kernel
theorem dX11_goesBy_140 : decode cX11_goesBy 140 = .ok (.iastore, 1) := by decide +kernel
theorem dX11_goesBy_141 : decode cX11_goesBy 141 = .ok (.aload_n 0, 1) := by decide +kernel
theorem dX11_goesBy_142 : decode cX11_goesBy 142 = .ok (.iconst 4, 1) := by decide +kernel
theorem dX11_goesBy_143 : decode cX11_goesBy 143 = .ok (.iload_n 2, 1) := by decide +kernel
theorem dX11_goesBy_144 : decode cX11_goesBy 144 = .ok (.iconst 0, 1) := by decide +kernel
theorem dX11_goesBy_145 : decode cX11_goesBy 145 = .ok (.invokevirtual 338, 3) := by decide +kernel
theorem dX11_goesBy_148 : decode cX11_goesBy 148 = .ok (.iinc 2 1, 3) := by decide +kernel
theorem dX11_goesBy_151 : decode cX11_goesBy 151 = .ok (.goto (-78), 3) := by decide +kernel
theorem dX11_goesBy_154 : decode cX11_goesBy 154 = .ok (.aload_n 0, 1) := by decide +kernel
theorem dX11_goesBy_155 : decode cX11_goesBy 155 = .ok (.getfield 7, 3) := by decide +kernel
theorem dX11_goesBy_158 : decode cX11_goesBy 158 = .ok (.iconst 0, 1) := by decide +kernel
theorem dX11_goesBy_159 : decode cX11_goesBy 159 = .ok (.aload_n 0, 1) := by decide +kernel
theorem dX11_goesBy_160 : decode cX11_goesBy 160 = .ok (.getfield 7, 3) := by decide +kernel
theorem dX11_goesBy_163 : decode cX11_goesBy 163 = .ok (.iconst 0, 1) := by decide +kernel
theorem dX11_goesBy_164 : decode cX11_goesBy 164 = .ok (.iaload, 1) := by decide +kernel
theorem dX11_goesBy_165 : decode cX11_goesBy 165 = .ok (.iconst 1, 1) := by decide +kernel
theorem dX11_goesBy_166 : decode cX11_goesBy 166 = .ok (.iadd, 1) := by decide +kernel
theorem dX11_goesBy_167 : decode cX11_goesBy 167 = .ok (.iastore, 1) := by decide +kernel
theorem dX11_goesBy_168 : decode cX11_goesBy 168 = .ok (.aload_n 0, 1) := by decide +kernel
theorem dX11_goesBy_169 : decode cX11_goesBy 169 = .ok (.getfield 7, 3) := by decide +kernel
theorem dX11_goesBy_172 : decode cX11_goesBy 172 = .ok (.iconst 5, 1) := by decide +kernel
theorem dX11_goesBy_173 : decode cX11_goesBy 173 = .ok (.iaload, 1) := by decide +kernel
theorem dX11_goesBy_174 : decode cX11_goesBy 174 = .ok (.iload_n 1, 1) := by decide +kernel
theorem dX11_goesBy_175 : decode cX11_goesBy 175 = .ok (.isub, 1) := by decide +kernel
theorem dX11_goesBy_176 : decode cX11_goesBy 176 = .ok (.ireturn, 1) := by decide +kernel
theorem dX11_years_0 : decode cX11_years 0 = .ok (.aload_n 0, 1) := by decide +kernel
theorem dX11_years_1 : decode cX11_years 1 = .ok (.iconst 0, 1) := by decide +kernel
theorem dX11_years_2 : decode cX11_years 2 = .ok (.putfield 132, 3) := by decide +kernel
theorem dX11_years_5 : decode cX11_years 5 = .ok (.aload_n 0, 1) := by decide +kernel
theorem dX11_years_6 : decode cX11_years 6 = .ok (.iload_n 1, 1) := by decide +kernel
theorem dX11_years_7 : decode cX11_years 7 = .ok (.iconst 1, 1) := by decide +kernel
theorem dX11_years_8 : decode cX11_years 8 = .ok (.bipush 60, 2) := by decide +kernel
theorem dX11_years_10 : decode cX11_years 10 = .ok (.invokevirtual 147, 3) := by decide +kernel
theorem dX11_years_13 : decode cX11_years 13 = .ok (.ifCond .eq 17, 3) := by decide +kernel
theorem dX11_years_16 : decode cX11_years 16 = .ok (.aload_n 0, 1) := by decide +kernel
theorem dX11_years_17 : decode cX11_years 17 = .ok (.getfield 7, 3) := by decide +kernel
theorem dX11_years_20 : decode cX11_years 20 = .ok (.iconst 0, 1) := by decide +kernel
theorem dX11_years_21 : decode cX11_years 21 = .ok (.iaload, 1) := by decide +kernel
theorem dX11_years_22 : decode cX11_years 22 = .ok (.iload_n 1, 1) := by decide +kernel
theorem dX11_years_23 : decode cX11_years 23 = .ok (.iadd, 1) := by decide +kernel
theorem dX11_years_24 : decode cX11_years 24 = .ok (.sipush 9999, 3) := by decide +kernel
theorem dX11_years_27 : decode cX11_years 27 = .ok (.if_icmp .le 5, 3) := by decide +kernel
theorem dX11_years_30 : decode cX11_years 30 = .ok (.iconst (-1), 1) := by decide +kernel
theorem dX11_years_31 : decode cX11_years 31 = .ok (.ireturn, 1) := by decide +kernel
theorem dX11_years_32 : decode cX11_years 32 = .ok (.iconst 0, 1) := by decide +kernel
theorem dX11_years_33 : decode cX11_years 33 = .ok (.istore_n 2, 1) := by decide +kernel
theorem dX11_years_34 : decode cX11_years 34 = .ok (.iconst 0, 1) := by decide +kernel
theorem dX11_years_35 : decode cX11_years 35 = .ok (.istore_n 3, 1) := by decide +kernel
theorem dX11_years_36 : decode cX11_years 36 = .ok (.iload_n 3, 1) := by decide +kernel
theorem dX11_years_37 : decode cX11_years 37 = .ok (.iload_n 1, 1) := by decide +kernel
theorem dX11_years_38 : decode cX11_years 38 = .ok (.if_icmp .ge 20, 3) := by decide +kernel
theorem dX11_years_41 : decode cX11_years 41 = .ok (.aload_n 0, 1) := by decide +kernel
theorem dX11_years_42 : decode cX11_years 42 = .ok (.invokevirtual 351, 3) := by decide +kernel
theorem dX11_years_45 : decode cX11_years 45 = .ok (.iload_n 2, 1) := by decide +kernel
theorem dX11_years_46 : decode cX11_years 46 = .ok (.aload_n 0, 1) := by decide +kernel
theorem dX11_years_47 : decode cX11_years 47 = .ok (.invokevirtual 378, 3) := by decide +kernel
theorem dX11_years_50 : decode cX11_years 50 = .ok (.iadd, 1) := by decide +kernel
theorem dX11_years_51 : decode cX11_years 51 = .ok (.istore_n 2, 1) := by decide +kernel
theorem dX11_years_52 : decode cX11_years 52 = .ok (.iinc 3 1, 3) := by decide +kernel
theorem dX11_years_55 : decode cX11_years 55 = .ok (.goto (-19), 3) := by decide +kernel
theorem dX11_years_58 : decode cX11_years 58 = .ok (.iload_n 2, 1) := by decide +kernel
theorem dX11_years_59 : decode cX11_years 59 = .ok (.ireturn, 1) := by decide +kernel
theorem dX11_of_0 : decode cX11_of 0 = .ok (.aload_n 0, 1) := by decide +kernel
theorem dX11_of_1 : decode cX11_of 1 = .ok (.iconst 0, 1) := by decide +kernel
theorem dX11_of_2 : decode cX11_of 2 = .ok (.putfield 132, 3) := by decide +kernel
theorem dX11_of_5 : decode cX11_of 5 = .ok (.aload_n 0, 1) := by decide +kernel
theorem dX11_of_6 : decode cX11_of 6 = .ok (.iload_n 1, 1) := by decide +kernel
theorem dX11_of_7 : decode cX11_of 7 = .ok (.invokevirtual 151, 3) := by decide +kernel
theorem dX11_of_10 : decode cX11_of 10 = .ok (.ifCond .ne 6, 3) := by decide +kernel
theorem dX11_of_13 : decode cX11_of 13 = .ok (.bipush (-2), 2) := by decide +kernel
theorem dX11_of_15 : decode cX11_of 15 = .ok (.ireturn, 1) := by decide +kernel
theorem dX11_of_16 : decode cX11_of 16 = .ok (.iload_n 2, 1) := by decide +kernel
theorem dX11_of_17 : decode cX11_of 17 = .ok (.ifCond .ne 13, 3) := by decide +kernel
theorem dX11_of_20 : decode cX11_of 20 = .ok (.aload_n 0, 1) := by decide +kernel
theorem dX11_of_21 : decode cX11_of 21 = .ok (.getfield 7, 3) := by decide +kernel
theorem dX11_of_24 : decode cX11_of 24 = .ok (.bipush 7, 2) := by decide +kernel
theorem dX11_of_26 : decode cX11_of 26 = .ok (.iload_n 1, 1) := by decide +kernel
theorem dX11_of_27 : decode cX11_of 27 = .ok (.iadd, 1) := by decide +kernel
theorem dX11_of_28 : decode cX11_of 28 = .ok (.iaload, 1) := by decide +kernel
theorem dX11_of_29 : decode cX11_of 29 = .ok (.ireturn, 1) := by decide +kernel
theorem dX11_of_30 : decode cX11_of 30 = .ok (.iload_n 2, 1) := by decide +kernel
theorem dX11_of_31 : decode cX11_of 31 = .ok (.iconst 1, 1) := by decide +kernel
theorem dX11_of_32 : decode cX11_of 32 = .ok (.if_icmp .ne 13, 3) := by decide +kernel
theorem dX11_of_35 : decode cX11_of 35 = .ok (.aload_n 0, 1) := by decide +kernel
theorem dX11_of_36 : decode cX11_of 36 = .ok (.getfield 7, 3) := by decide +kernel
theorem dX11_of_39 : decode cX11_of 39 = .ok (.bipush 23, 2) := by decide +kernel
theorem dX11_of_41 : decode cX11_of 41 = .ok (.iload_n 1, 1) := by decide +kernel
theorem dX11_of_42 : decode cX11_of 42 = .ok (.iadd, 1) := by decide +kernel
theorem dX11_of_43 : decode cX11_of 43 = .ok (.iaload, 1) := by decide +kernel
theorem dX11_of_44 : decode cX11_of 44 = .ok (.ireturn, 1) := by decide +kernel
theorem dX11_of_45 : decode cX11_of 45 = .ok (.iload_n 2, 1) := by decide +kernel
theorem dX11_of_46 : decode cX11_of 46 = .ok (.iconst 2, 1) := by decide +kernel
theorem dX11_of_47 : decode cX11_of 47 = .ok (.if_icmp .ne 13, 3) := by decide +kernel
theorem dX11_of_50 : decode cX11_of 50 = .ok (.aload_n 0, 1) := by decide +kernel
theorem dX11_of_51 : decode cX11_of 51 = .ok (.getfield 7, 3) := by decide +kernel
theorem dX11_of_54 : decode cX11_of 54 = .ok (.bipush 55, 2) := by decide +kernel
theorem dX11_of_56 : decode cX11_of 56 = .ok (.iload_n 1, 1) := by decide +kernel
theorem dX11_of_57 : decode cX11_of 57 = .ok (.iadd, 1) := by decide +kernel
theorem dX11_of_58 : decode cX11_of 58 = .ok (.iaload, 1) := by decide +kernel
theorem dX11_of_59 : decode cX11_of 59 = .ok (.ireturn, 1) := by decide +kernel
theorem dX11_of_60 : decode cX11_of 60 = .ok (.iload_n 2, 1) := by decide +kernel
theorem dX11_of_61 : decode cX11_of 61 = .ok (.iconst 3, 1) := by decide +kernel
theorem dX11_of_62 : decode cX11_of 62 = .ok (.if_icmp .ne 13, 3) := by decide +kernel
theorem dX11_of_65 : decode cX11_of 65 = .ok (.aload_n 0, 1) := by decide +kernel
theorem dX11_of_66 : decode cX11_of 66 = .ok (.getfield 7, 3) := by decide +kernel
theorem dX11_of_69 : decode cX11_of 69 = .ok (.bipush 39, 2) := by decide +kernel
theorem dX11_of_71 : decode cX11_of 71 = .ok (.iload_n 1, 1) := by decide +kernel
theorem dX11_of_72 : decode cX11_of 72 = .ok (.iadd, 1) := by decide +kernel
theorem dX11_of_73 : decode cX11_of 73 = .ok (.iaload, 1) := by decide +kernel
theorem dX11_of_74 : decode cX11_of 74 = .ok (.ireturn, 1) := by decide +kernel
theorem dX11_of_75 : decode cX11_of 75 = .ok (.iload_n 2, 1) := by decide +kernel
theorem dX11_of_76 : decode cX11_of 76 = .ok (.iconst 4, 1) := by decide +kernel
theorem dX11_of_77 : decode cX11_of 77 = .ok (.if_icmp .ne 13, 3) := by decide +kernel
theorem dX11_of_80 : decode cX11_of 80 = .ok (.aload_n 0, 1) := by decide +kernel
theorem dX11_of_81 : decode cX11_of 81 = .ok (.getfield 7, 3) := by decide +kernel
theorem dX11_of_84 : decode cX11_of 84 = .ok (.bipush 87, 2) := by decide +kernel
theorem dX11_of_86 : decode cX11_of 86 = .ok (.iload_n 1, 1) := by decide +kernel
theorem dX11_of_87 : decode cX11_of 87 = .ok (.iadd, 1) := by decide +kernel
theorem dX11_of_88 : decode cX11_of 88 = .ok (.iaload, 1) := by decide +kernel
theorem dX11_of_89 : decode cX11_of 89 = .ok (.ireturn, 1) := by decide +kernel
theorem dX11_of_90 : decode cX11_of 90 = .ok (.iload_n 2, 1) := by decide +kernel
theorem dX11_of_91 : decode cX11_of 91 = .ok (.iconst 5, 1) := by decide +kernel
theorem dX11_of_92 : decode cX11_of 92 = .ok (.if_icmp .ne 15, 3) := by decide +kernel
theorem dX11_of_95 : decode cX11_of 95 = .ok (.aload_n 0, 1) := by decide +kernel
theorem dX11_of_96 : decode cX11_of 96 = .ok (.getfield 7, 3) := by decide +kernel
theorem dX11_of_99 : decode cX11_of 99 = .ok (.bipush 71, 2) := by decide +kernel
theorem dX11_of_101 : decode cX11_of 101 = .ok (.iload_n 1, 1) := by decide +kernel
theorem dX11_of_102 : decode cX11_of 102 = .ok (.iadd, 1) := by decide +kernel
theorem dX11_of_103 : decode cX11_of 103 = .ok (.iaload, 1) := by decide +kernel
theorem dX11_of_104 : decode cX11_of 104 = .ok (.iconst 1, 1) := by decide +kernel
theorem dX11_of_105 : decode cX11_of 105 = .ok (.isub, 1) := by decide +kernel
theorem dX11_of_106 : decode cX11_of 106 = .ok (.ireturn, 1) := by decide +kernel
theorem dX11_of_107 : decode cX11_of 107 = .ok (.iload_n 2, 1) := by decide +kernel
theorem dX11_of_108 : decode cX11_of 108 = .ok (.bipush 6, 2) := by decide +kernel
theorem dX11_of_110 : decode cX11_of 110 = .ok (.if_icmp .ne 10, 3) := by decide +kernel
theorem dX11_of_113 : decode cX11_of 113 = .ok (.aload_n 0, 1) := by decide +kernel
theorem dX11_of_114 : decode cX11_of 114 = .ok (.getfield 62, 3) := by decide +kernel
theorem dX11_of_117 : decode cX11_of 117 = .ok (.iload_n 1, 1) := by decide +kernel
theorem dX11_of_118 : decode cX11_of 118 = .ok (.iaload, 1) := by decide +kernel
theorem dX11_of_119 : decode cX11_of 119 = .ok (.ireturn, 1) := by decide +kernel
theorem dX11_of_120 : decode cX11_of 120 = .ok (.iload_n 2, 1) := by decide +kernel
theorem dX11_of_121 : decode cX11_of 121 = .ok (.bipush 7, 2) := by decide +kernel
theorem dX11_of_123 : decode cX11_of 123 = .ok (.if_icmp .ne 9, 3) := by decide +kernel
theorem dX11_of_126 : decode cX11_of 126 = .ok (.aload_n 0, 1) := by decide +kernel
theorem dX11_of_127 : decode cX11_of 127 = .ok (.iload_n 1, 1) := by decide +kernel
theorem dX11_of_128 : decode cX11_of 128 = .ok (.invokevirtual 325, 3) := by decide +kernel
theorem dX11_of_131 : decode cX11_of 131 = .ok (.ireturn, 1) := by decide +kernel
theorem dX11_of_132 : decode cX11_of 132 = .ok (.iload_n 2, 1) := by decide +kernel
theorem dX11_of_133 : decode cX11_of 133 = .ok (.bipush 8, 2) := by decide +kernel
theorem dX11_of_135 : decode cX11_of 135 = .ok (.if_icmp .ne 9, 3) := by decide +kernel
theorem dX11_of_138 : decode cX11_of 138 = .ok (.aload_n 0, 1) := by decide +kernel
theorem dX11_of_139 : decode cX11_of 139 = .ok (.iload_n 1, 1) := by decide +kernel
theorem dX11_of_140 : decode cX11_of 140 = .ok (.invokevirtual 360, 3) := by decide +kernel
theorem dX11_of_143 : decode cX11_of 143 = .ok (.ireturn, 1) := by decide +kernel
theorem dX11_of_144 : decode cX11_of 144 = .ok (.iload_n 2, 1) := by decide +kernel
theorem dX11_of_145 : decode cX11_of 145 = .ok (.bipush 9, 2) := by decide +kernel
theorem dX11_of_147 : decode cX11_of 147 = .ok (.if_icmp .ne 11, 3) := by decide +kernel
theorem dX11_of_150 : decode cX11_of 150 = .ok (.aload_n 0, 1) := by decide +kernel
theorem dX11_of_151 : decode cX11_of 151 = .ok (.iload_n 1, 1) := by decide +kernel
theorem dX11_of_152 : decode cX11_of 152 = .ok (.invokevirtual 366, 3) := by decide +kernel
theorem dX11_of_155 : decode cX11_of 155 = .ok (.goto 34, 3) := by decide +kernel
theorem dX11_of_158 : decode cX11_of 158 = .ok (.iload_n 2, 1) := by decide +kernel
theorem dX11_of_159 : decode cX11_of 159 = .ok (.bipush 10, 2) := by decide +kernel
theorem dX11_of_161 : decode cX11_of 161 = .ok (.if_icmp .ne 11, 3) := by decide +kernel
theorem dX11_of_164 : decode cX11_of 164 = .ok (.aload_n 0, 1) := by decide +kernel
theorem dX11_of_165 : decode cX11_of 165 = .ok (.iload_n 1, 1) := by decide +kernel
theorem dX11_of_166 : decode cX11_of 166 = .ok (.invokevirtual 335, 3) := by decide +kernel
theorem dX11_of_169 : decode cX11_of 169 = .ok (.goto 20, 3) := by decide +kernel
theorem dX11_of_172 : decode cX11_of 172 = .ok (.iload_n 2, 1) := by decide +kernel
theorem dX11_of_173 : decode cX11_of 173 = .ok (.bipush 11, 2) := by decide +kernel
theorem dX11_of_175 : decode cX11_of 175 = .ok (.if_icmp .ne 12, 3) := by decide +kernel
theorem dX11_of_178 : decode cX11_of 178 = .ok (.aload_n 0, 1) := by decide +kernel
theorem dX11_of_179 : decode cX11_of 179 = .ok (.getfield 59, 3) := by decide +kernel
theorem dX11_of_182 : decode cX11_of 182 = .ok (.iload_n 1, 1) := by decide +kernel
theorem dX11_of_183 : decode cX11_of 183 = .ok (.iaload, 1) := by decide +kernel
theorem dX11_of_184 : decode cX11_of 184 = .ok (.goto 5, 3) := by decide +kernel
theorem dX11_of_187 : decode cX11_of 187 = .ok (.bipush (-2), 2) := by decide +kernel
theorem dX11_of_189 : decode cX11_of 189 = .ok (.ireturn, 1) := by decide +kernel
theorem dX11_book_0 : decode cX11_book 0 = .ok (.aload_n 0, 1) := by decide +kernel
theorem dX11_book_1 : decode cX11_book 1 = .ok (.iconst 0, 1) := by decide +kernel
theorem dX11_book_2 : decode cX11_book 2 = .ok (.putfield 132, 3) := by decide +kernel
theorem dX11_book_5 : decode cX11_book 5 = .ok (.aload_n 0, 1) := by decide +kernel
theorem dX11_book_6 : decode cX11_book 6 = .ok (.iload_n 1, 1) := by decide +kernel
theorem dX11_book_7 : decode cX11_book 7 = .ok (.iconst 0, 1) := by decide +kernel
theorem dX11_book_8 : decode cX11_book 8 = .ok (.aload_n 0, 1) := by decide +kernel
theorem dX11_book_9 : decode cX11_book 9 = .ok (.getfield 7, 3) := by decide +kernel
theorem dX11_book_12 : decode cX11_book 12 = .ok (.iconst 2, 1) := by decide +kernel
theorem dX11_book_13 : decode cX11_book 13 = .ok (.iaload, 1) := by decide +kernel
theorem dX11_book_14 : decode cX11_book 14 = .ok (.iconst 1, 1) := by decide +kernel
theorem dX11_book_15 : decode cX11_book 15 = .ok (.isub, 1) := by decide +kernel
theorem dX11_book_16 : decode cX11_book 16 = .ok (.invokevirtual 147, 3) := by decide +kernel
theorem dX11_book_19 : decode cX11_book 19 = .ok (.ifCond .eq 26, 3) := by decide +kernel
theorem dX11_book_22 : decode cX11_book 22 = .ok (.aload_n 0, 1) := by decide +kernel
theorem dX11_book_23 : decode cX11_book 23 = .ok (.iload_n 2, 1) := by decide +kernel
theorem dX11_book_24 : decode cX11_book 24 = .ok (.iconst 0, 1) := by decide +kernel
theorem dX11_book_25 : decode cX11_book 25 = .ok (.iconst 3, 1) := by decide +kernel
theorem dX11_book_26 : decode cX11_book 26 = .ok (.invokevirtual 147, 3) := by decide +kernel
theorem dX11_book_29 : decode cX11_book 29 = .ok (.ifCond .eq 16, 3) := by decide +kernel
theorem dX11_book_32 : decode cX11_book 32 = .ok (.aload_n 0, 1) := by decide +kernel
theorem dX11_book_33 : decode cX11_book 33 = .ok (.getfield 19, 3) := by decide +kernel
theorem dX11_book_36 : decode cX11_book 36 = .ok (.iconst 4, 1) := by decide +kernel
theorem dX11_book_37 : decode cX11_book 37 = .ok (.iload_n 1, 1) := by decide +kernel
theorem dX11_book_38 : decode cX11_book 38 = .ok (.imul, 1) := by decide +kernel
theorem dX11_book_39 : decode cX11_book 39 = .ok (.iload_n 2, 1) := by decide +kernel
theorem dX11_book_40 : decode cX11_book 40 = .ok (.iadd, 1) := by decide +kernel
theorem dX11_book_41 : decode cX11_book 41 = .ok (.iaload, 1) := by decide +kernel
theorem dX11_book_42 : decode cX11_book 42 = .ok (.goto 4, 3) := by decide +kernel
theorem dX11_book_45 : decode cX11_book 45 = .ok (.iconst (-1), 1) := by decide +kernel
theorem dX11_book_46 : decode cX11_book 46 = .ok (.ireturn, 1) := by decide +kernel
theorem dX11_goes_0 : decode cX11_goes 0 = .ok (.aload_n 0, 1) := by decide +kernel
theorem dX11_goes_1 : decode cX11_goes 1 = .ok (.iconst 0, 1) := by decide +kernel
theorem dX11_goes_2 : decode cX11_goes 2 = .ok (.putfield 132, 3) := by decide +kernel
theorem dX11_goes_5 : decode cX11_goes 5 = .ok (.aload_n 0, 1) := by decide +kernel
theorem dX11_goes_6 : decode cX11_goes 6 = .ok (.iload_n 1, 1) := by decide +kernel
theorem dX11_goes_7 : decode cX11_goes 7 = .ok (.iconst 1, 1) := by decide +kernel
theorem dX11_goes_8 : decode cX11_goes 8 = .ok (.bipush 60, 2) := by decide +kernel
theorem dX11_goes_10 : decode cX11_goes 10 = .ok (.invokevirtual 147, 3) := by decide +kernel
theorem dX11_goes_13 : decode cX11_goes 13 = .ok (.ifCond .eq 13, 3) := by decide +kernel
theorem dX11_goes_16 : decode cX11_goes 16 = .ok (.aload_n 0, 1) := by decide +kernel
theorem dX11_goes_17 : decode cX11_goes 17 = .ok (.iload_n 2, 1) := by decide +kernel
theorem dX11_goes_18 : decode cX11_goes 18 = .ok (.iconst 0, 1) := by decide +kernel
theorem dX11_goes_19 : decode cX11_goes 19 = .ok (.iconst 3, 1) := by decide +kernel
theorem dX11_goes_20 : decode cX11_goes 20 = .ok (.invokevirtual 147, 3) := by decide +kernel
theorem dX11_goes_23 : decode cX11_goes 23 = .ok (.ifCond .ne 5, 3) := by decide +kernel
theorem dX11_goes_26 : decode cX11_goes 26 = .ok (.iconst (-1), 1) := by decide +kernel
theorem dX11_goes_27 : decode cX11_goes 27 = .ok (.ireturn, 1) := by decide +kernel
theorem dX11_goes_28 : decode cX11_goes 28 = .ok (.aload_n 0, 1) := by decide +kernel
theorem dX11_goes_29 : decode cX11_goes 29 = .ok (.invokevirtual 381, 3) := by decide +kernel
theorem dX11_goes_32 : decode cX11_goes 32 = .ok (.iconst 0, 1) := by decide +kernel
theorem dX11_goes_33 : decode cX11_goes 33 = .ok (.istore_n 3, 1) := by decide +kernel
theorem dX11_goes_34 : decode cX11_goes 34 = .ok (.iload_n 3, 1) := by decide +kernel
theorem dX11_goes_35 : decode cX11_goes 35 = .ok (.iload_n 1, 1) := by decide +kernel
theorem dX11_goes_36 : decode cX11_goes 36 = .ok (.if_icmp .ge 14, 3) := by decide +kernel
theorem dX11_goes_39 : decode cX11_goes 39 = .ok (.aload_n 0, 1) := by decide +kernel
theorem dX11_goes_40 : decode cX11_goes 40 = .ok (.invokevirtual 378, 3) := by decide +kernel
theorem dX11_goes_43 : decode cX11_goes 43 = .ok (.pop, 1) := by decide +kernel
theorem dX11_goes_44 : decode cX11_goes 44 = .ok (.iinc 3 1, 3) := by decide +kernel
theorem dX11_goes_47 : decode cX11_goes 47 = .ok (.goto (-13), 3) := by decide +kernel
theorem dX11_goes_50 : decode cX11_goes 50 = .ok (.iload_n 2, 1) := by decide +kernel
theorem dX11_goes_51 : decode cX11_goes 51 = .ok (.ifCond .ne 12, 3) := by decide +kernel
theorem dX11_goes_54 : decode cX11_goes 54 = .ok (.aload_n 0, 1) := by decide +kernel
theorem dX11_goes_55 : decode cX11_goes 55 = .ok (.getfield 7, 3) := by decide +kernel
theorem dX11_goes_58 : decode cX11_goes 58 = .ok (.iconst 5, 1) := by decide +kernel
theorem dX11_goes_59 : decode cX11_goes 59 = .ok (.iaload, 1) := by decide +kernel
theorem dX11_goes_60 : decode cX11_goes 60 = .ok (.goto 32, 3) := by decide +kernel
theorem dX11_goes_63 : decode cX11_goes 63 = .ok (.iload_n 2, 1) := by decide +kernel
theorem dX11_goes_64 : decode cX11_goes 64 = .ok (.iconst 1, 1) := by decide +kernel
theorem dX11_goes_65 : decode cX11_goes 65 = .ok (.if_icmp .ne 12, 3) := by decide +kernel
theorem dX11_goes_68 : decode cX11_goes 68 = .ok (.aload_n 0, 1) := by decide +kernel
theorem dX11_goes_69 : decode cX11_goes 69 = .ok (.getfield 7, 3) := by decide +kernel
theorem dX11_goes_72 : decode cX11_goes 72 = .ok (.iconst 3, 1) := by decide +kernel
theorem dX11_goes_73 : decode cX11_goes 73 = .ok (.iaload, 1) := by decide +kernel
theorem dX11_goes_74 : decode cX11_goes 74 = .ok (.goto 18, 3) := by decide +kernel
theorem dX11_goes_77 : decode cX11_goes 77 = .ok (.iload_n 2, 1) := by decide +kernel
theorem dX11_goes_78 : decode cX11_goes 78 = .ok (.iconst 2, 1) := by decide +kernel
theorem dX11_goes_79 : decode cX11_goes 79 = .ok (.if_icmp .ne 12, 3) := by decide +kernel
theorem dX11_goes_82 : decode cX11_goes 82 = .ok (.aload_n 0, 1) := by decide +kernel
theorem dX11_goes_83 : decode cX11_goes 83 = .ok (.getfield 7, 3) := by decide +kernel
theorem dX11_goes_86 : decode cX11_goes 86 = .ok (.iconst 4, 1) := by decide +kernel
theorem dX11_goes_87 : decode cX11_goes 87 = .ok (.iaload, 1) := by decide +kernel
theorem dX11_goes_88 : decode cX11_goes 88 = .ok (.goto 4, 3) := by decide +kernel
theorem dX11_goes_91 : decode cX11_goes 91 = .ok (.iconst 0, 1) := by decide +kernel
theorem dX11_goes_92 : decode cX11_goes 92 = .ok (.istore_n 3, 1) := by decide +kernel
theorem dX11_goes_93 : decode cX11_goes 93 = .ok (.iconst 0, 1) := by decide +kernel
theorem dX11_goes_94 : decode cX11_goes 94 = .ok (.istore 4, 2) := by decide +kernel
theorem dX11_goes_96 : decode cX11_goes 96 = .ok (.iload 4, 2) := by decide +kernel
theorem dX11_goes_98 : decode cX11_goes 98 = .ok (.aload_n 0, 1) := by decide +kernel
theorem dX11_goes_99 : decode cX11_goes 99 = .ok (.getfield 144, 3) := by decide +kernel
theorem dX11_goes_102 : decode cX11_goes 102 = .ok (.if_icmp .ge 27, 3) := by decide +kernel
theorem dX11_goes_105 : decode cX11_goes 105 = .ok (.iload_n 2, 1) := by decide +kernel
theorem dX11_goes_106 : decode cX11_goes 106 = .ok (.iconst 3, 1) := by decide +kernel
theorem dX11_goes_107 : decode cX11_goes 107 = .ok (.if_icmp .ne 22, 3) := by decide +kernel
theorem dX11_goes_110 : decode cX11_goes 110 = .ok (.iload_n 3, 1) := by decide +kernel
theorem dX11_goes_111 : decode cX11_goes 111 = .ok (.aload_n 0, 1) := by decide +kernel
theorem dX11_goes_112 : decode cX11_goes 112 = .ok (.getfield 7, 3) := by decide +kernel
theorem dX11_goes_115 : decode cX11_goes 115 = .ok (.bipush 55, 2) := by decide +kernel
theorem dX11_goes_117 : decode cX11_goes 117 = .ok (.iload 4, 2) := by decide +kernel
theorem dX11_goes_119 : decode cX11_goes 119 = .ok (.iadd, 1) := by decide +kernel
theorem dX11_goes_120 : decode cX11_goes 120 = .ok (.iaload, 1) := by decide +kernel
theorem dX11_goes_121 : decode cX11_goes 121 = .ok (.iadd, 1) := by decide +kernel
theorem dX11_goes_122 : decode cX11_goes 122 = .ok (.istore_n 3, 1) := by decide +kernel
theorem dX11_goes_123 : decode cX11_goes 123 = .ok (.iinc 4 1, 3) := by decide +kernel
theorem dX11_goes_126 : decode cX11_goes 126 = .ok (.goto (-30), 3) := by decide +kernel
theorem dX11_goes_129 : decode cX11_goes 129 = .ok (.aload_n 0, 1) := by decide +kernel
theorem dX11_goes_130 : decode cX11_goes 130 = .ok (.invokevirtual 384, 3) := by decide +kernel
theorem dX11_goes_133 : decode cX11_goes 133 = .ok (.iload_n 3, 1) := by decide +kernel
theorem dX11_goes_134 : decode cX11_goes 134 = .ok (.ireturn, 1) := by decide +kernel
theorem dX11_jug_0 : decode cX11_jug 0 = .ok (.aload_n 0, 1) := by decide +kernel
theorem dX11_jug_1 : decode cX11_jug 1 = .ok (.iconst 0, 1) := by decide +kernel
theorem dX11_jug_2 : decode cX11_jug 2 = .ok (.putfield 132, 3) := by decide +kernel
theorem dX11_jug_5 : decode cX11_jug 5 = .ok (.aload_n 0, 1) := by decide +kernel
theorem dX11_jug_6 : decode cX11_jug 6 = .ok (.iload_n 1, 1) := by decide +kernel
theorem dX11_jug_7 : decode cX11_jug 7 = .ok (.invokevirtual 151, 3) := by decide +kernel
theorem dX11_jug_10 : decode cX11_jug 10 = .ok (.ifCond .ne 5, 3) := by decide +kernel
theorem dX11_jug_13 : decode cX11_jug 13 = .ok (.iconst (-1), 1) := by decide +kernel
theorem dX11_jug_14 : decode cX11_jug 14 = .ok (.ireturn, 1) := by decide +kernel
theorem dX11_jug_15 : decode cX11_jug 15 = .ok (.aload_n 0, 1) := by decide +kernel
theorem dX11_jug_16 : decode cX11_jug 16 = .ok (.invokevirtual 381, 3) := by decide +kernel
theorem dX11_jug_19 : decode cX11_jug 19 = .ok (.iconst 0, 1) := by decide +kernel
theorem dX11_jug_20 : decode cX11_jug 20 = .ok (.istore_n 2, 1) := by decide +kernel
theorem dX11_jug_21 : decode cX11_jug 21 = .ok (.iload_n 2, 1) := by decide +kernel
theorem dX11_jug_22 : decode cX11_jug 22 = .ok (.bipush 60, 2) := by decide +kernel
theorem dX11_jug_24 : decode cX11_jug 24 = .ok (.if_icmp .gt 26, 3) := by decide +kernel
theorem dX11_jug_27 : decode cX11_jug 27 = .ok (.aload_n 0, 1) := by decide +kernel
theorem dX11_jug_28 : decode cX11_jug 28 = .ok (.getfield 7, 3) := by decide +kernel
theorem dX11_jug_31 : decode cX11_jug 31 = .ok (.bipush 6, 2) := by decide +kernel
theorem dX11_jug_33 : decode cX11_jug 33 = .ok (.iaload, 1) := by decide +kernel
theorem dX11_jug_34 : decode cX11_jug 34 = .ok (.iload_n 1, 1) := by decide +kernel
theorem dX11_jug_35 : decode cX11_jug 35 = .ok (.if_icmp .eq 15, 3) := by decide +kernel
theorem dX11_jug_38 : decode cX11_jug 38 = .ok (.aload_n 0, 1) := by decide +kernel
theorem dX11_jug_39 : decode cX11_jug 39 = .ok (.invokevirtual 378, 3) := by decide +kernel
theorem dX11_jug_42 : decode cX11_jug 42 = .ok (.pop, 1) := by decide +kernel
theorem dX11_jug_43 : decode cX11_jug 43 = .ok (.iload_n 2, 1) := by decide +kernel
theorem dX11_jug_44 : decode cX11_jug 44 = .ok (.iconst 1, 1) := by decide +kernel
theorem dX11_jug_45 : decode cX11_jug 45 = .ok (.iadd, 1) := by decide +kernel
theorem dX11_jug_46 : decode cX11_jug 46 = .ok (.istore_n 2, 1) := by decide +kernel
theorem dX11_jug_47 : decode cX11_jug 47 = .ok (.goto (-26), 3) := by decide +kernel
theorem dX11_jug_50 : decode cX11_jug 50 = .ok (.aload_n 0, 1) := by decide +kernel
theorem dX11_jug_51 : decode cX11_jug 51 = .ok (.invokevirtual 384, 3) := by decide +kernel
theorem dX11_jug_54 : decode cX11_jug 54 = .ok (.iload_n 2, 1) := by decide +kernel
theorem dX11_jug_55 : decode cX11_jug 55 = .ok (.bipush 60, 2) := by decide +kernel
theorem dX11_jug_57 : decode cX11_jug 57 = .ok (.if_icmp .le 7, 3) := by decide +kernel
theorem dX11_jug_60 : decode cX11_jug 60 = .ok (.iconst (-1), 1) := by decide +kernel
theorem dX11_jug_61 : decode cX11_jug 61 = .ok (.goto 4, 3) := by decide +kernel
theorem dX11_jug_64 : decode cX11_jug 64 = .ok (.iload_n 2, 1) := by decide +kernel
theorem dX11_jug_65 : decode cX11_jug 65 = .ok (.ireturn, 1) := by decide +kernel
theorem dX11_meets_0 : decode cX11_meets 0 = .ok (.aload_n 0, 1) := by decide +kernel
theorem dX11_meets_1 : decode cX11_meets 1 = .ok (.iconst 0, 1) := by decide +kernel
theorem dX11_meets_2 : decode cX11_meets 2 = .ok (.putfield 132, 3) := by decide +kernel
theorem dX11_meets_5 : decode cX11_meets 5 = .ok (.iload_n 3, 1) := by decide +kernel
theorem dX11_meets_6 : decode cX11_meets 6 = .ok (.sipush 1000, 3) := by decide +kernel
theorem dX11_meets_9 : decode cX11_meets 9 = .ok (.idiv, 1) := by decide +kernel
theorem dX11_meets_10 : decode cX11_meets 10 = .ok (.istore 5, 2) := by decide +kernel
theorem dX11_meets_12 : decode cX11_meets 12 = .ok (.iload_n 3, 1) := by decide +kernel
theorem dX11_meets_13 : decode cX11_meets 13 = .ok (.sipush 1000, 3) := by decide +kernel
theorem dX11_meets_16 : decode cX11_meets 16 = .ok (.irem, 1) := by decide +kernel
theorem dX11_meets_17 : decode cX11_meets 17 = .ok (.istore 6, 2) := by decide +kernel
theorem dX11_meets_19 : decode cX11_meets 19 = .ok (.aload_n 0, 1) := by decide +kernel
theorem dX11_meets_20 : decode cX11_meets 20 = .ok (.iload_n 1, 1) := by decide +kernel
theorem dX11_meets_21 : decode cX11_meets 21 = .ok (.iconst 2, 1) := by decide +kernel
theorem dX11_meets_22 : decode cX11_meets 22 = .ok (.sipush 500, 3) := by decide +kernel
theorem dX11_meets_25 : decode cX11_meets 25 = .ok (.invokevirtual 147, 3) := by decide +kernel
theorem dX11_meets_28 : decode cX11_meets 28 = .ok (.ifCond .eq 49, 3) := by decide +kernel
theorem dX11_meets_31 : decode cX11_meets 31 = .ok (.aload_n 0, 1) := by decide +kernel
theorem dX11_meets_32 : decode cX11_meets 32 = .ok (.iload_n 2, 1) := by decide +kernel
theorem dX11_meets_33 : decode cX11_meets 33 = .ok (.iconst 1, 1) := by decide +kernel
theorem dX11_meets_34 : decode cX11_meets 34 = .ok (.bipush 9, 2) := by decide +kernel
theorem dX11_meets_36 : decode cX11_meets 36 = .ok (.invokevirtual 147, 3) := by decide +kernel
theorem dX11_meets_39 : decode cX11_meets 39 = .ok (.ifCond .eq 38, 3) := by decide +kernel
theorem dX11_meets_42 : decode cX11_meets 42 = .ok (.aload_n 0, 1) := by decide +kernel
theorem dX11_meets_43 : decode cX11_meets 43 = .ok (.iload_n 3, 1) := by decide +kernel
theorem dX11_meets_44 : decode cX11_meets 44 = .ok (.iconst 0, 1) := by decide +kernel
theorem dX11_meets_45 : decode cX11_meets 45 = .ok (.ldc_w 387, 3) := by decide +kernel
theorem dX11_meets_48 : decode cX11_meets 48 = .ok (.invokevirtual 147, 3) := by decide +kernel
theorem dX11_meets_51 : decode cX11_meets 51 = .ok (.ifCond .eq 26, 3) := by decide +kernel
theorem dX11_meets_54 : decode cX11_meets 54 = .ok (.iload 5, 2) := by decide +kernel
theorem dX11_meets_56 : decode cX11_meets 56 = .ok (.iload_n 1, 1) := by decide +kernel
theorem dX11_meets_57 : decode cX11_meets 57 = .ok (.if_icmp .ge 20, 3) := by decide +kernel
theorem dX11_meets_60 : decode cX11_meets 60 = .ok (.iload 6, 2) := by decide +kernel
theorem dX11_meets_62 : decode cX11_meets 62 = .ok (.iload_n 1, 1) := by decide +kernel
theorem dX11_meets_63 : decode cX11_meets 63 = .ok (.if_icmp .ge 14, 3) := by decide +kernel
theorem dX11_meets_66 : decode cX11_meets 66 = .ok (.aload_n 0, 1) := by decide +kernel
theorem dX11_meets_67 : decode cX11_meets 67 = .ok (.iload 4, 2) := by decide +kernel
theorem dX11_meets_69 : decode cX11_meets 69 = .ok (.iconst 0, 1) := by decide +kernel
theorem dX11_meets_70 : decode cX11_meets 70 = .ok (.iconst 1, 1) := by decide +kernel
theorem dX11_meets_71 : decode cX11_meets 71 = .ok (.invokevirtual 147, 3) := by decide +kernel
theorem dX11_meets_74 : decode cX11_meets 74 = .ok (.ifCond .ne 5, 3) := by decide +kernel
theorem dX11_meets_77 : decode cX11_meets 77 = .ok (.iconst (-1), 1) := by decide +kernel
theorem dX11_meets_78 : decode cX11_meets 78 = .ok (.ireturn, 1) := by decide +kernel
theorem dX11_meets_79 : decode cX11_meets 79 = .ok (.iconst 0, 1) := by decide +kernel
theorem dX11_meets_80 : decode cX11_meets 80 = .ok (.istore 7, 2) := by decide +kernel
theorem dX11_meets_82 : decode cX11_meets 82 = .ok (.iload 6, 2) := by decide +kernel
theorem dX11_meets_84 : decode cX11_meets 84 = .ok (.iload 5, 2) := by decide +kernel
theorem dX11_meets_86 : decode cX11_meets 86 = .ok (.isub, 1) := by decide +kernel
theorem dX11_meets_87 : decode cX11_meets 87 = .ok (.iload_n 1, 1) := by decide +kernel
theorem dX11_meets_88 : decode cX11_meets 88 = .ok (.iadd, 1) := by decide +kernel
theorem dX11_meets_89 : decode cX11_meets 89 = .ok (.iload_n 1, 1) := by decide +kernel
theorem dX11_meets_90 : decode cX11_meets 90 = .ok (.irem, 1) := by decide +kernel
theorem dX11_meets_91 : decode cX11_meets 91 = .ok (.istore 8, 2) := by decide +kernel
theorem dX11_meets_93 : decode cX11_meets 93 = .ok (.iconst 0, 1) := by decide +kernel
theorem dX11_meets_94 : decode cX11_meets 94 = .ok (.istore 9, 2) := by decide +kernel
theorem dX11_meets_96 : decode cX11_meets 96 = .ok (.iload 9, 2) := by decide +kernel
theorem dX11_meets_98 : decode cX11_meets 98 = .ok (.iload_n 1, 1) := by decide +kernel
theorem dX11_meets_99 : decode cX11_meets 99 = .ok (.if_icmp .ge 52, 3) := by decide +kernel
theorem dX11_meets_102 : decode cX11_meets 102 = .ok (.iload 8, 2) := by decide +kernel
theorem dX11_meets_104 : decode cX11_meets 104 = .ok (.ifCond .ne 16, 3) := by decide +kernel
theorem dX11_meets_107 : decode cX11_meets 107 = .ok (.iload 4, 2) := by decide +kernel
theorem dX11_meets_109 : decode cX11_meets 109 = .ok (.ifCond .ne 8, 3) := by decide +kernel
theorem dX11_meets_112 : decode cX11_meets 112 = .ok (.iload 9, 2) := by decide +kernel
theorem dX11_meets_114 : decode cX11_meets 114 = .ok (.goto 5, 3) := by decide +kernel
theorem dX11_meets_117 : decode cX11_meets 117 = .ok (.iload 7, 2) := by decide +kernel
theorem dX11_meets_119 : decode cX11_meets 119 = .ok (.ireturn, 1) := by decide +kernel
theorem dX11_meets_120 : decode cX11_meets 120 = .ok (.iload 8, 2) := by decide +kernel
theorem dX11_meets_122 : decode cX11_meets 122 = .ok (.iload_n 2, 1) := by decide +kernel
theorem dX11_meets_123 : decode cX11_meets 123 = .ok (.iconst 1, 1) := by decide +kernel
theorem dX11_meets_124 : decode cX11_meets 124 = .ok (.iadd, 1) := by decide +kernel
theorem dX11_meets_125 : decode cX11_meets 125 = .ok (.if_icmp .ge 6, 3) := by decide +kernel
theorem dX11_meets_128 : decode cX11_meets 128 = .ok (.iconst 1, 1) := by decide +kernel
theorem dX11_meets_129 : decode cX11_meets 129 = .ok (.istore 7, 2) := by decide +kernel
theorem dX11_meets_131 : decode cX11_meets 131 = .ok (.iload 8, 2) := by decide +kernel
theorem dX11_meets_133 : decode cX11_meets 133 = .ok (.iload_n 2, 1) := by decide +kernel
theorem dX11_meets_134 : decode cX11_meets 134 = .ok (.iconst 1, 1) := by decide +kernel
theorem dX11_meets_135 : decode cX11_meets 135 = .ok (.iadd, 1) := by decide +kernel
theorem dX11_meets_136 : decode cX11_meets 136 = .ok (.iload_n 1, 1) := by decide +kernel
theorem dX11_meets_137 : decode cX11_meets 137 = .ok (.irem, 1) := by decide +kernel
theorem dX11_meets_138 : decode cX11_meets 138 = .ok (.isub, 1) := by decide +kernel
theorem dX11_meets_139 : decode cX11_meets 139 = .ok (.iload_n 1, 1) := by decide +kernel
theorem dX11_meets_140 : decode cX11_meets 140 = .ok (.iadd, 1) := by decide +kernel
theorem dX11_meets_141 : decode cX11_meets 141 = .ok (.iload_n 1, 1) := by decide +kernel
theorem dX11_meets_142 : decode cX11_meets 142 = .ok (.irem, 1) := by decide +kernel
theorem dX11_meets_143 : decode cX11_meets 143 = .ok (.istore 8, 2) := by decide +kernel
theorem dX11_meets_145 : decode cX11_meets 145 = .ok (.iinc 9 1, 3) := by decide +kernel
theorem dX11_meets_148 : decode cX11_meets 148 = .ok (.goto (-52), 3) := by decide +kernel
theorem dX11_meets_151 : decode cX11_meets 151 = .ok (.iload 4, 2) := by decide +kernel
theorem dX11_meets_153 : decode cX11_meets 153 = .ok (.ifCond .ne 7, 3) := by decide +kernel
theorem dX11_meets_156 : decode cX11_meets 156 = .ok (.iconst (-1), 1) := by decide +kernel
theorem dX11_meets_157 : decode cX11_meets 157 = .ok (.goto 5, 3) := by decide +kernel
theorem dX11_meets_160 : decode cX11_meets 160 = .ok (.iload 7, 2) := by decide +kernel
theorem dX11_meets_162 : decode cX11_meets 162 = .ok (.ireturn, 1) := by decide +kernel
theorem dX11_child_0 : decode cX11_child 0 = .ok (.aload_n 0, 1) := by decide +kernel
theorem dX11_child_1 : decode cX11_child 1 = .ok (.iconst 0, 1) := by decide +kernel
theorem dX11_child_2 : decode cX11_child 2 = .ok (.putfield 132, 3) := by decide +kernel
theorem dX11_child_5 : decode cX11_child 5 = .ok (.iload_n 1, 1) := by decide +kernel
theorem dX11_child_6 : decode cX11_child 6 = .ok (.iconst (-1), 1) := by decide +kernel
theorem dX11_child_7 : decode cX11_child 7 = .ok (.if_icmp .ne 10, 3) := by decide +kernel
theorem dX11_child_10 : decode cX11_child 10 = .ok (.aload_n 0, 1) := by decide +kernel
theorem dX11_child_11 : decode cX11_child 11 = .ok (.iconst 0, 1) := by decide +kernel
theorem dX11_child_12 : decode cX11_child 12 = .ok (.putfield 388, 3) := by decide +kernel
theorem dX11_child_15 : decode cX11_child 15 = .ok (.iconst 0, 1) := by decide +kernel
theorem dX11_child_16 : decode cX11_child 16 = .ok (.ireturn, 1) := by decide +kernel
theorem dX11_child_17 : decode cX11_child 17 = .ok (.aload_n 0, 1) := by decide +kernel
theorem dX11_child_18 : decode cX11_child 18 = .ok (.iload_n 1, 1) := by decide +kernel
theorem dX11_child_19 : decode cX11_child 19 = .ok (.iconst 0, 1) := by decide +kernel
theorem dX11_child_20 : decode cX11_child 20 = .ok (.iconst 1, 1) := by decide +kernel
theorem dX11_child_21 : decode cX11_child 21 = .ok (.invokevirtual 147, 3) := by decide +kernel
theorem dX11_child_24 : decode cX11_child 24 = .ok (.ifCond .eq 12, 3) := by decide +kernel
theorem dX11_child_27 : decode cX11_child 27 = .ok (.aload_n 0, 1) := by decide +kernel
theorem dX11_child_28 : decode cX11_child 28 = .ok (.getfield 388, 3) := by decide +kernel
theorem dX11_child_31 : decode cX11_child 31 = .ok (.bipush 12, 2) := by decide +kernel
theorem dX11_child_33 : decode cX11_child 33 = .ok (.if_icmp .ne 5, 3) := by decide +kernel
theorem dX11_child_36 : decode cX11_child 36 = .ok (.iconst (-1), 1) := by decide +kernel
theorem dX11_child_37 : decode cX11_child 37 = .ok (.ireturn, 1) := by decide +kernel
theorem dX11_child_38 : decode cX11_child 38 = .ok (.aload_n 0, 1) := by decide +kernel
theorem dX11_child_39 : decode cX11_child 39 = .ok (.getfield 74, 3) := by decide +kernel
theorem dX11_child_42 : decode cX11_child 42 = .ok (.aload_n 0, 1) := by decide +kernel
theorem dX11_child_43 : decode cX11_child 43 = .ok (.getfield 388, 3) := by decide +kernel
theorem dX11_child_46 : decode cX11_child 46 = .ok (.iload_n 1, 1) := by decide +kernel
theorem dX11_child_47 : decode cX11_child 47 = .ok (.iastore, 1) := by decide +kernel
theorem dX11_child_48 : decode cX11_child 48 = .ok (.aload_n 0, 1) := by decide +kernel
theorem dX11_child_49 : decode cX11_child 49 = .ok (.aload_n 0, 1) := by decide +kernel
theorem dX11_child_50 : decode cX11_child 50 = .ok (.getfield 388, 3) := by decide +kernel
theorem dX11_child_53 : decode cX11_child 53 = .ok (.iconst 1, 1) := by decide +kernel
theorem dX11_child_54 : decode cX11_child 54 = .ok (.iadd, 1) := by decide +kernel
theorem dX11_child_55 : decode cX11_child 55 = .ok (.putfield 388, 3) := by decide +kernel
theorem dX11_child_58 : decode cX11_child 58 = .ok (.aload_n 0, 1) := by decide +kernel
theorem dX11_child_59 : decode cX11_child 59 = .ok (.getfield 388, 3) := by decide +kernel
theorem dX11_child_62 : decode cX11_child 62 = .ok (.ireturn, 1) := by decide +kernel
theorem dX11_isPlan_0 : decode cX11_isPlan 0 = .ok (.iconst 1, 1) := by decide +kernel
theorem dX11_isPlan_1 : decode cX11_isPlan 1 = .ok (.istore_n 3, 1) := by decide +kernel
theorem dX11_isPlan_2 : decode cX11_isPlan 2 = .ok (.iload_n 3, 1) := by decide +kernel
theorem dX11_isPlan_3 : decode cX11_isPlan 3 = .ok (.aload_n 0, 1) := by decide +kernel
theorem dX11_isPlan_4 : decode cX11_isPlan 4 = .ok (.getfield 388, 3) := by decide +kernel
theorem dX11_isPlan_7 : decode cX11_isPlan 7 = .ok (.if_icmp .ge 43, 3) := by decide +kernel
theorem dX11_isPlan_10 : decode cX11_isPlan 10 = .ok (.iload_n 1, 1) := by decide +kernel
theorem dX11_isPlan_11 : decode cX11_isPlan 11 = .ok (.iload_n 3, 1) := by decide +kernel
theorem dX11_isPlan_12 : decode cX11_isPlan 12 = .ok (.iconst 1, 1) := by decide +kernel
theorem dX11_isPlan_13 : decode cX11_isPlan 13 = .ok (.isub, 1) := by decide +kernel
theorem dX11_isPlan_14 : decode cX11_isPlan 14 = .ok (.ishr, 1) := by decide +kernel
theorem dX11_isPlan_15 : decode cX11_isPlan 15 = .ok (.iconst 3, 1) := by decide +kernel
theorem dX11_isPlan_16 : decode cX11_isPlan 16 = .ok (.iand, 1) := by decide +kernel
theorem dX11_isPlan_17 : decode cX11_isPlan 17 = .ok (.istore 4, 2) := by decide +kernel
theorem dX11_isPlan_19 : decode cX11_isPlan 19 = .ok (.iload_n 2, 1) := by decide +kernel
theorem dX11_isPlan_20 : decode cX11_isPlan 20 = .ok (.ifCond .ne 11, 3) := by decide +kernel
theorem dX11_isPlan_23 : decode cX11_isPlan 23 = .ok (.iload 4, 2) := by decide +kernel
theorem dX11_isPlan_25 : decode cX11_isPlan 25 = .ok (.ifCond .ne 19, 3) := by decide +kernel
theorem dX11_isPlan_28 : decode cX11_isPlan 28 = .ok (.goto 14, 3) := by decide +kernel
theorem dX11_isPlan_31 : decode cX11_isPlan 31 = .ok (.iload 4, 2) := by decide +kernel
theorem dX11_isPlan_33 : decode cX11_isPlan 33 = .ok (.ifCond .eq 9, 3) := by decide +kernel
theorem dX11_isPlan_36 : decode cX11_isPlan 36 = .ok (.iload 4, 2) := by decide +kernel
theorem dX11_isPlan_38 : decode cX11_isPlan 38 = .ok (.iconst 3, 1) := by decide +kernel
theorem dX11_isPlan_39 : decode cX11_isPlan 39 = .ok (.if_icmp .ne 5, 3) := by decide +kernel
theorem dX11_isPlan_42 : decode cX11_isPlan 42 = .ok (.iconst 0, 1) := by decide +kernel
theorem dX11_isPlan_43 : decode cX11_isPlan 43 = .ok (.ireturn, 1) := by decide +kernel
theorem dX11_isPlan_44 : decode cX11_isPlan 44 = .ok (.iinc 3 1, 3) := by decide +kernel
theorem dX11_isPlan_47 : decode cX11_isPlan 47 = .ok (.goto (-45), 3) := by decide +kernel
theorem dX11_isPlan_50 : decode cX11_isPlan 50 = .ok (.iconst 1, 1) := by decide +kernel
theorem dX11_isPlan_51 : decode cX11_isPlan 51 = .ok (.ireturn, 1) := by decide +kernel
theorem dX11_planned_0 : decode cX11_planned 0 = .ok (.aload_n 0, 1) := by decide +kernel
theorem dX11_planned_1 : decode cX11_planned 1 = .ok (.iconst 0, 1) := by decide +kernel
theorem dX11_planned_2 : decode cX11_planned 2 = .ok (.putfield 132, 3) := by decide +kernel
theorem dX11_planned_5 : decode cX11_planned 5 = .ok (.aload_n 0, 1) := by decide +kernel
theorem dX11_planned_6 : decode cX11_planned 6 = .ok (.iload_n 1, 1) := by decide +kernel
theorem dX11_planned_7 : decode cX11_planned 7 = .ok (.iconst 0, 1) := by decide +kernel
theorem dX11_planned_8 : decode cX11_planned 8 = .ok (.iconst 1, 1) := by decide +kernel
theorem dX11_planned_9 : decode cX11_planned 9 = .ok (.invokevirtual 147, 3) := by decide +kernel
theorem dX11_planned_12 : decode cX11_planned 12 = .ok (.ifCond .ne 5, 3) := by decide +kernel
theorem dX11_planned_15 : decode cX11_planned 15 = .ok (.iconst (-1), 1) := by decide +kernel
theorem dX11_planned_16 : decode cX11_planned 16 = .ok (.ireturn, 1) := by decide +kernel
theorem dX11_planned_17 : decode cX11_planned 17 = .ok (.iconst 0, 1) := by decide +kernel
theorem dX11_planned_18 : decode cX11_planned 18 = .ok (.istore_n 2, 1) := by decide +kernel
theorem dX11_planned_19 : decode cX11_planned 19 = .ok (.iconst 0, 1) := by decide +kernel
theorem dX11_planned_20 : decode cX11_planned 20 = .ok (.istore_n 3, 1) := by decide +kernel
theorem dX11_planned_21 : decode cX11_planned 21 = .ok (.iload_n 3, 1) := by decide +kernel
theorem dX11_planned_22 : decode cX11_planned 22 = .ok (.aload_n 0, 1) := by decide +kernel
theorem dX11_planned_23 : decode cX11_planned 23 = .ok (.getfield 388, 3) := by decide +kernel
theorem dX11_planned_26 : decode cX11_planned 26 = .ok (.if_icmp .ge 20, 3) := by decide +kernel
theorem dX11_planned_29 : decode cX11_planned 29 = .ok (.iload_n 2, 1) := by decide +kernel
theorem dX11_planned_30 : decode cX11_planned 30 = .ok (.aload_n 0, 1) := by decide +kernel
theorem dX11_planned_31 : decode cX11_planned 31 = .ok (.getfield 74, 3) := by decide +kernel
theorem dX11_planned_34 : decode cX11_planned 34 = .ok (.iload_n 3, 1) := by decide +kernel
theorem dX11_planned_35 : decode cX11_planned 35 = .ok (.iaload, 1) := by decide +kernel
theorem dX11_planned_36 : decode cX11_planned 36 = .ok (.iload_n 3, 1) := by decide +kernel
theorem dX11_planned_37 : decode cX11_planned 37 = .ok (.ishl, 1) := by decide +kernel
theorem dX11_planned_38 : decode cX11_planned 38 = .ok (.ior, 1) := by decide +kernel
theorem dX11_planned_39 : decode cX11_planned 39 = .ok (.istore_n 2, 1) := by decide +kernel
theorem dX11_planned_40 : decode cX11_planned 40 = .ok (.iinc 3 1, 3) := by decide +kernel
theorem dX11_planned_43 : decode cX11_planned 43 = .ok (.goto (-22), 3) := by decide +kernel
theorem dX11_planned_46 : decode cX11_planned 46 = .ok (.ldc_w 391, 3) := by decide +kernel
theorem dX11_planned_49 : decode cX11_planned 49 = .ok (.istore_n 3, 1) := by decide +kernel
theorem dX11_planned_50 : decode cX11_planned 50 = .ok (.iconst 0, 1) := by decide +kernel
theorem dX11_planned_51 : decode cX11_planned 51 = .ok (.istore 4, 2) := by decide +kernel
theorem dX11_planned_53 : decode cX11_planned 53 = .ok (.iload 4, 2) := by decide +kernel
theorem dX11_planned_55 : decode cX11_planned 55 = .ok (.iconst 1, 1) := by decide +kernel
theorem dX11_planned_56 : decode cX11_planned 56 = .ok (.aload_n 0, 1) := by decide +kernel
theorem dX11_planned_57 : decode cX11_planned 57 = .ok (.getfield 388, 3) := by decide +kernel
theorem dX11_planned_60 : decode cX11_planned 60 = .ok (.ishl, 1) := by decide +kernel
theorem dX11_planned_61 : decode cX11_planned 61 = .ok (.if_icmp .ge 33, 3) := by decide +kernel
theorem dX11_planned_64 : decode cX11_planned 64 = .ok (.aload_n 0, 1) := by decide +kernel
theorem dX11_planned_65 : decode cX11_planned 65 = .ok (.iload 4, 2) := by decide +kernel
theorem dX11_planned_67 : decode cX11_planned 67 = .ok (.iload_n 1, 1) := by decide +kernel
theorem dX11_planned_68 : decode cX11_planned 68 = .ok (.invokevirtual 392, 3) := by decide +kernel
theorem dX11_planned_71 : decode cX11_planned 71 = .ok (.ifCond .eq 17, 3) := by decide +kernel
theorem dX11_planned_74 : decode cX11_planned 74 = .ok (.aload_n 0, 1) := by decide +kernel
theorem dX11_planned_75 : decode cX11_planned 75 = .ok (.iload_n 3, 1) := by decide +kernel
theorem dX11_planned_76 : decode cX11_planned 76 = .ok (.aload_n 0, 1) := by decide +kernel
theorem dX11_planned_77 : decode cX11_planned 77 = .ok (.iload 4, 2) := by decide +kernel
theorem dX11_planned_79 : decode cX11_planned 79 = .ok (.iload_n 2, 1) := by decide +kernel
theorem dX11_planned_80 : decode cX11_planned 80 = .ok (.ixor, 1) := by decide +kernel
theorem dX11_planned_81 : decode cX11_planned 81 = .ok (.invokevirtual 395, 3) := by decide +kernel
theorem dX11_planned_84 : decode cX11_planned 84 = .ok (.invokevirtual 332, 3) := by decide +kernel
theorem dX11_planned_87 : decode cX11_planned 87 = .ok (.istore_n 3, 1) := by decide +kernel
theorem dX11_planned_88 : decode cX11_planned 88 = .ok (.iinc 4 1, 3) := by decide +kernel
theorem dX11_planned_91 : decode cX11_planned 91 = .ok (.goto (-38), 3) := by decide +kernel
theorem dX11_planned_94 : decode cX11_planned 94 = .ok (.iload_n 3, 1) := by decide +kernel
theorem dX11_planned_95 : decode cX11_planned 95 = .ok (.ireturn, 1) := by decide +kernel
theorem dX11_takesWagons_0 : decode cX11_takesWagons 0 = .ok (.iconst 0, 1) := by decide +kernel
theorem dX11_takesWagons_1 : decode cX11_takesWagons 1 = .ok (.istore_n 2, 1) := by decide +kernel
theorem dX11_takesWagons_2 : decode cX11_takesWagons 2 = .ok (.iload_n 1, 1) := by decide +kernel
theorem dX11_takesWagons_3 : decode cX11_takesWagons 3 = .ok (.istore_n 3, 1) := by decide +kernel
theorem dX11_takesWagons_4 : decode cX11_takesWagons 4 = .ok (.iload_n 3, 1) := by decide +kernel
theorem dX11_takesWagons_5 : decode cX11_takesWagons 5 = .ok (.bipush 9, 2) := by decide +kernel
theorem dX11_takesWagons_7 : decode cX11_takesWagons 7 = .ok (.if_icmp .le 15, 3) := by decide +kernel
theorem dX11_takesWagons_10 : decode cX11_takesWagons 10 = .ok (.iload_n 2, 1) := by decide +kernel
theorem dX11_takesWagons_11 : decode cX11_takesWagons 11 = .ok (.iconst 1, 1) := by decide +kernel
theorem dX11_takesWagons_12 : decode cX11_takesWagons 12 = .ok (.iadd, 1) := by decide +kernel
theorem dX11_takesWagons_13 : decode cX11_takesWagons 13 = .ok (.istore_n 2, 1) := by decide +kernel
theorem dX11_takesWagons_14 : decode cX11_takesWagons 14 = .ok (.iload_n 3, 1) := by decide +kernel
theorem dX11_takesWagons_15 : decode cX11_takesWagons 15 = .ok (.bipush 10, 2) := by decide +kernel
theorem dX11_takesWagons_17 : decode cX11_takesWagons 17 = .ok (.idiv, 1) := by decide +kernel
theorem dX11_takesWagons_18 : decode cX11_takesWagons 18 = .ok (.istore_n 3, 1) := by decide +kernel
theorem dX11_takesWagons_19 : decode cX11_takesWagons 19 = .ok (.goto (-15), 3) := by decide +kernel
theorem dX11_takesWagons_22 : decode cX11_takesWagons 22 = .ok (.iload_n 1, 1) := by decide +kernel
theorem dX11_takesWagons_23 : decode cX11_takesWagons 23 = .ok (.bipush 10, 2) := by decide +kernel
theorem dX11_takesWagons_25 : decode cX11_takesWagons 25 = .ok (.if_icmp .lt 9, 3) := by decide +kernel
theorem dX11_takesWagons_28 : decode cX11_takesWagons 28 = .ok (.iload_n 2, 1) := by decide +kernel
theorem dX11_takesWagons_29 : decode cX11_takesWagons 29 = .ok (.bipush 9, 2) := by decide +kernel
theorem dX11_takesWagons_31 : decode cX11_takesWagons 31 = .ok (.if_icmp .le 5, 3) := by decide +kernel
theorem dX11_takesWagons_34 : decode cX11_takesWagons 34 = .ok (.iconst (-1), 1) := by decide +kernel
theorem dX11_takesWagons_35 : decode cX11_takesWagons 35 = .ok (.ireturn, 1) := by decide +kernel
theorem dX11_takesWagons_36 : decode cX11_takesWagons 36 = .ok (.iconst 0, 1) := by decide +kernel
theorem dX11_takesWagons_37 : decode cX11_takesWagons 37 = .ok (.istore_n 3, 1) := by decide +kernel
theorem dX11_takesWagons_38 : decode cX11_takesWagons 38 = .ok (.iload_n 1, 1) := by decide +kernel
theorem dX11_takesWagons_39 : decode cX11_takesWagons 39 = .ok (.istore 4, 2) := by decide +kernel
theorem dX11_takesWagons_41 : decode cX11_takesWagons 41 = .ok (.iload_n 2, 1) := by decide +kernel
theorem dX11_takesWagons_42 : decode cX11_takesWagons 42 = .ok (.iconst 1, 1) := by decide +kernel
theorem dX11_takesWagons_43 : decode cX11_takesWagons 43 = .ok (.isub, 1) := by decide +kernel
theorem dX11_takesWagons_44 : decode cX11_takesWagons 44 = .ok (.istore 5, 2) := by decide +kernel
theorem dX11_takesWagons_46 : decode cX11_takesWagons 46 = .ok (.iload 5, 2) := by decide +kernel
theorem dX11_takesWagons_48 : decode cX11_takesWagons 48 = .ok (.ifCond .lt 38, 3) := by decide +kernel
theorem dX11_takesWagons_51 : decode cX11_takesWagons 51 = .ok (.aload_n 0, 1) := by decide +kernel
theorem dX11_takesWagons_52 : decode cX11_takesWagons 52 = .ok (.getfield 77, 3) := by decide +kernel
theorem dX11_takesWagons_55 : decode cX11_takesWagons 55 = .ok (.iload 5, 2) := by decide +kernel
theorem dX11_takesWagons_57 : decode cX11_takesWagons 57 = .ok (.iload 4, 2) := by decide +kernel
theorem dX11_takesWagons_59 : decode cX11_takesWagons 59 = .ok (.bipush 10, 2) := by decide +kernel
theorem dX11_takesWagons_61 : decode cX11_takesWagons 61 = .ok (.irem, 1) := by decide +kernel
theorem dX11_takesWagons_62 : decode cX11_takesWagons 62 = .ok (.iastore, 1) := by decide +kernel
theorem dX11_takesWagons_63 : decode cX11_takesWagons 63 = .ok (.iload_n 3, 1) := by decide +kernel
theorem dX11_takesWagons_64 : decode cX11_takesWagons 64 = .ok (.iconst 1, 1) := by decide +kernel
theorem dX11_takesWagons_65 : decode cX11_takesWagons 65 = .ok (.iload 4, 2) := by decide +kernel
theorem dX11_takesWagons_67 : decode cX11_takesWagons 67 = .ok (.bipush 10, 2) := by decide +kernel
theorem dX11_takesWagons_69 : decode cX11_takesWagons 69 = .ok (.irem, 1) := by decide +kernel
theorem dX11_takesWagons_70 : decode cX11_takesWagons 70 = .ok (.ishl, 1) := by decide +kernel
theorem dX11_takesWagons_71 : decode cX11_takesWagons 71 = .ok (.ior, 1) := by decide +kernel
theorem dX11_takesWagons_72 : decode cX11_takesWagons 72 = .ok (.istore_n 3, 1) := by decide +kernel
theorem dX11_takesWagons_73 : decode cX11_takesWagons 73 = .ok (.iload 4, 2) := by decide +kernel
theorem dX11_takesWagons_75 : decode cX11_takesWagons 75 = .ok (.bipush 10, 2) := by decide +kernel
theorem dX11_takesWagons_77 : decode cX11_takesWagons 77 = .ok (.idiv, 1) := by decide +kernel
theorem dX11_takesWagons_78 : decode cX11_takesWagons 78 = .ok (.istore 4, 2) := by decide +kernel
theorem dX11_takesWagons_80 : decode cX11_takesWagons 80 = .ok (.iinc 5 (-1), 3) := by decide +kernel
theorem dX11_takesWagons_83 : decode cX11_takesWagons 83 = .ok (.goto (-37), 3) := by decide +kernel
theorem dX11_takesWagons_86 : decode cX11_takesWagons 86 = .ok (.iload 4, 2) := by decide +kernel
theorem dX11_takesWagons_88 : decode cX11_takesWagons 88 = .ok (.iconst 1, 1) := by decide +kernel
theorem dX11_takesWagons_89 : decode cX11_takesWagons 89 = .ok (.if_icmp .ne 16, 3) := by decide +kernel
theorem dX11_takesWagons_92 : decode cX11_takesWagons 92 = .ok (.iload_n 3, 1) := by decide +kernel
theorem dX11_takesWagons_93 : decode cX11_takesWagons 93 = .ok (.iconst 1, 1) := by decide +kernel
theorem dX11_takesWagons_94 : decode cX11_takesWagons 94 = .ok (.iload_n 2, 1) := by decide +kernel
theorem dX11_takesWagons_95 : decode cX11_takesWagons 95 = .ok (.ishl, 1) := by decide +kernel
theorem dX11_takesWagons_96 : decode cX11_takesWagons 96 = .ok (.iconst 1, 1) := by decide +kernel
theorem dX11_takesWagons_97 : decode cX11_takesWagons 97 = .ok (.isub, 1) := by decide +kernel
theorem dX11_takesWagons_98 : decode cX11_takesWagons 98 = .ok (.if_icmp .ne 7, 3) := by decide +kernel
theorem dX11_takesWagons_101 : decode cX11_takesWagons 101 = .ok (.iload_n 2, 1) := by decide +kernel
theorem dX11_takesWagons_102 : decode cX11_takesWagons 102 = .ok (.goto 4, 3) := by decide +kernel
theorem dX11_takesWagons_105 : decode cX11_takesWagons 105 = .ok (.iconst (-1), 1) := by decide +kernel
theorem dX11_takesWagons_106 : decode cX11_takesWagons 106 = .ok (.ireturn, 1) := by decide +kernel
theorem dX11_deepest_0 : decode cX11_deepest 0 = .ok (.iconst 0, 1) := by decide +kernel
theorem dX11_deepest_1 : decode cX11_deepest 1 = .ok (.istore_n 2, 1) := by decide +kernel
theorem dX11_deepest_2 : decode cX11_deepest 2 = .ok (.iconst 0, 1) := by decide +kernel
theorem dX11_deepest_3 : decode cX11_deepest 3 = .ok (.istore_n 3, 1) := by decide +kernel
theorem dX11_deepest_4 : decode cX11_deepest 4 = .ok (.iconst 0, 1) := by decide +kernel
theorem dX11_deepest_5 : decode cX11_deepest 5 = .ok (.istore 4, 2) := by decide +kernel
theorem dX11_deepest_7 : decode cX11_deepest 7 = .ok (.iconst 0, 1) := by decide +kernel
theorem dX11_deepest_8 : decode cX11_deepest 8 = .ok (.istore 5, 2) := by decide +kernel
theorem dX11_deepest_10 : decode cX11_deepest 10 = .ok (.iload 5, 2) := by decide +kernel
theorem dX11_deepest_12 : decode cX11_deepest 12 = .ok (.iload_n 1, 1) := by decide +kernel
theorem dX11_deepest_13 : decode cX11_deepest 13 = .ok (.if_icmp .ge 80, 3) := by decide +kernel
theorem dX11_deepest_16 : decode cX11_deepest 16 = .ok (.aload_n 0, 1) := by decide +kernel
theorem dX11_deepest_17 : decode cX11_deepest 17 = .ok (.getfield 77, 3) := by decide +kernel
theorem dX11_deepest_20 : decode cX11_deepest 20 = .ok (.iload 5, 2) := by decide +kernel
theorem dX11_deepest_22 : decode cX11_deepest 22 = .ok (.iaload, 1) := by decide +kernel
theorem dX11_deepest_23 : decode cX11_deepest 23 = .ok (.iload_n 2, 1) := by decide +kernel
theorem dX11_deepest_24 : decode cX11_deepest 24 = .ok (.if_icmp .ne 10, 3) := by decide +kernel
theorem dX11_deepest_27 : decode cX11_deepest 27 = .ok (.iload_n 2, 1) := by decide +kernel
theorem dX11_deepest_28 : decode cX11_deepest 28 = .ok (.iconst 1, 1) := by decide +kernel
theorem dX11_deepest_29 : decode cX11_deepest 29 = .ok (.iadd, 1) := by decide +kernel
theorem dX11_deepest_30 : decode cX11_deepest 30 = .ok (.istore_n 2, 1) := by decide +kernel
theorem dX11_deepest_31 : decode cX11_deepest 31 = .ok (.goto 20, 3) := by decide +kernel
theorem dX11_deepest_34 : decode cX11_deepest 34 = .ok (.aload_n 0, 1) := by decide +kernel
theorem dX11_deepest_35 : decode cX11_deepest 35 = .ok (.getfield 80, 3) := by decide +kernel
theorem dX11_deepest_38 : decode cX11_deepest 38 = .ok (.iload_n 3, 1) := by decide +kernel
theorem dX11_deepest_39 : decode cX11_deepest 39 = .ok (.aload_n 0, 1) := by decide +kernel
theorem dX11_deepest_40 : decode cX11_deepest 40 = .ok (.getfield 77, 3) := by decide +kernel
theorem dX11_deepest_43 : decode cX11_deepest 43 = .ok (.iload 5, 2) := by decide +kernel
theorem dX11_deepest_45 : decode cX11_deepest 45 = .ok (.iaload, 1) := by decide +kernel
theorem dX11_deepest_46 : decode cX11_deepest 46 = .ok (.iastore, 1) := by decide +kernel
theorem dX11_deepest_47 : decode cX11_deepest 47 = .ok (.iload_n 3, 1) := by decide +kernel
theorem dX11_deepest_48 : decode cX11_deepest 48 = .ok (.iconst 1, 1) := by decide +kernel
theorem dX11_deepest_49 : decode cX11_deepest 49 = .ok (.iadd, 1) := by decide +kernel
theorem dX11_deepest_50 : decode cX11_deepest 50 = .ok (.istore_n 3, 1) := by decide +kernel
theorem dX11_deepest_51 : decode cX11_deepest 51 = .ok (.iload_n 3, 1) := by decide +kernel
theorem dX11_deepest_52 : decode cX11_deepest 52 = .ok (.ifCond .le 26, 3) := by decide +kernel
theorem dX11_deepest_55 : decode cX11_deepest 55 = .ok (.aload_n 0, 1) := by decide +kernel
theorem dX11_deepest_56 : decode cX11_deepest 56 = .ok (.getfield 80, 3) := by decide +kernel
theorem dX11_deepest_59 : decode cX11_deepest 59 = .ok (.iload_n 3, 1) := by decide +kernel
theorem dX11_deepest_60 : decode cX11_deepest 60 = .ok (.iconst 1, 1) := by decide +kernel
theorem dX11_deepest_61 : decode cX11_deepest 61 = .ok (.isub, 1) := by decide +kernel
theorem dX11_deepest_62 : decode cX11_deepest 62 = .ok (.iaload, 1) := by decide +kernel
theorem dX11_deepest_63 : decode cX11_deepest 63 = .ok (.iload_n 2, 1) := by decide +kernel
theorem dX11_deepest_64 : decode cX11_deepest 64 = .ok (.if_icmp .ne 14, 3) := by decide +kernel
theorem dX11_deepest_67 : decode cX11_deepest 67 = .ok (.iload_n 3, 1) := by decide +kernel
theorem dX11_deepest_68 : decode cX11_deepest 68 = .ok (.iconst 1, 1) := by decide +kernel
theorem dX11_deepest_69 : decode cX11_deepest 69 = .ok (.isub, 1) := by decide +kernel
theorem dX11_deepest_70 : decode cX11_deepest 70 = .ok (.istore_n 3, 1) := by decide +kernel
theorem dX11_deepest_71 : decode cX11_deepest 71 = .ok (.iload_n 2, 1) := by decide +kernel
theorem dX11_deepest_72 : decode cX11_deepest 72 = .ok (.iconst 1, 1) := by decide +kernel
theorem dX11_deepest_73 : decode cX11_deepest 73 = .ok (.iadd, 1) := by decide +kernel
theorem dX11_deepest_74 : decode cX11_deepest 74 = .ok (.istore_n 2, 1) := by decide +kernel
theorem dX11_deepest_75 : decode cX11_deepest 75 = .ok (.goto (-24), 3) := by decide +kernel
theorem dX11_deepest_78 : decode cX11_deepest 78 = .ok (.aload_n 0, 1) := by decide +kernel
theorem dX11_deepest_79 : decode cX11_deepest 79 = .ok (.iload 4, 2) := by decide +kernel
theorem dX11_deepest_81 : decode cX11_deepest 81 = .ok (.iload_n 3, 1) := by decide +kernel
theorem dX11_deepest_82 : decode cX11_deepest 82 = .ok (.invokevirtual 398, 3) := by decide +kernel
theorem dX11_deepest_85 : decode cX11_deepest 85 = .ok (.istore 4, 2) := by decide +kernel
theorem dX11_deepest_87 : decode cX11_deepest 87 = .ok (.iinc 5 1, 3) := by decide +kernel
theorem dX11_deepest_90 : decode cX11_deepest 90 = .ok (.goto (-80), 3) := by decide +kernel
theorem dX11_deepest_93 : decode cX11_deepest 93 = .ok (.iload_n 3, 1) := by decide +kernel
theorem dX11_deepest_94 : decode cX11_deepest 94 = .ok (.ifCond .ne 8, 3) := by decide +kernel
theorem dX11_deepest_97 : decode cX11_deepest 97 = .ok (.iload 4, 2) := by decide +kernel
theorem dX11_deepest_99 : decode cX11_deepest 99 = .ok (.goto 4, 3) := by decide +kernel
theorem dX11_deepest_102 : decode cX11_deepest 102 = .ok (.iconst (-1), 1) := by decide +kernel
theorem dX11_deepest_103 : decode cX11_deepest 103 = .ok (.ireturn, 1) := by decide +kernel
theorem dX11_siding_0 : decode cX11_siding 0 = .ok (.aload_n 0, 1) := by decide +kernel
theorem dX11_siding_1 : decode cX11_siding 1 = .ok (.iconst 0, 1) := by decide +kernel
theorem dX11_siding_2 : decode cX11_siding 2 = .ok (.putfield 132, 3) := by decide +kernel
theorem dX11_siding_5 : decode cX11_siding 5 = .ok (.aload_n 0, 1) := by decide +kernel
theorem dX11_siding_6 : decode cX11_siding 6 = .ok (.iload_n 1, 1) := by decide +kernel
theorem dX11_siding_7 : decode cX11_siding 7 = .ok (.invokevirtual 401, 3) := by decide +kernel
theorem dX11_siding_10 : decode cX11_siding 10 = .ok (.istore_n 3, 1) := by decide +kernel
theorem dX11_siding_11 : decode cX11_siding 11 = .ok (.iload_n 3, 1) := by decide +kernel
theorem dX11_siding_12 : decode cX11_siding 12 = .ok (.iconst (-1), 1) := by decide +kernel
theorem dX11_siding_13 : decode cX11_siding 13 = .ok (.if_icmp .eq 13, 3) := by decide +kernel
theorem dX11_siding_16 : decode cX11_siding 16 = .ok (.aload_n 0, 1) := by decide +kernel
theorem dX11_siding_17 : decode cX11_siding 17 = .ok (.iload_n 2, 1) := by decide +kernel
theorem dX11_siding_18 : decode cX11_siding 18 = .ok (.iconst 0, 1) := by decide +kernel
theorem dX11_siding_19 : decode cX11_siding 19 = .ok (.iconst 2, 1) := by decide +kernel
theorem dX11_siding_20 : decode cX11_siding 20 = .ok (.invokevirtual 147, 3) := by decide +kernel
theorem dX11_siding_23 : decode cX11_siding 23 = .ok (.ifCond .ne 5, 3) := by decide +kernel
theorem dX11_siding_26 : decode cX11_siding 26 = .ok (.iconst (-1), 1) := by decide +kernel
theorem dX11_siding_27 : decode cX11_siding 27 = .ok (.ireturn, 1) := by decide +kernel
theorem dX11_siding_28 : decode cX11_siding 28 = .ok (.iload_n 2, 1) := by decide +kernel
theorem dX11_siding_29 : decode cX11_siding 29 = .ok (.ifCond .ne 18, 3) := by decide +kernel
theorem dX11_siding_32 : decode cX11_siding 32 = .ok (.aload_n 0, 1) := by decide +kernel
theorem dX11_siding_33 : decode cX11_siding 33 = .ok (.iload_n 3, 1) := by decide +kernel
theorem dX11_siding_34 : decode cX11_siding 34 = .ok (.invokevirtual 404, 3) := by decide +kernel
theorem dX11_siding_37 : decode cX11_siding 37 = .ok (.iconst (-1), 1) := by decide +kernel
theorem dX11_siding_38 : decode cX11_siding 38 = .ok (.if_icmp .ne 7, 3) := by decide +kernel
theorem dX11_siding_41 : decode cX11_siding 41 = .ok (.iconst 0, 1) := by decide +kernel
theorem dX11_siding_42 : decode cX11_siding 42 = .ok (.goto 4, 3) := by decide +kernel
theorem dX11_siding_45 : decode cX11_siding 45 = .ok (.iconst 1, 1) := by decide +kernel
theorem dX11_siding_46 : decode cX11_siding 46 = .ok (.ireturn, 1) := by decide +kernel
theorem dX11_siding_47 : decode cX11_siding 47 = .ok (.iload_n 2, 1) := by decide +kernel
theorem dX11_siding_48 : decode cX11_siding 48 = .ok (.iconst 1, 1) := by decide +kernel
theorem dX11_siding_49 : decode cX11_siding 49 = .ok (.if_icmp .ne 9, 3) := by decide +kernel
theorem dX11_siding_52 : decode cX11_siding 52 = .ok (.aload_n 0, 1) := by decide +kernel
theorem dX11_siding_53 : decode cX11_siding 53 = .ok (.iload_n 3, 1) := by decide +kernel
theorem dX11_siding_54 : decode cX11_siding 54 = .ok (.invokevirtual 404, 3) := by decide +kernel
theorem dX11_siding_57 : decode cX11_siding 57 = .ok (.ireturn, 1) := by decide +kernel
theorem dX11_siding_58 : decode cX11_siding 58 = .ok (.iconst 0, 1) := by decide +kernel
theorem dX11_siding_59 : decode cX11_siding 59 = .ok (.istore 4, 2) := by decide +kernel
theorem dX11_siding_61 : decode cX11_siding 61 = .ok (.iload 4, 2) := by decide +kernel
theorem dX11_siding_63 : decode cX11_siding 63 = .ok (.iload_n 3, 1) := by decide +kernel
theorem dX11_siding_64 : decode cX11_siding 64 = .ok (.if_icmp .gt 77, 3) := by decide +kernel
theorem dX11_siding_67 : decode cX11_siding 67 = .ok (.aload_n 0, 1) := by decide +kernel
theorem dX11_siding_68 : decode cX11_siding 68 = .ok (.getfield 83, 3) := by decide +kernel
theorem dX11_siding_71 : decode cX11_siding 71 = .ok (.iload 4, 2) := by decide +kernel
theorem dX11_siding_73 : decode cX11_siding 73 = .ok (.iload 4, 2) := by decide +kernel
theorem dX11_siding_75 : decode cX11_siding 75 = .ok (.ifCond .ne 7, 3) := by decide +kernel
theorem dX11_siding_78 : decode cX11_siding 78 = .ok (.iconst 1, 1) := by decide +kernel
theorem dX11_siding_79 : decode cX11_siding 79 = .ok (.goto 4, 3) := by decide +kernel
theorem dX11_siding_82 : decode cX11_siding 82 = .ok (.iconst 0, 1) := by decide +kernel
theorem dX11_siding_83 : decode cX11_siding 83 = .ok (.iastore, 1) := by decide +kernel
theorem dX11_siding_84 : decode cX11_siding 84 = .ok (.iconst 0, 1) := by decide +kernel
theorem dX11_siding_85 : decode cX11_siding 85 = .ok (.istore 5, 2) := by decide +kernel
theorem dX11_siding_87 : decode cX11_siding 87 = .ok (.iload 5, 2) := by decide +kernel
theorem dX11_siding_89 : decode cX11_siding 89 = .ok (.iload 4, 2) := by decide +kernel
theorem dX11_siding_91 : decode cX11_siding 91 = .ok (.if_icmp .ge 44, 3) := by decide +kernel
theorem dX11_siding_94 : decode cX11_siding 94 = .ok (.aload_n 0, 1) := by decide +kernel
theorem dX11_siding_95 : decode cX11_siding 95 = .ok (.getfield 83, 3) := by decide +kernel
theorem dX11_siding_98 : decode cX11_siding 98 = .ok (.iload 4, 2) := by decide +kernel
theorem dX11_siding_100 : decode cX11_siding 100 = .ok (.aload_n 0, 1) := by decide +kernel
theorem dX11_siding_101 : decode cX11_siding 101 = .ok (.getfield 83, 3) := by decide +kernel
theorem dX11_siding_104 : decode cX11_siding 104 = .ok (.iload 4, 2) := by decide +kernel
theorem dX11_siding_106 : decode cX11_siding 106 = .ok (.iaload, 1) := by decide +kernel
theorem dX11_siding_107 : decode cX11_siding 107 = .ok (.aload_n 0, 1) := by decide +kernel
theorem dX11_siding_108 : decode cX11_siding 108 = .ok (.getfield 83, 3) := by decide +kernel
theorem dX11_siding_111 : decode cX11_siding 111 = .ok (.iload 5, 2) := by decide +kernel
theorem dX11_siding_113 : decode cX11_siding 113 = .ok (.iaload, 1) := by decide +kernel
theorem dX11_siding_114 : decode cX11_siding 114 = .ok (.aload_n 0, 1) := by decide +kernel
theorem dX11_siding_115 : decode cX11_siding 115 = .ok (.getfield 83, 3) := by decide +kernel
theorem dX11_siding_118 : decode cX11_siding 118 = .ok (.iload 4, 2) := by decide +kernel
theorem dX11_siding_120 : decode cX11_siding 120 = .ok (.iconst 1, 1) := by decide +kernel
theorem dX11_siding_121 : decode cX11_siding 121 = .ok (.isub, 1) := by decide +kernel
theorem dX11_siding_122 : decode cX11_siding 122 = .ok (.iload 5, 2) := by decide +kernel
theorem dX11_siding_124 : decode cX11_siding 124 = .ok (.isub, 1) := by decide +kernel
theorem dX11_siding_125 : decode cX11_siding 125 = .ok (.iaload, 1) := by decide +kernel
theorem dX11_siding_126 : decode cX11_siding 126 = .ok (.imul, 1) := by decide +kernel
theorem dX11_siding_127 : decode cX11_siding 127 = .ok (.iadd, 1) := by decide +kernel
theorem dX11_siding_128 : decode cX11_siding 128 = .ok (.iastore, 1) := by decide +kernel
theorem dX11_siding_129 : decode cX11_siding 129 = .ok (.iinc 5 1, 3) := by decide +kernel
theorem dX11_siding_132 : decode cX11_siding 132 = .ok (.goto (-45), 3) := by decide +kernel
theorem dX11_siding_135 : decode cX11_siding 135 = .ok (.iinc 4 1, 3) := by decide +kernel
theorem dX11_siding_138 : decode cX11_siding 138 = .ok (.goto (-77), 3) := by decide +kernel
theorem dX11_siding_141 : decode cX11_siding 141 = .ok (.aload_n 0, 1) := by decide +kernel
theorem dX11_siding_142 : decode cX11_siding 142 = .ok (.getfield 83, 3) := by decide +kernel
theorem dX11_siding_145 : decode cX11_siding 145 = .ok (.iload_n 3, 1) := by decide +kernel
theorem dX11_siding_146 : decode cX11_siding 146 = .ok (.iaload, 1) := by decide +kernel
theorem dX11_siding_147 : decode cX11_siding 147 = .ok (.ireturn, 1) := by decide +kernel
theorem dX11_bought_0 : decode cX11_bought 0 = .ok (.aload_n 0, 1) := by decide +kernel
theorem dX11_bought_1 : decode cX11_bought 1 = .ok (.iconst 0, 1) := by decide +kernel
theorem dX11_bought_2 : decode cX11_bought 2 = .ok (.putfield 132, 3) := by decide +kernel
theorem dX11_bought_5 : decode cX11_bought 5 = .ok (.iload_n 1, 1) := by decide +kernel
theorem dX11_bought_6 : decode cX11_bought 6 = .ok (.iconst (-1), 1) := by decide +kernel
theorem dX11_bought_7 : decode cX11_bought 7 = .ok (.if_icmp .ne 45, 3) := by decide +kernel
theorem dX11_bought_10 : decode cX11_bought 10 = .ok (.aload_n 0, 1) := by decide +kernel
theorem dX11_bought_11 : decode cX11_bought 11 = .ok (.iconst 0, 1) := by decide +kernel
theorem dX11_bought_12 : decode cX11_bought 12 = .ok (.putfield 407, 3) := by decide +kernel
theorem dX11_bought_15 : decode cX11_bought 15 = .ok (.iconst 0, 1) := by decide +kernel
theorem dX11_bought_16 : decode cX11_bought 16 = .ok (.istore_n 3, 1) := by decide +kernel
theorem dX11_bought_17 : decode cX11_bought 17 = .ok (.iload_n 3, 1) := by decide +kernel
theorem dX11_bought_18 : decode cX11_bought 18 = .ok (.bipush 9, 2) := by decide +kernel
theorem dX11_bought_20 : decode cX11_bought 20 = .ok (.if_icmp .ge 30, 3) := by decide +kernel
theorem dX11_bought_23 : decode cX11_bought 23 = .ok (.aload_n 0, 1) := by decide +kernel
theorem dX11_bought_24 : decode cX11_bought 24 = .ok (.getfield 86, 3) := by decide +kernel
theorem dX11_bought_27 : decode cX11_bought 27 = .ok (.iload_n 3, 1) := by decide +kernel
theorem dX11_bought_28 : decode cX11_bought 28 = .ok (.iconst 0, 1) := by decide +kernel
theorem dX11_bought_29 : decode cX11_bought 29 = .ok (.iastore, 1) := by decide +kernel
theorem dX11_bought_30 : decode cX11_bought 30 = .ok (.aload_n 0, 1) := by decide +kernel
theorem dX11_bought_31 : decode cX11_bought 31 = .ok (.getfield 89, 3) := by decide +kernel
theorem dX11_bought_34 : decode cX11_bought 34 = .ok (.iload_n 3, 1) := by decide +kernel
theorem dX11_bought_35 : decode cX11_bought 35 = .ok (.iconst 0, 1) := by decide +kernel
theorem dX11_bought_36 : decode cX11_bought 36 = .ok (.iastore, 1) := by decide +kernel
theorem dX11_bought_37 : decode cX11_bought 37 = .ok (.aload_n 0, 1) := by decide +kernel
theorem dX11_bought_38 : decode cX11_bought 38 = .ok (.getfield 92, 3) := by decide +kernel
theorem dX11_bought_41 : decode cX11_bought 41 = .ok (.iload_n 3, 1) := by decide +kernel
theorem dX11_bought_42 : decode cX11_bought 42 = .ok (.iconst 0, 1) := by decide +kernel
theorem dX11_bought_43 : decode cX11_bought 43 = .ok (.iastore, 1) := by decide +kernel
theorem dX11_bought_44 : decode cX11_bought 44 = .ok (.iinc 3 1, 3) := by decide +kernel
theorem dX11_bought_47 : decode cX11_bought 47 = .ok (.goto (-30), 3) := by decide +kernel
theorem dX11_bought_50 : decode cX11_bought 50 = .ok (.iconst 0, 1) := by decide +kernel
theorem dX11_bought_51 : decode cX11_bought 51 = .ok (.ireturn, 1) := by decide +kernel
theorem dX11_bought_52 : decode cX11_bought 52 = .ok (.aload_n 0, 1) := by decide +kernel
theorem dX11_bought_53 : decode cX11_bought 53 = .ok (.iload_n 1, 1) := by decide +kernel
theorem dX11_bought_54 : decode cX11_bought 54 = .ok (.iconst 0, 1) := by decide +kernel
theorem dX11_bought_55 : decode cX11_bought 55 = .ok (.bipush 8, 2) := by decide +kernel
theorem dX11_bought_57 : decode cX11_bought 57 = .ok (.invokevirtual 147, 3) := by decide +kernel
theorem dX11_bought_60 : decode cX11_bought 60 = .ok (.ifCond .eq 28, 3) := by decide +kernel
theorem dX11_bought_63 : decode cX11_bought 63 = .ok (.aload_n 0, 1) := by decide +kernel
theorem dX11_bought_64 : decode cX11_bought 64 = .ok (.iload_n 2, 1) := by decide +kernel
theorem dX11_bought_65 : decode cX11_bought 65 = .ok (.iconst 0, 1) := by decide +kernel
theorem dX11_bought_66 : decode cX11_bought 66 = .ok (.bipush 8, 2) := by decide +kernel
theorem dX11_bought_68 : decode cX11_bought 68 = .ok (.invokevirtual 147, 3) := by decide +kernel
theorem dX11_bought_71 : decode cX11_bought 71 = .ok (.ifCond .eq 17, 3) := by decide +kernel
theorem dX11_bought_74 : decode cX11_bought 74 = .ok (.iload_n 1, 1) := by decide +kernel
theorem dX11_bought_75 : decode cX11_bought 75 = .ok (.iload_n 2, 1) := by decide +kernel
theorem dX11_bought_76 : decode cX11_bought 76 = .ok (.if_icmp .eq 12, 3) := by decide +kernel
theorem dX11_bought_79 : decode cX11_bought 79 = .ok (.aload_n 0, 1) := by decide +kernel
theorem dX11_bought_80 : decode cX11_bought 80 = .ok (.getfield 407, 3) := by decide +kernel
theorem dX11_bought_83 : decode cX11_bought 83 = .ok (.bipush 6, 2) := by decide +kernel
theorem dX11_bought_85 : decode cX11_bought 85 = .ok (.if_icmp .ne 5, 3) := by decide +kernel
theorem dX11_bought_88 : decode cX11_bought 88 = .ok (.iconst (-1), 1) := by decide +kernel
theorem dX11_bought_89 : decode cX11_bought 89 = .ok (.ireturn, 1) := by decide +kernel
theorem dX11_bought_90 : decode cX11_bought 90 = .ok (.aload_n 0, 1) := by decide +kernel
theorem dX11_bought_91 : decode cX11_bought 91 = .ok (.getfield 86, 3) := by decide +kernel
theorem dX11_bought_94 : decode cX11_bought 94 = .ok (.iload_n 1, 1) := by decide +kernel
theorem dX11_bought_95 : decode cX11_bought 95 = .ok (.aload_n 0, 1) := by decide +kernel
theorem dX11_bought_96 : decode cX11_bought 96 = .ok (.getfield 86, 3) := by decide +kernel
theorem dX11_bought_99 : decode cX11_bought 99 = .ok (.iload_n 1, 1) := by decide +kernel
theorem dX11_bought_100 : decode cX11_bought 100 = .ok (.iaload, 1) := by decide +kernel
theorem dX11_bought_101 : decode cX11_bought 101 = .ok (.iconst 1, 1) := by decide +kernel
theorem dX11_bought_102 : decode cX11_bought 102 = .ok (.iload_n 2, 1) := by decide +kernel
theorem dX11_bought_103 : decode cX11_bought 103 = .ok (.ishl, 1) := by decide +kernel
theorem dX11_bought_104 : decode cX11_bought 104 = .ok (.ior, 1) := by decide +kernel
theorem dX11_bought_105 : decode cX11_bought 105 = .ok (.iastore, 1) := by decide +kernel
theorem dX11_bought_106 : decode cX11_bought 106 = .ok (.aload_n 0, 1) := by decide +kernel
theorem dX11_bought_107 : decode cX11_bought 107 = .ok (.getfield 86, 3) := by decide +kernel
theorem dX11_bought_110 : decode cX11_bought 110 = .ok (.iload_n 2, 1) := by decide +kernel
theorem dX11_bought_111 : decode cX11_bought 111 = .ok (.aload_n 0, 1) := by decide +kernel
theorem dX11_bought_112 : decode cX11_bought 112 = .ok (.getfield 86, 3) := by decide +kernel
theorem dX11_bought_115 : decode cX11_bought 115 = .ok (.iload_n 2, 1) := by decide +kernel
theorem dX11_bought_116 : decode cX11_bought 116 = .ok (.iaload, 1) := by decide +kernel
theorem dX11_bought_117 : decode cX11_bought 117 = .ok (.iconst 1, 1) := by decide +kernel
theorem dX11_bought_118 : decode cX11_bought 118 = .ok (.iload_n 1, 1) := by decide +kernel
theorem dX11_bought_119 : decode cX11_bought 119 = .ok (.ishl, 1) := by decide +kernel
theorem dX11_bought_120 : decode cX11_bought 120 = .ok (.ior, 1) := by decide +kernel
theorem dX11_bought_121 : decode cX11_bought 121 = .ok (.iastore, 1) := by decide +kernel
theorem dX11_bought_122 : decode cX11_bought 122 = .ok (.aload_n 0, 1) := by decide +kernel
theorem dX11_bought_123 : decode cX11_bought 123 = .ok (.getfield 89, 3) := by decide +kernel
theorem dX11_bought_126 : decode cX11_bought 126 = .ok (.iload_n 1, 1) := by decide +kernel
theorem dX11_bought_127 : decode cX11_bought 127 = .ok (.aload_n 0, 1) := by decide +kernel
theorem dX11_bought_128 : decode cX11_bought 128 = .ok (.getfield 89, 3) := by decide +kernel
theorem dX11_bought_131 : decode cX11_bought 131 = .ok (.iload_n 1, 1) := by decide +kernel
theorem dX11_bought_132 : decode cX11_bought 132 = .ok (.iaload, 1) := by decide +kernel
theorem dX11_bought_133 : decode cX11_bought 133 = .ok (.iconst 1, 1) := by decide +kernel
theorem dX11_bought_134 : decode cX11_bought 134 = .ok (.iload_n 2, 1) := by decide +kernel
theorem dX11_bought_135 : decode cX11_bought 135 = .ok (.ishl, 1) := by decide +kernel
theorem dX11_bought_136 : decode cX11_bought 136 = .ok (.ior, 1) := by decide +kernel
theorem dX11_bought_137 : decode cX11_bought 137 = .ok (.iastore, 1) := by decide +kernel
theorem dX11_bought_138 : decode cX11_bought 138 = .ok (.aload_n 0, 1) := by decide +kernel
theorem dX11_bought_139 : decode cX11_bought 139 = .ok (.getfield 92, 3) := by decide +kernel
theorem dX11_bought_142 : decode cX11_bought 142 = .ok (.iload_n 2, 1) := by decide +kernel
theorem dX11_bought_143 : decode cX11_bought 143 = .ok (.aload_n 0, 1) := by decide +kernel
theorem dX11_bought_144 : decode cX11_bought 144 = .ok (.getfield 92, 3) := by decide +kernel
theorem dX11_bought_147 : decode cX11_bought 147 = .ok (.iload_n 2, 1) := by decide +kernel
theorem dX11_bought_148 : decode cX11_bought 148 = .ok (.iaload, 1) := by decide +kernel
theorem dX11_bought_149 : decode cX11_bought 149 = .ok (.iconst 1, 1) := by decide +kernel
theorem dX11_bought_150 : decode cX11_bought 150 = .ok (.iload_n 1, 1) := by decide +kernel
theorem dX11_bought_151 : decode cX11_bought 151 = .ok (.ishl, 1) := by decide +kernel
theorem dX11_bought_152 : decode cX11_bought 152 = .ok (.ior, 1) := by decide +kernel
theorem dX11_bought_153 : decode cX11_bought 153 = .ok (.iastore, 1) := by decide +kernel
theorem dX11_bought_154 : decode cX11_bought 154 = .ok (.aload_n 0, 1) := by decide +kernel
theorem dX11_bought_155 : decode cX11_bought 155 = .ok (.aload_n 0, 1) := by decide +kernel
theorem dX11_bought_156 : decode cX11_bought 156 = .ok (.getfield 407, 3) := by decide +kernel
theorem dX11_bought_159 : decode cX11_bought 159 = .ok (.iconst 1, 1) := by decide +kernel
theorem dX11_bought_160 : decode cX11_bought 160 = .ok (.iadd, 1) := by decide +kernel
theorem dX11_bought_161 : decode cX11_bought 161 = .ok (.putfield 407, 3) := by decide +kernel
theorem dX11_bought_164 : decode cX11_bought 164 = .ok (.aload_n 0, 1) := by decide +kernel
theorem dX11_bought_165 : decode cX11_bought 165 = .ok (.getfield 407, 3) := by decide +kernel
theorem dX11_bought_168 : decode cX11_bought 168 = .ok (.ireturn, 1) := by decide +kernel
theorem dX11_canStand_0 : decode cX11_canStand 0 = .ok (.iload_n 2, 1) := by decide +kernel
theorem dX11_canStand_1 : decode cX11_canStand 1 = .ok (.iconst 1, 1) := by decide +kernel
theorem dX11_canStand_2 : decode cX11_canStand 2 = .ok (.iload_n 3, 1) := by decide +kernel
theorem dX11_canStand_3 : decode cX11_canStand 3 = .ok (.ishl, 1) := by decide +kernel
theorem dX11_canStand_4 : decode cX11_canStand 4 = .ok (.iconst (-1), 1) := by decide +kernel
theorem dX11_canStand_5 : decode cX11_canStand 5 = .ok (.ixor, 1) := by decide +kernel
theorem dX11_canStand_6 : decode cX11_canStand 6 = .ok (.iand, 1) := by decide +kernel
theorem dX11_canStand_7 : decode cX11_canStand 7 = .ok (.istore 6, 2) := by decide +kernel
theorem dX11_canStand_9 : decode cX11_canStand 9 = .ok (.iload 5, 2) := by decide +kernel
theorem dX11_canStand_11 : decode cX11_canStand 11 = .ok (.ifCond .ne 21, 3) := by decide +kernel
theorem dX11_canStand_14 : decode cX11_canStand 14 = .ok (.aload_n 0, 1) := by decide +kernel
theorem dX11_canStand_15 : decode cX11_canStand 15 = .ok (.getfield 86, 3) := by decide +kernel
theorem dX11_canStand_18 : decode cX11_canStand 18 = .ok (.iload_n 1, 1) := by decide +kernel
theorem dX11_canStand_19 : decode cX11_canStand 19 = .ok (.iaload, 1) := by decide +kernel
theorem dX11_canStand_20 : decode cX11_canStand 20 = .ok (.iload 6, 2) := by decide +kernel
theorem dX11_canStand_22 : decode cX11_canStand 22 = .ok (.iand, 1) := by decide +kernel
theorem dX11_canStand_23 : decode cX11_canStand 23 = .ok (.ifCond .ne 7, 3) := by decide +kernel
theorem dX11_canStand_26 : decode cX11_canStand 26 = .ok (.iconst 1, 1) := by decide +kernel
theorem dX11_canStand_27 : decode cX11_canStand 27 = .ok (.goto 4, 3) := by decide +kernel
theorem dX11_canStand_30 : decode cX11_canStand 30 = .ok (.iconst 0, 1) := by decide +kernel
theorem dX11_canStand_31 : decode cX11_canStand 31 = .ok (.ireturn, 1) := by decide +kernel
theorem dX11_canStand_32 : decode cX11_canStand 32 = .ok (.aload_n 0, 1) := by decide +kernel
theorem dX11_canStand_33 : decode cX11_canStand 33 = .ok (.getfield 89, 3) := by decide +kernel
theorem dX11_canStand_36 : decode cX11_canStand 36 = .ok (.iload_n 1, 1) := by decide +kernel
theorem dX11_canStand_37 : decode cX11_canStand 37 = .ok (.iaload, 1) := by decide +kernel
theorem dX11_canStand_38 : decode cX11_canStand 38 = .ok (.iload 4, 2) := by decide +kernel
theorem dX11_canStand_40 : decode cX11_canStand 40 = .ok (.iand, 1) := by decide +kernel
theorem dX11_canStand_41 : decode cX11_canStand 41 = .ok (.iconst 1, 1) := by decide +kernel
theorem dX11_canStand_42 : decode cX11_canStand 42 = .ok (.iload_n 3, 1) := by decide +kernel
theorem dX11_canStand_43 : decode cX11_canStand 43 = .ok (.ishl, 1) := by decide +kernel
theorem dX11_canStand_44 : decode cX11_canStand 44 = .ok (.iconst (-1), 1) := by decide +kernel
theorem dX11_canStand_45 : decode cX11_canStand 45 = .ok (.ixor, 1) := by decide +kernel
theorem dX11_canStand_46 : decode cX11_canStand 46 = .ok (.iand, 1) := by decide +kernel
theorem dX11_canStand_47 : decode cX11_canStand 47 = .ok (.ifCond .ne 18, 3) := by decide +kernel
theorem dX11_canStand_50 : decode cX11_canStand 50 = .ok (.aload_n 0, 1) := by decide +kernel
theorem dX11_canStand_51 : decode cX11_canStand 51 = .ok (.getfield 92, 3) := by decide +kernel
theorem dX11_canStand_54 : decode cX11_canStand 54 = .ok (.iload_n 1, 1) := by decide +kernel
theorem dX11_canStand_55 : decode cX11_canStand 55 = .ok (.iaload, 1) := by decide +kernel
theorem dX11_canStand_56 : decode cX11_canStand 56 = .ok (.iload_n 2, 1) := by decide +kernel
theorem dX11_canStand_57 : decode cX11_canStand 57 = .ok (.iand, 1) := by decide +kernel
theorem dX11_canStand_58 : decode cX11_canStand 58 = .ok (.ifCond .ne 7, 3) := by decide +kernel
theorem dX11_canStand_61 : decode cX11_canStand 61 = .ok (.iconst 1, 1) := by decide +kernel
theorem dX11_canStand_62 : decode cX11_canStand 62 = .ok (.goto 4, 3) := by decide +kernel
theorem dX11_canStand_65 : decode cX11_canStand 65 = .ok (.iconst 0, 1) := by decide +kernel
theorem dX11_canStand_66 : decode cX11_canStand 66 = .ok (.ireturn, 1) := by decide +kernel
theorem dX11_rows_0 : decode cX11_rows 0 = .ok (.aload_n 0, 1) := by decide +kernel
theorem dX11_rows_1 : decode cX11_rows 1 = .ok (.iconst 0, 1) := by decide +kernel
theorem dX11_rows_2 : decode cX11_rows 2 = .ok (.putfield 132, 3) := by decide +kernel
theorem dX11_rows_5 : decode cX11_rows 5 = .ok (.aload_n 0, 1) := by decide +kernel
theorem dX11_rows_6 : decode cX11_rows 6 = .ok (.iload_n 1, 1) := by decide +kernel
theorem dX11_rows_7 : decode cX11_rows 7 = .ok (.iconst 2, 1) := by decide +kernel
theorem dX11_rows_8 : decode cX11_rows 8 = .ok (.bipush 9, 2) := by decide +kernel
theorem dX11_rows_10 : decode cX11_rows 10 = .ok (.invokevirtual 147, 3) := by decide +kernel
theorem dX11_rows_13 : decode cX11_rows 13 = .ok (.ifCond .eq 13, 3) := by decide +kernel
theorem dX11_rows_16 : decode cX11_rows 16 = .ok (.aload_n 0, 1) := by decide +kernel
theorem dX11_rows_17 : decode cX11_rows 17 = .ok (.iload_n 2, 1) := by decide +kernel
theorem dX11_rows_18 : decode cX11_rows 18 = .ok (.iconst 0, 1) := by decide +kernel
theorem dX11_rows_19 : decode cX11_rows 19 = .ok (.iconst 1, 1) := by decide +kernel
theorem dX11_rows_20 : decode cX11_rows 20 = .ok (.invokevirtual 147, 3) := by decide +kernel
theorem dX11_rows_23 : decode cX11_rows 23 = .ok (.ifCond .ne 5, 3) := by decide +kernel
theorem dX11_rows_26 : decode cX11_rows 26 = .ok (.iconst (-1), 1) := by decide +kernel
theorem dX11_rows_27 : decode cX11_rows 27 = .ok (.ireturn, 1) := by decide +kernel
theorem dX11_rows_28 : decode cX11_rows 28 = .ok (.iconst 1, 1) := by decide +kernel
theorem dX11_rows_29 : decode cX11_rows 29 = .ok (.iload_n 1, 1) := by decide +kernel
theorem dX11_rows_30 : decode cX11_rows 30 = .ok (.ishl, 1) := by decide +kernel
theorem dX11_rows_31 : decode cX11_rows 31 = .ok (.iconst 1, 1) := by decide +kernel
theorem dX11_rows_32 : decode cX11_rows 32 = .ok (.isub, 1) := by decide +kernel
theorem dX11_rows_33 : decode cX11_rows 33 = .ok (.istore_n 3, 1) := by decide +kernel
theorem dX11_rows_34 : decode cX11_rows 34 = .ok (.iconst 0, 1) := by decide +kernel
theorem dX11_rows_35 : decode cX11_rows 35 = .ok (.istore 4, 2) := by decide +kernel
theorem dX11_rows_37 : decode cX11_rows 37 = .ok (.iload 4, 2) := by decide +kernel
theorem dX11_rows_39 : decode cX11_rows 39 = .ok (.bipush 9, 2) := by decide +kernel
theorem dX11_rows_41 : decode cX11_rows 41 = .ok (.iload_n 1, 1) := by decide +kernel
theorem dX11_rows_42 : decode cX11_rows 42 = .ok (.ishl, 1) := by decide +kernel
theorem dX11_rows_43 : decode cX11_rows 43 = .ok (.if_icmp .ge 17, 3) := by decide +kernel
theorem dX11_rows_46 : decode cX11_rows 46 = .ok (.aload_n 0, 1) := by decide +kernel
theorem dX11_rows_47 : decode cX11_rows 47 = .ok (.getfield 95, 3) := by decide +kernel
theorem dX11_rows_50 : decode cX11_rows 50 = .ok (.iload 4, 2) := by decide +kernel
theorem dX11_rows_52 : decode cX11_rows 52 = .ok (.iconst 0, 1) := by decide +kernel
theorem dX11_rows_53 : decode cX11_rows 53 = .ok (.iastore, 1) := by decide +kernel
theorem dX11_rows_54 : decode cX11_rows 54 = .ok (.iinc 4 1, 3) := by decide +kernel
theorem dX11_rows_57 : decode cX11_rows 57 = .ok (.goto (-20), 3) := by decide +kernel
theorem dX11_rows_60 : decode cX11_rows 60 = .ok (.iconst 0, 1) := by decide +kernel
theorem dX11_rows_61 : decode cX11_rows 61 = .ok (.istore 4, 2) := by decide +kernel
theorem dX11_rows_63 : decode cX11_rows 63 = .ok (.iload 4, 2) := by decide +kernel
theorem dX11_rows_65 : decode cX11_rows 65 = .ok (.iload_n 1, 1) := by decide +kernel
theorem dX11_rows_66 : decode cX11_rows 66 = .ok (.if_icmp .ge 41, 3) := by decide +kernel
theorem dX11_rows_69 : decode cX11_rows 69 = .ok (.iload_n 2, 1) := by decide +kernel
theorem dX11_rows_70 : decode cX11_rows 70 = .ok (.ifCond .eq 15, 3) := by decide +kernel
theorem dX11_rows_73 : decode cX11_rows 73 = .ok (.aload_n 0, 1) := by decide +kernel
theorem dX11_rows_74 : decode cX11_rows 74 = .ok (.getfield 89, 3) := by decide +kernel
theorem dX11_rows_77 : decode cX11_rows 77 = .ok (.iload 4, 2) := by decide +kernel
theorem dX11_rows_79 : decode cX11_rows 79 = .ok (.iaload, 1) := by decide +kernel
theorem dX11_rows_80 : decode cX11_rows 80 = .ok (.iload_n 3, 1) := by decide +kernel
theorem dX11_rows_81 : decode cX11_rows 81 = .ok (.iand, 1) := by decide +kernel
theorem dX11_rows_82 : decode cX11_rows 82 = .ok (.ifCond .ne 19, 3) := by decide +kernel
theorem dX11_rows_85 : decode cX11_rows 85 = .ok (.aload_n 0, 1) := by decide +kernel
theorem dX11_rows_86 : decode cX11_rows 86 = .ok (.getfield 95, 3) := by decide +kernel
theorem dX11_rows_89 : decode cX11_rows 89 = .ok (.bipush 9, 2) := by decide +kernel
theorem dX11_rows_91 : decode cX11_rows 91 = .ok (.iconst 1, 1) := by decide +kernel
theorem dX11_rows_92 : decode cX11_rows 92 = .ok (.iload 4, 2) := by decide +kernel
theorem dX11_rows_94 : decode cX11_rows 94 = .ok (.ishl, 1) := by decide +kernel
theorem dX11_rows_95 : decode cX11_rows 95 = .ok (.imul, 1) := by decide +kernel
theorem dX11_rows_96 : decode cX11_rows 96 = .ok (.iload 4, 2) := by decide +kernel
theorem dX11_rows_98 : decode cX11_rows 98 = .ok (.iadd, 1) := by decide +kernel
theorem dX11_rows_99 : decode cX11_rows 99 = .ok (.iconst 1, 1) := by decide +kernel
theorem dX11_rows_100 : decode cX11_rows 100 = .ok (.iastore, 1) := by decide +kernel
theorem dX11_rows_101 : decode cX11_rows 101 = .ok (.iinc 4 1, 3) := by decide +kernel
theorem dX11_rows_104 : decode cX11_rows 104 = .ok (.goto (-41), 3) := by decide +kernel
theorem dX11_rows_107 : decode cX11_rows 107 = .ok (.iconst 1, 1) := by decide +kernel
theorem dX11_rows_108 : decode cX11_rows 108 = .ok (.istore 4, 2) := by decide +kernel
theorem dX11_rows_110 : decode cX11_rows 110 = .ok (.iload 4, 2) := by decide +kernel
theorem dX11_rows_112 : decode cX11_rows 112 = .ok (.iload_n 3, 1) := by decide +kernel
theorem dX11_rows_113 : decode cX11_rows 113 = .ok (.if_icmp .ge 124, 3) := by decide +kernel
theorem dX11_rows_116 : decode cX11_rows 116 = .ok (.iconst 0, 1) := by decide +kernel
theorem dX11_rows_117 : decode cX11_rows 117 = .ok (.istore 5, 2) := by decide +kernel
theorem dX11_rows_119 : decode cX11_rows 119 = .ok (.iload 5, 2) := by decide +kernel
theorem dX11_rows_121 : decode cX11_rows 121 = .ok (.iload_n 1, 1) := by decide +kernel
theorem dX11_rows_122 : decode cX11_rows 122 = .ok (.if_icmp .ge 109, 3) := by decide +kernel
theorem dX11_rows_125 : decode cX11_rows 125 = .ok (.aload_n 0, 1) := by decide +kernel
theorem dX11_rows_126 : decode cX11_rows 126 = .ok (.getfield 95, 3) := by decide +kernel
theorem dX11_rows_129 : decode cX11_rows 129 = .ok (.bipush 9, 2) := by decide +kernel
theorem dX11_rows_131 : decode cX11_rows 131 = .ok (.iload 4, 2) := by decide +kernel
theorem dX11_rows_133 : decode cX11_rows 133 = .ok (.imul, 1) := by decide +kernel
theorem dX11_rows_134 : decode cX11_rows 134 = .ok (.iload 5, 2) := by decide +kernel
theorem dX11_rows_136 : decode cX11_rows 136 = .ok (.iadd, 1) := by decide +kernel
theorem dX11_rows_137 : decode cX11_rows 137 = .ok (.iaload, 1) := by decide +kernel
theorem dX11_rows_138 : decode cX11_rows 138 = .ok (.istore 6, 2) := by decide +kernel
theorem dX11_rows_140 : decode cX11_rows 140 = .ok (.iconst 0, 1) := by decide +kernel
theorem dX11_rows_141 : decode cX11_rows 141 = .ok (.istore 7, 2) := by decide +kernel
theorem dX11_rows_143 : decode cX11_rows 143 = .ok (.iload 7, 2) := by decide +kernel
theorem dX11_rows_145 : decode cX11_rows 145 = .ok (.iload_n 1, 1) := by decide +kernel
theorem dX11_rows_146 : decode cX11_rows 146 = .ok (.if_icmp .ge 79, 3) := by decide +kernel
theorem dX11_rows_149 : decode cX11_rows 149 = .ok (.iload 6, 2) := by decide +kernel
theorem dX11_rows_151 : decode cX11_rows 151 = .ok (.ifCond .le 74, 3) := by decide +kernel
theorem dX11_rows_154 : decode cX11_rows 154 = .ok (.aload_n 0, 1) := by decide +kernel
theorem dX11_rows_155 : decode cX11_rows 155 = .ok (.iload 4, 2) := by decide +kernel
theorem dX11_rows_157 : decode cX11_rows 157 = .ok (.iload 7, 2) := by decide +kernel
theorem dX11_rows_159 : decode cX11_rows 159 = .ok (.invokevirtual 328, 3) := by decide +kernel
theorem dX11_rows_162 : decode cX11_rows 162 = .ok (.ifCond .ne 57, 3) := by decide +kernel
theorem dX11_rows_165 : decode cX11_rows 165 = .ok (.aload_n 0, 1) := by decide +kernel
theorem dX11_rows_166 : decode cX11_rows 166 = .ok (.iload 7, 2) := by decide +kernel
theorem dX11_rows_168 : decode cX11_rows 168 = .ok (.iload 4, 2) := by decide +kernel
theorem dX11_rows_170 : decode cX11_rows 170 = .ok (.iload 5, 2) := by decide +kernel
theorem dX11_rows_172 : decode cX11_rows 172 = .ok (.iload_n 3, 1) := by decide +kernel
theorem dX11_rows_173 : decode cX11_rows 173 = .ok (.iload_n 2, 1) := by decide +kernel
theorem dX11_rows_174 : decode cX11_rows 174 = .ok (.invokevirtual 410, 3) := by decide +kernel
theorem dX11_rows_177 : decode cX11_rows 177 = .ok (.ifCond .eq 42, 3) := by decide +kernel
theorem dX11_rows_180 : decode cX11_rows 180 = .ok (.aload_n 0, 1) := by decide +kernel
theorem dX11_rows_181 : decode cX11_rows 181 = .ok (.getfield 95, 3) := by decide +kernel
theorem dX11_rows_184 : decode cX11_rows 184 = .ok (.bipush 9, 2) := by decide +kernel
theorem dX11_rows_186 : decode cX11_rows 186 = .ok (.iload 4, 2) := by decide +kernel
theorem dX11_rows_188 : decode cX11_rows 188 = .ok (.iconst 1, 1) := by decide +kernel
theorem dX11_rows_189 : decode cX11_rows 189 = .ok (.iload 7, 2) := by decide +kernel
theorem dX11_rows_191 : decode cX11_rows 191 = .ok (.ishl, 1) := by decide +kernel
theorem dX11_rows_192 : decode cX11_rows 192 = .ok (.ior, 1) := by decide +kernel
theorem dX11_rows_193 : decode cX11_rows 193 = .ok (.imul, 1) := by decide +kernel
theorem dX11_rows_194 : decode cX11_rows 194 = .ok (.iload 7, 2) := by decide +kernel
theorem dX11_rows_196 : decode cX11_rows 196 = .ok (.iadd, 1) := by decide +kernel
theorem dX11_rows_197 : decode cX11_rows 197 = .ok (.aload_n 0, 1) := by decide +kernel
theorem dX11_rows_198 : decode cX11_rows 198 = .ok (.getfield 95, 3) := by decide +kernel
theorem dX11_rows_201 : decode cX11_rows 201 = .ok (.bipush 9, 2) := by decide +kernel
theorem dX11_rows_203 : decode cX11_rows 203 = .ok (.iload 4, 2) := by decide +kernel
theorem dX11_rows_205 : decode cX11_rows 205 = .ok (.iconst 1, 1) := by decide +kernel
theorem dX11_rows_206 : decode cX11_rows 206 = .ok (.iload 7, 2) := by decide +kernel
theorem dX11_rows_208 : decode cX11_rows 208 = .ok (.ishl, 1) := by decide +kernel
theorem dX11_rows_209 : decode cX11_rows 209 = .ok (.ior, 1) := by decide +kernel
theorem dX11_rows_210 : decode cX11_rows 210 = .ok (.imul, 1) := by decide +kernel
theorem dX11_rows_211 : decode cX11_rows 211 = .ok (.iload 7, 2) := by decide +kernel
theorem dX11_rows_213 : decode cX11_rows 213 = .ok (.iadd, 1) := by decide +kernel
theorem dX11_rows_214 : decode cX11_rows 214 = .ok (.iaload, 1) := by decide +kernel
theorem dX11_rows_215 : decode cX11_rows 215 = .ok (.iload 6, 2) := by decide +kernel
theorem dX11_rows_217 : decode cX11_rows 217 = .ok (.iadd, 1) := by decide +kernel
theorem dX11_rows_218 : decode cX11_rows 218 = .ok (.iastore, 1) := by decide +kernel
theorem dX11_rows_219 : decode cX11_rows 219 = .ok (.iinc 7 1, 3) := by decide +kernel
theorem dX11_rows_222 : decode cX11_rows 222 = .ok (.goto (-79), 3) := by decide +kernel
theorem dX11_rows_225 : decode cX11_rows 225 = .ok (.iinc 5 1, 3) := by decide +kernel
theorem dX11_rows_228 : decode cX11_rows 228 = .ok (.goto (-109), 3) := by decide +kernel
theorem dX11_rows_231 : decode cX11_rows 231 = .ok (.iinc 4 1, 3) := by decide +kernel
theorem dX11_rows_234 : decode cX11_rows 234 = .ok (.goto (-124), 3) := by decide +kernel
theorem dX11_rows_237 : decode cX11_rows 237 = .ok (.iconst 0, 1) := by decide +kernel
theorem dX11_rows_238 : decode cX11_rows 238 = .ok (.istore 4, 2) := by decide +kernel
theorem dX11_rows_240 : decode cX11_rows 240 = .ok (.iconst 0, 1) := by decide +kernel
theorem dX11_rows_241 : decode cX11_rows 241 = .ok (.istore 5, 2) := by decide +kernel
theorem dX11_rows_243 : decode cX11_rows 243 = .ok (.iload 5, 2) := by decide +kernel
theorem dX11_rows_245 : decode cX11_rows 245 = .ok (.iload_n 1, 1) := by decide +kernel
theorem dX11_rows_246 : decode cX11_rows 246 = .ok (.if_icmp .ge 26, 3) := by decide +kernel
theorem dX11_rows_249 : decode cX11_rows 249 = .ok (.iload 4, 2) := by decide +kernel
theorem dX11_rows_251 : decode cX11_rows 251 = .ok (.aload_n 0, 1) := by decide +kernel
theorem dX11_rows_252 : decode cX11_rows 252 = .ok (.getfield 95, 3) := by decide +kernel
theorem dX11_rows_255 : decode cX11_rows 255 = .ok (.bipush 9, 2) := by decide +kernel
theorem dX11_rows_257 : decode cX11_rows 257 = .ok (.iload_n 3, 1) := by decide +kernel
theorem dX11_rows_258 : decode cX11_rows 258 = .ok (.imul, 1) := by decide +kernel
theorem dX11_rows_259 : decode cX11_rows 259 = .ok (.iload 5, 2) := by decide +kernel
theorem dX11_rows_261 : decode cX11_rows 261 = .ok (.iadd, 1) := by decide +kernel
theorem dX11_rows_262 : decode cX11_rows 262 = .ok (.iaload, 1) := by decide +kernel
theorem dX11_rows_263 : decode cX11_rows 263 = .ok (.iadd, 1) := by decide +kernel
theorem dX11_rows_264 : decode cX11_rows 264 = .ok (.istore 4, 2) := by decide +kernel
theorem dX11_rows_266 : decode cX11_rows 266 = .ok (.iinc 5 1, 3) := by decide +kernel
theorem dX11_rows_269 : decode cX11_rows 269 = .ok (.goto (-26), 3) := by decide +kernel
theorem dX11_rows_272 : decode cX11_rows 272 = .ok (.iload 4, 2) := by decide +kernel
theorem dX11_rows_274 : decode cX11_rows 274 = .ok (.ireturn, 1) := by decide +kernel
theorem dX11_dowry_0 : decode cX11_dowry 0 = .ok (.aload_n 0, 1) := by decide +kernel
theorem dX11_dowry_1 : decode cX11_dowry 1 = .ok (.iconst 0, 1) := by decide +kernel
theorem dX11_dowry_2 : decode cX11_dowry 2 = .ok (.putfield 132, 3) := by decide +kernel
theorem dX11_dowry_5 : decode cX11_dowry 5 = .ok (.iload_n 1, 1) := by decide +kernel
theorem dX11_dowry_6 : decode cX11_dowry 6 = .ok (.iconst (-1), 1) := by decide +kernel
theorem dX11_dowry_7 : decode cX11_dowry 7 = .ok (.if_icmp .ne 10, 3) := by decide +kernel
theorem dX11_dowry_10 : decode cX11_dowry 10 = .ok (.aload_n 0, 1) := by decide +kernel
theorem dX11_dowry_11 : decode cX11_dowry 11 = .ok (.iconst 0, 1) := by decide +kernel
theorem dX11_dowry_12 : decode cX11_dowry 12 = .ok (.putfield 414, 3) := by decide +kernel
theorem dX11_dowry_15 : decode cX11_dowry 15 = .ok (.iconst 0, 1) := by decide +kernel
theorem dX11_dowry_16 : decode cX11_dowry 16 = .ok (.ireturn, 1) := by decide +kernel
theorem dX11_dowry_17 : decode cX11_dowry 17 = .ok (.aload_n 0, 1) := by decide +kernel
theorem dX11_dowry_18 : decode cX11_dowry 18 = .ok (.iload_n 1, 1) := by decide +kernel
theorem dX11_dowry_19 : decode cX11_dowry 19 = .ok (.iconst 0, 1) := by decide +kernel
theorem dX11_dowry_20 : decode cX11_dowry 20 = .ok (.bipush 60, 2) := by decide +kernel
theorem dX11_dowry_22 : decode cX11_dowry 22 = .ok (.invokevirtual 147, 3) := by decide +kernel
theorem dX11_dowry_25 : decode cX11_dowry 25 = .ok (.ifCond .eq 12, 3) := by decide +kernel
theorem dX11_dowry_28 : decode cX11_dowry 28 = .ok (.aload_n 0, 1) := by decide +kernel
theorem dX11_dowry_29 : decode cX11_dowry 29 = .ok (.getfield 414, 3) := by decide +kernel
theorem dX11_dowry_32 : decode cX11_dowry 32 = .ok (.bipush 10, 2) := by decide +kernel
theorem dX11_dowry_34 : decode cX11_dowry 34 = .ok (.if_icmp .ne 5, 3) := by decide +kernel
theorem dX11_dowry_37 : decode cX11_dowry 37 = .ok (.iconst (-1), 1) := by decide +kernel
theorem dX11_dowry_38 : decode cX11_dowry 38 = .ok (.ireturn, 1) := by decide +kernel
theorem dX11_dowry_39 : decode cX11_dowry 39 = .ok (.aload_n 0, 1) := by decide +kernel
theorem dX11_dowry_40 : decode cX11_dowry 40 = .ok (.getfield 98, 3) := by decide +kernel
theorem dX11_dowry_43 : decode cX11_dowry 43 = .ok (.aload_n 0, 1) := by decide +kernel
theorem dX11_dowry_44 : decode cX11_dowry 44 = .ok (.getfield 414, 3) := by decide +kernel
theorem dX11_dowry_47 : decode cX11_dowry 47 = .ok (.iload_n 1, 1) := by decide +kernel
theorem dX11_dowry_48 : decode cX11_dowry 48 = .ok (.iastore, 1) := by decide +kernel
theorem dX11_dowry_49 : decode cX11_dowry 49 = .ok (.aload_n 0, 1) := by decide +kernel
theorem dX11_dowry_50 : decode cX11_dowry 50 = .ok (.aload_n 0, 1) := by decide +kernel
theorem dX11_dowry_51 : decode cX11_dowry 51 = .ok (.getfield 414, 3) := by decide +kernel
theorem dX11_dowry_54 : decode cX11_dowry 54 = .ok (.iconst 1, 1) := by decide +kernel
theorem dX11_dowry_55 : decode cX11_dowry 55 = .ok (.iadd, 1) := by decide +kernel
theorem dX11_dowry_56 : decode cX11_dowry 56 = .ok (.putfield 414, 3) := by decide +kernel
theorem dX11_dowry_59 : decode cX11_dowry 59 = .ok (.aload_n 0, 1) := by decide +kernel
theorem dX11_dowry_60 : decode cX11_dowry 60 = .ok (.getfield 414, 3) := by decide +kernel
theorem dX11_dowry_63 : decode cX11_dowry 63 = .ok (.ireturn, 1) := by decide +kernel
theorem dX11_pushesAll_0 : decode cX11_pushesAll 0 = .ok (.iconst 0, 1) := by decide +kernel
theorem dX11_pushesAll_1 : decode cX11_pushesAll 1 = .ok (.istore_n 1, 1) := by decide +kernel
theorem dX11_pushesAll_2 : decode cX11_pushesAll 2 = .ok (.iload_n 1, 1) := by decide +kernel
theorem dX11_pushesAll_3 : decode cX11_pushesAll 3 = .ok (.aload_n 0, 1) := by decide +kernel
theorem dX11_pushesAll_4 : decode cX11_pushesAll 4 = .ok (.getfield 414, 3) := by decide +kernel
theorem dX11_pushesAll_7 : decode cX11_pushesAll 7 = .ok (.if_icmp .ge 21, 3) := by decide +kernel
theorem dX11_pushesAll_10 : decode cX11_pushesAll 10 = .ok (.aload_n 0, 1) := by decide +kernel
theorem dX11_pushesAll_11 : decode cX11_pushesAll 11 = .ok (.getfield 101, 3) := by decide +kernel
theorem dX11_pushesAll_14 : decode cX11_pushesAll 14 = .ok (.iload_n 1, 1) := by decide +kernel
theorem dX11_pushesAll_15 : decode cX11_pushesAll 15 = .ok (.aload_n 0, 1) := by decide +kernel
theorem dX11_pushesAll_16 : decode cX11_pushesAll 16 = .ok (.getfield 98, 3) := by decide +kernel
theorem dX11_pushesAll_19 : decode cX11_pushesAll 19 = .ok (.iload_n 1, 1) := by decide +kernel
theorem dX11_pushesAll_20 : decode cX11_pushesAll 20 = .ok (.iaload, 1) := by decide +kernel
theorem dX11_pushesAll_21 : decode cX11_pushesAll 21 = .ok (.iastore, 1) := by decide +kernel
theorem dX11_pushesAll_22 : decode cX11_pushesAll 22 = .ok (.iinc 1 1, 3) := by decide +kernel
theorem dX11_pushesAll_25 : decode cX11_pushesAll 25 = .ok (.goto (-23), 3) := by decide +kernel
theorem dX11_pushesAll_28 : decode cX11_pushesAll 28 = .ok (.iconst 0, 1) := by decide +kernel
theorem dX11_pushesAll_29 : decode cX11_pushesAll 29 = .ok (.istore_n 1, 1) := by decide +kernel
theorem dX11_pushesAll_30 : decode cX11_pushesAll 30 = .ok (.iconst 1, 1) := by decide +kernel
theorem dX11_pushesAll_31 : decode cX11_pushesAll 31 = .ok (.istore_n 2, 1) := by decide +kernel
theorem dX11_pushesAll_32 : decode cX11_pushesAll 32 = .ok (.iload_n 2, 1) := by decide +kernel
theorem dX11_pushesAll_33 : decode cX11_pushesAll 33 = .ok (.ifCond .eq 120, 3) := by decide +kernel
theorem dX11_pushesAll_36 : decode cX11_pushesAll 36 = .ok (.iconst 0, 1) := by decide +kernel
theorem dX11_pushesAll_37 : decode cX11_pushesAll 37 = .ok (.istore_n 2, 1) := by decide +kernel
theorem dX11_pushesAll_38 : decode cX11_pushesAll 38 = .ok (.iconst 0, 1) := by decide +kernel
theorem dX11_pushesAll_39 : decode cX11_pushesAll 39 = .ok (.istore_n 3, 1) := by decide +kernel
theorem dX11_pushesAll_40 : decode cX11_pushesAll 40 = .ok (.iload_n 3, 1) := by decide +kernel
theorem dX11_pushesAll_41 : decode cX11_pushesAll 41 = .ok (.aload_n 0, 1) := by decide +kernel
theorem dX11_pushesAll_42 : decode cX11_pushesAll 42 = .ok (.getfield 414, 3) := by decide +kernel
theorem dX11_pushesAll_45 : decode cX11_pushesAll 45 = .ok (.if_icmp .ge 105, 3) := by decide +kernel
theorem dX11_pushesAll_48 : decode cX11_pushesAll 48 = .ok (.aload_n 0, 1) := by decide +kernel
theorem dX11_pushesAll_49 : decode cX11_pushesAll 49 = .ok (.getfield 101, 3) := by decide +kernel
theorem dX11_pushesAll_52 : decode cX11_pushesAll 52 = .ok (.iload_n 3, 1) := by decide +kernel
theorem dX11_pushesAll_53 : decode cX11_pushesAll 53 = .ok (.iaload, 1) := by decide +kernel
theorem dX11_pushesAll_54 : decode cX11_pushesAll 54 = .ok (.iconst 2, 1) := by decide +kernel
theorem dX11_pushesAll_55 : decode cX11_pushesAll 55 = .ok (.if_icmp .ge 6, 3) := by decide +kernel
theorem dX11_pushesAll_58 : decode cX11_pushesAll 58 = .ok (.goto 86, 3) := by decide +kernel
theorem dX11_pushesAll_61 : decode cX11_pushesAll 61 = .ok (.aload_n 0, 1) := by decide +kernel
theorem dX11_pushesAll_62 : decode cX11_pushesAll 62 = .ok (.getfield 101, 3) := by decide +kernel
theorem dX11_pushesAll_65 : decode cX11_pushesAll 65 = .ok (.iload_n 3, 1) := by decide +kernel
theorem dX11_pushesAll_66 : decode cX11_pushesAll 66 = .ok (.iaload, 1) := by decide +kernel
theorem dX11_pushesAll_67 : decode cX11_pushesAll 67 = .ok (.iconst 2, 1) := by decide +kernel
theorem dX11_pushesAll_68 : decode cX11_pushesAll 68 = .ok (.idiv, 1) := by decide +kernel
theorem dX11_pushesAll_69 : decode cX11_pushesAll 69 = .ok (.istore 4, 2) := by decide +kernel
theorem dX11_pushesAll_71 : decode cX11_pushesAll 71 = .ok (.aload_n 0, 1) := by decide +kernel
theorem dX11_pushesAll_72 : decode cX11_pushesAll 72 = .ok (.getfield 101, 3) := by decide +kernel
theorem dX11_pushesAll_75 : decode cX11_pushesAll 75 = .ok (.iload_n 3, 1) := by decide +kernel
theorem dX11_pushesAll_76 : decode cX11_pushesAll 76 = .ok (.aload_n 0, 1) := by decide +kernel
theorem dX11_pushesAll_77 : decode cX11_pushesAll 77 = .ok (.getfield 101, 3) := by decide +kernel
theorem dX11_pushesAll_80 : decode cX11_pushesAll 80 = .ok (.iload_n 3, 1) := by decide +kernel
theorem dX11_pushesAll_81 : decode cX11_pushesAll 81 = .ok (.iaload, 1) := by decide +kernel
theorem dX11_pushesAll_82 : decode cX11_pushesAll 82 = .ok (.iconst 2, 1) := by decide +kernel
theorem dX11_pushesAll_83 : decode cX11_pushesAll 83 = .ok (.irem, 1) := by decide +kernel
theorem dX11_pushesAll_84 : decode cX11_pushesAll 84 = .ok (.iastore, 1) := by decide +kernel
theorem dX11_pushesAll_85 : decode cX11_pushesAll 85 = .ok (.iload_n 3, 1) := by decide +kernel
theorem dX11_pushesAll_86 : decode cX11_pushesAll 86 = .ok (.ifCond .le 22, 3) := by decide +kernel
theorem dX11_pushesAll_89 : decode cX11_pushesAll 89 = .ok (.aload_n 0, 1) := by decide +kernel
theorem dX11_pushesAll_90 : decode cX11_pushesAll 90 = .ok (.getfield 101, 3) := by decide +kernel
theorem dX11_pushesAll_93 : decode cX11_pushesAll 93 = .ok (.iload_n 3, 1) := by decide +kernel
theorem dX11_pushesAll_94 : decode cX11_pushesAll 94 = .ok (.iconst 1, 1) := by decide +kernel
theorem dX11_pushesAll_95 : decode cX11_pushesAll 95 = .ok (.isub, 1) := by decide +kernel
theorem dX11_pushesAll_96 : decode cX11_pushesAll 96 = .ok (.aload_n 0, 1) := by decide +kernel
theorem dX11_pushesAll_97 : decode cX11_pushesAll 97 = .ok (.getfield 101, 3) := by decide +kernel
theorem dX11_pushesAll_100 : decode cX11_pushesAll 100 = .ok (.iload_n 3, 1) := by decide +kernel
theorem dX11_pushesAll_101 : decode cX11_pushesAll 101 = .ok (.iconst 1, 1) := by decide +kernel
theorem dX11_pushesAll_102 : decode cX11_pushesAll 102 = .ok (.isub, 1) := by decide +kernel
theorem dX11_pushesAll_103 : decode cX11_pushesAll 103 = .ok (.iaload, 1) := by decide +kernel
theorem dX11_pushesAll_104 : decode cX11_pushesAll 104 = .ok (.iload 4, 2) := by decide +kernel
theorem dX11_pushesAll_106 : decode cX11_pushesAll 106 = .ok (.iadd, 1) := by decide +kernel
theorem dX11_pushesAll_107 : decode cX11_pushesAll 107 = .ok (.iastore, 1) := by decide +kernel
theorem dX11_pushesAll_108 : decode cX11_pushesAll 108 = .ok (.iload_n 3, 1) := by decide +kernel
theorem dX11_pushesAll_109 : decode cX11_pushesAll 109 = .ok (.aload_n 0, 1) := by decide +kernel
theorem dX11_pushesAll_110 : decode cX11_pushesAll 110 = .ok (.getfield 414, 3) := by decide +kernel
theorem dX11_pushesAll_113 : decode cX11_pushesAll 113 = .ok (.iconst 1, 1) := by decide +kernel
theorem dX11_pushesAll_114 : decode cX11_pushesAll 114 = .ok (.isub, 1) := by decide +kernel
theorem dX11_pushesAll_115 : decode cX11_pushesAll 115 = .ok (.if_icmp .ge 22, 3) := by decide +kernel
theorem dX11_pushesAll_118 : decode cX11_pushesAll 118 = .ok (.aload_n 0, 1) := by decide +kernel
theorem dX11_pushesAll_119 : decode cX11_pushesAll 119 = .ok (.getfield 101, 3) := by decide +kernel
theorem dX11_pushesAll_122 : decode cX11_pushesAll 122 = .ok (.iload_n 3, 1) := by decide +kernel
theorem dX11_pushesAll_123 : decode cX11_pushesAll 123 = .ok (.iconst 1, 1) := by decide +kernel
theorem dX11_pushesAll_124 : decode cX11_pushesAll 124 = .ok (.iadd, 1) := by decide +kernel
theorem dX11_pushesAll_125 : decode cX11_pushesAll 125 = .ok (.aload_n 0, 1) := by decide +kernel
theorem dX11_pushesAll_126 : decode cX11_pushesAll 126 = .ok (.getfield 101, 3) := by decide +kernel
theorem dX11_pushesAll_129 : decode cX11_pushesAll 129 = .ok (.iload_n 3, 1) := by decide +kernel
theorem dX11_pushesAll_130 : decode cX11_pushesAll 130 = .ok (.iconst 1, 1) := by decide +kernel
theorem dX11_pushesAll_131 : decode cX11_pushesAll 131 = .ok (.iadd, 1) := by decide +kernel
theorem dX11_pushesAll_132 : decode cX11_pushesAll 132 = .ok (.iaload, 1) := by decide +kernel
theorem dX11_pushesAll_133 : decode cX11_pushesAll 133 = .ok (.iload 4, 2) := by decide +kernel
theorem dX11_pushesAll_135 : decode cX11_pushesAll 135 = .ok (.iadd, 1) := by decide +kernel
theorem dX11_pushesAll_136 : decode cX11_pushesAll 136 = .ok (.iastore, 1) := by decide +kernel
theorem dX11_pushesAll_137 : decode cX11_pushesAll 137 = .ok (.iload_n 1, 1) := by decide +kernel
theorem dX11_pushesAll_138 : decode cX11_pushesAll 138 = .ok (.iload 4, 2) := by decide +kernel
theorem dX11_pushesAll_140 : decode cX11_pushesAll 140 = .ok (.iadd, 1) := by decide +kernel
theorem dX11_pushesAll_141 : decode cX11_pushesAll 141 = .ok (.istore_n 1, 1) := by decide +kernel
theorem dX11_pushesAll_142 : decode cX11_pushesAll 142 = .ok (.iconst 1, 1) := by decide +kernel
theorem dX11_pushesAll_143 : decode cX11_pushesAll 143 = .ok (.istore_n 2, 1) := by decide +kernel
theorem dX11_pushesAll_144 : decode cX11_pushesAll 144 = .ok (.iinc 3 1, 3) := by decide +kernel
theorem dX11_pushesAll_147 : decode cX11_pushesAll 147 = .ok (.goto (-107), 3) := by decide +kernel
theorem dX11_pushesAll_150 : decode cX11_pushesAll 150 = .ok (.goto (-118), 3) := by decide +kernel
theorem dX11_pushesAll_153 : decode cX11_pushesAll 153 = .ok (.iload_n 1, 1) := by decide +kernel
theorem dX11_pushesAll_154 : decode cX11_pushesAll 154 = .ok (.ireturn, 1) := by decide +kernel
theorem dX11_pushed_0 : decode cX11_pushed 0 = .ok (.aload_n 0, 1) := by decide +kernel
theorem dX11_pushed_1 : decode cX11_pushed 1 = .ok (.iconst 0, 1) := by decide +kernel
theorem dX11_pushed_2 : decode cX11_pushed 2 = .ok (.putfield 132, 3) := by decide +kernel
theorem dX11_pushed_5 : decode cX11_pushed 5 = .ok (.aload_n 0, 1) := by decide +kernel
theorem dX11_pushed_6 : decode cX11_pushed 6 = .ok (.iload_n 1, 1) := by decide +kernel
theorem dX11_pushed_7 : decode cX11_pushed 7 = .ok (.iconst 0, 1) := by decide +kernel
theorem dX11_pushed_8 : decode cX11_pushed 8 = .ok (.aload_n 0, 1) := by decide +kernel
theorem dX11_pushed_9 : decode cX11_pushed 9 = .ok (.getfield 414, 3) := by decide +kernel
theorem dX11_pushed_12 : decode cX11_pushed 12 = .ok (.invokevirtual 147, 3) := by decide +kernel
theorem dX11_pushed_15 : decode cX11_pushed 15 = .ok (.ifCond .ne 5, 3) := by decide +kernel
theorem dX11_pushed_18 : decode cX11_pushed 18 = .ok (.iconst (-1), 1) := by decide +kernel
theorem dX11_pushed_19 : decode cX11_pushed 19 = .ok (.ireturn, 1) := by decide +kernel
theorem dX11_pushed_20 : decode cX11_pushed 20 = .ok (.aload_n 0, 1) := by decide +kernel
theorem dX11_pushed_21 : decode cX11_pushed 21 = .ok (.invokevirtual 417, 3) := by decide +kernel
theorem dX11_pushed_24 : decode cX11_pushed 24 = .ok (.istore_n 2, 1) := by decide +kernel
theorem dX11_pushed_25 : decode cX11_pushed 25 = .ok (.iload_n 1, 1) := by decide +kernel
theorem dX11_pushed_26 : decode cX11_pushed 26 = .ok (.ifCond .ne 7, 3) := by decide +kernel
theorem dX11_pushed_29 : decode cX11_pushed 29 = .ok (.iload_n 2, 1) := by decide +kernel
theorem dX11_pushed_30 : decode cX11_pushed 30 = .ok (.goto 11, 3) := by decide +kernel
theorem dX11_pushed_33 : decode cX11_pushed 33 = .ok (.aload_n 0, 1) := by decide +kernel
theorem dX11_pushed_34 : decode cX11_pushed 34 = .ok (.getfield 101, 3) := by decide +kernel
theorem dX11_pushed_37 : decode cX11_pushed 37 = .ok (.iload_n 1, 1) := by decide +kernel
theorem dX11_pushed_38 : decode cX11_pushed 38 = .ok (.iconst 1, 1) := by decide +kernel
theorem dX11_pushed_39 : decode cX11_pushed 39 = .ok (.isub, 1) := by decide +kernel
theorem dX11_pushed_40 : decode cX11_pushed 40 = .ok (.iaload, 1) := by decide +kernel
theorem dX11_pushed_41 : decode cX11_pushed 41 = .ok (.ireturn, 1) := by decide +kernel
theorem dX11_isAbove_0 : decode cX11_isAbove 0 = .ok (.aload_n 0, 1) := by decide +kernel
theorem dX11_isAbove_1 : decode cX11_isAbove 1 = .ok (.aload_n 0, 1) := by decide +kernel
theorem dX11_isAbove_2 : decode cX11_isAbove 2 = .ok (.getfield 59, 3) := by decide +kernel
theorem dX11_isAbove_5 : decode cX11_isAbove 5 = .ok (.iload_n 1, 1) := by decide +kernel
theorem dX11_isAbove_6 : decode cX11_isAbove 6 = .ok (.iaload, 1) := by decide +kernel
theorem dX11_isAbove_7 : decode cX11_isAbove 7 = .ok (.iload_n 2, 1) := by decide +kernel
theorem dX11_isAbove_8 : decode cX11_isAbove 8 = .ok (.invokevirtual 328, 3) := by decide +kernel
theorem dX11_isAbove_11 : decode cX11_isAbove 11 = .ok (.ifCond .eq 21, 3) := by decide +kernel
theorem dX11_isAbove_14 : decode cX11_isAbove 14 = .ok (.aload_n 0, 1) := by decide +kernel
theorem dX11_isAbove_15 : decode cX11_isAbove 15 = .ok (.aload_n 0, 1) := by decide +kernel
theorem dX11_isAbove_16 : decode cX11_isAbove 16 = .ok (.getfield 59, 3) := by decide +kernel
theorem dX11_isAbove_19 : decode cX11_isAbove 19 = .ok (.iload_n 2, 1) := by decide +kernel
theorem dX11_isAbove_20 : decode cX11_isAbove 20 = .ok (.iaload, 1) := by decide +kernel
theorem dX11_isAbove_21 : decode cX11_isAbove 21 = .ok (.iload_n 1, 1) := by decide +kernel
theorem dX11_isAbove_22 : decode cX11_isAbove 22 = .ok (.invokevirtual 328, 3) := by decide +kernel
theorem dX11_isAbove_25 : decode cX11_isAbove 25 = .ok (.ifCond .ne 7, 3) := by decide +kernel
theorem dX11_isAbove_28 : decode cX11_isAbove 28 = .ok (.iconst 1, 1) := by decide +kernel
theorem dX11_isAbove_29 : decode cX11_isAbove 29 = .ok (.goto 4, 3) := by decide +kernel
theorem dX11_isAbove_32 : decode cX11_isAbove 32 = .ok (.iconst 0, 1) := by decide +kernel
theorem dX11_isAbove_33 : decode cX11_isAbove 33 = .ok (.ireturn, 1) := by decide +kernel
theorem dX11_isKing_0 : decode cX11_isKing 0 = .ok (.iconst 0, 1) := by decide +kernel
theorem dX11_isKing_1 : decode cX11_isKing 1 = .ok (.istore_n 2, 1) := by decide +kernel
theorem dX11_isKing_2 : decode cX11_isKing 2 = .ok (.iload_n 2, 1) := by decide +kernel
theorem dX11_isKing_3 : decode cX11_isKing 3 = .ok (.aload_n 0, 1) := by decide +kernel
theorem dX11_isKing_4 : decode cX11_isKing 4 = .ok (.getfield 144, 3) := by decide +kernel
theorem dX11_isKing_7 : decode cX11_isKing 7 = .ok (.if_icmp .ge 75, 3) := by decide +kernel
theorem dX11_isKing_10 : decode cX11_isKing 10 = .ok (.iload_n 1, 1) := by decide +kernel
theorem dX11_isKing_11 : decode cX11_isKing 11 = .ok (.iload_n 2, 1) := by decide +kernel
theorem dX11_isKing_12 : decode cX11_isKing 12 = .ok (.if_icmp .eq 12, 3) := by decide +kernel
theorem dX11_isKing_15 : decode cX11_isKing 15 = .ok (.aload_n 0, 1) := by decide +kernel
theorem dX11_isKing_16 : decode cX11_isKing 16 = .ok (.iload_n 1, 1) := by decide +kernel
theorem dX11_isKing_17 : decode cX11_isKing 17 = .ok (.iload_n 2, 1) := by decide +kernel
theorem dX11_isKing_18 : decode cX11_isKing 18 = .ok (.invokevirtual 420, 3) := by decide +kernel
theorem dX11_isKing_21 : decode cX11_isKing 21 = .ok (.ifCond .eq 7, 3) := by decide +kernel
theorem dX11_isKing_24 : decode cX11_isKing 24 = .ok (.iconst 1, 1) := by decide +kernel
theorem dX11_isKing_25 : decode cX11_isKing 25 = .ok (.goto 4, 3) := by decide +kernel
theorem dX11_isKing_28 : decode cX11_isKing 28 = .ok (.iconst 0, 1) := by decide +kernel
theorem dX11_isKing_29 : decode cX11_isKing 29 = .ok (.istore_n 3, 1) := by decide +kernel
theorem dX11_isKing_30 : decode cX11_isKing 30 = .ok (.iconst 0, 1) := by decide +kernel
theorem dX11_isKing_31 : decode cX11_isKing 31 = .ok (.istore 4, 2) := by decide +kernel
theorem dX11_isKing_33 : decode cX11_isKing 33 = .ok (.iload 4, 2) := by decide +kernel
theorem dX11_isKing_35 : decode cX11_isKing 35 = .ok (.aload_n 0, 1) := by decide +kernel
theorem dX11_isKing_36 : decode cX11_isKing 36 = .ok (.getfield 144, 3) := by decide +kernel
theorem dX11_isKing_39 : decode cX11_isKing 39 = .ok (.if_icmp .ge 31, 3) := by decide +kernel
theorem dX11_isKing_42 : decode cX11_isKing 42 = .ok (.aload_n 0, 1) := by decide +kernel
theorem dX11_isKing_43 : decode cX11_isKing 43 = .ok (.iload_n 1, 1) := by decide +kernel
theorem dX11_isKing_44 : decode cX11_isKing 44 = .ok (.iload 4, 2) := by decide +kernel
theorem dX11_isKing_46 : decode cX11_isKing 46 = .ok (.invokevirtual 420, 3) := by decide +kernel
theorem dX11_isKing_49 : decode cX11_isKing 49 = .ok (.ifCond .eq 15, 3) := by decide +kernel
theorem dX11_isKing_52 : decode cX11_isKing 52 = .ok (.aload_n 0, 1) := by decide +kernel
theorem dX11_isKing_53 : decode cX11_isKing 53 = .ok (.iload 4, 2) := by decide +kernel
theorem dX11_isKing_55 : decode cX11_isKing 55 = .ok (.iload_n 2, 1) := by decide +kernel
theorem dX11_isKing_56 : decode cX11_isKing 56 = .ok (.invokevirtual 420, 3) := by decide +kernel
theorem dX11_isKing_59 : decode cX11_isKing 59 = .ok (.ifCond .eq 5, 3) := by decide +kernel
theorem dX11_isKing_62 : decode cX11_isKing 62 = .ok (.iconst 1, 1) := by decide +kernel
theorem dX11_isKing_63 : decode cX11_isKing 63 = .ok (.istore_n 3, 1) := by decide +kernel
theorem dX11_isKing_64 : decode cX11_isKing 64 = .ok (.iinc 4 1, 3) := by decide +kernel
theorem dX11_isKing_67 : decode cX11_isKing 67 = .ok (.goto (-34), 3) := by decide +kernel
theorem dX11_isKing_70 : decode cX11_isKing 70 = .ok (.iload_n 3, 1) := by decide +kernel
theorem dX11_isKing_71 : decode cX11_isKing 71 = .ok (.ifCond .ne 5, 3) := by decide +kernel
theorem dX11_isKing_74 : decode cX11_isKing 74 = .ok (.iconst 0, 1) := by decide +kernel
theorem dX11_isKing_75 : decode cX11_isKing 75 = .ok (.ireturn, 1) := by decide +kernel
theorem dX11_isKing_76 : decode cX11_isKing 76 = .ok (.iinc 2 1, 3) := by decide +kernel
theorem dX11_isKing_79 : decode cX11_isKing 79 = .ok (.goto (-77), 3) := by decide +kernel
theorem dX11_isKing_82 : decode cX11_isKing 82 = .ok (.iconst 1, 1) := by decide +kernel
theorem dX11_isKing_83 : decode cX11_isKing 83 = .ok (.ireturn, 1) := by decide +kernel
theorem dX11_longest_0 : decode cX11_longest 0 = .ok (.aload_n 0, 1) := by decide +kernel
theorem dX11_longest_1 : decode cX11_longest 1 = .ok (.bipush 12, 2) := by decide +kernel
theorem dX11_longest_3 : decode cX11_longest 3 = .ok (.aload_n 0, 1) := by decide +kernel
theorem dX11_longest_4 : decode cX11_longest 4 = .ok (.getfield 144, 3) := by decide +kernel
theorem dX11_longest_7 : decode cX11_longest 7 = .ok (.invokevirtual 332, 3) := by decide +kernel
theorem dX11_longest_10 : decode cX11_longest 10 = .ok (.istore_n 1, 1) := by decide +kernel
theorem dX11_longest_11 : decode cX11_longest 11 = .ok (.iconst 0, 1) := by decide +kernel
theorem dX11_longest_12 : decode cX11_longest 12 = .ok (.istore_n 2, 1) := by decide +kernel
theorem dX11_longest_13 : decode cX11_longest 13 = .ok (.iconst 1, 1) := by decide +kernel
theorem dX11_longest_14 : decode cX11_longest 14 = .ok (.istore_n 3, 1) := by decide +kernel
theorem dX11_longest_15 : decode cX11_longest 15 = .ok (.iload_n 3, 1) := by decide +kernel
theorem dX11_longest_16 : decode cX11_longest 16 = .ok (.iconst 1, 1) := by decide +kernel
theorem dX11_longest_17 : decode cX11_longest 17 = .ok (.iload_n 1, 1) := by decide +kernel
theorem dX11_longest_18 : decode cX11_longest 18 = .ok (.ishl, 1) := by decide +kernel
theorem dX11_longest_19 : decode cX11_longest 19 = .ok (.if_icmp .ge 158, 3) := by decide +kernel
theorem dX11_longest_22 : decode cX11_longest 22 = .ok (.aload_n 0, 1) := by decide +kernel
theorem dX11_longest_23 : decode cX11_longest 23 = .ok (.getfield 104, 3) := by decide +kernel
theorem dX11_longest_26 : decode cX11_longest 26 = .ok (.iload_n 3, 1) := by decide +kernel
theorem dX11_longest_27 : decode cX11_longest 27 = .ok (.iconst 0, 1) := by decide +kernel
theorem dX11_longest_28 : decode cX11_longest 28 = .ok (.iastore, 1) := by decide +kernel
theorem dX11_longest_29 : decode cX11_longest 29 = .ok (.iconst 0, 1) := by decide +kernel
theorem dX11_longest_30 : decode cX11_longest 30 = .ok (.istore 4, 2) := by decide +kernel
theorem dX11_longest_32 : decode cX11_longest 32 = .ok (.iload 4, 2) := by decide +kernel
theorem dX11_longest_34 : decode cX11_longest 34 = .ok (.iload_n 1, 1) := by decide +kernel
theorem dX11_longest_35 : decode cX11_longest 35 = .ok (.if_icmp .ge 116, 3) := by decide +kernel
theorem dX11_longest_38 : decode cX11_longest 38 = .ok (.aload_n 0, 1) := by decide +kernel
theorem dX11_longest_39 : decode cX11_longest 39 = .ok (.iload_n 3, 1) := by decide +kernel
theorem dX11_longest_40 : decode cX11_longest 40 = .ok (.iload 4, 2) := by decide +kernel
theorem dX11_longest_42 : decode cX11_longest 42 = .ok (.invokevirtual 328, 3) := by decide +kernel
theorem dX11_longest_45 : decode cX11_longest 45 = .ok (.ifCond .ne 6, 3) := by decide +kernel
theorem dX11_longest_48 : decode cX11_longest 48 = .ok (.goto 97, 3) := by decide +kernel
theorem dX11_longest_51 : decode cX11_longest 51 = .ok (.iload_n 3, 1) := by decide +kernel
theorem dX11_longest_52 : decode cX11_longest 52 = .ok (.iconst 1, 1) := by decide +kernel
theorem dX11_longest_53 : decode cX11_longest 53 = .ok (.iload 4, 2) := by decide +kernel
theorem dX11_longest_55 : decode cX11_longest 55 = .ok (.ishl, 1) := by decide +kernel
theorem dX11_longest_56 : decode cX11_longest 56 = .ok (.iconst (-1), 1) := by decide +kernel
theorem dX11_longest_57 : decode cX11_longest 57 = .ok (.ixor, 1) := by decide +kernel
theorem dX11_longest_58 : decode cX11_longest 58 = .ok (.iand, 1) := by decide +kernel
theorem dX11_longest_59 : decode cX11_longest 59 = .ok (.istore 5, 2) := by decide +kernel
theorem dX11_longest_61 : decode cX11_longest 61 = .ok (.iload 5, 2) := by decide +kernel
theorem dX11_longest_63 : decode cX11_longest 63 = .ok (.ifCond .ne 7, 3) := by decide +kernel
theorem dX11_longest_66 : decode cX11_longest 66 = .ok (.iconst 1, 1) := by decide +kernel
theorem dX11_longest_67 : decode cX11_longest 67 = .ok (.goto 4, 3) := by decide +kernel
theorem dX11_longest_70 : decode cX11_longest 70 = .ok (.iconst 0, 1) := by decide +kernel
theorem dX11_longest_71 : decode cX11_longest 71 = .ok (.istore 6, 2) := by decide +kernel
theorem dX11_longest_73 : decode cX11_longest 73 = .ok (.iconst 0, 1) := by decide +kernel
theorem dX11_longest_74 : decode cX11_longest 74 = .ok (.istore 7, 2) := by decide +kernel
theorem dX11_longest_76 : decode cX11_longest 76 = .ok (.iload 7, 2) := by decide +kernel
theorem dX11_longest_78 : decode cX11_longest 78 = .ok (.iload_n 1, 1) := by decide +kernel
theorem dX11_longest_79 : decode cX11_longest 79 = .ok (.if_icmp .ge 44, 3) := by decide +kernel
theorem dX11_longest_82 : decode cX11_longest 82 = .ok (.iload 5, 2) := by decide +kernel
theorem dX11_longest_84 : decode cX11_longest 84 = .ok (.ifCond .eq 39, 3) := by decide +kernel
theorem dX11_longest_87 : decode cX11_longest 87 = .ok (.aload_n 0, 1) := by decide +kernel
theorem dX11_longest_88 : decode cX11_longest 88 = .ok (.aload_n 0, 1) := by decide +kernel
theorem dX11_longest_89 : decode cX11_longest 89 = .ok (.getfield 104, 3) := by decide +kernel
theorem dX11_longest_92 : decode cX11_longest 92 = .ok (.iload 5, 2) := by decide +kernel
theorem dX11_longest_94 : decode cX11_longest 94 = .ok (.iaload, 1) := by decide +kernel
theorem dX11_longest_95 : decode cX11_longest 95 = .ok (.iload 7, 2) := by decide +kernel
theorem dX11_longest_97 : decode cX11_longest 97 = .ok (.invokevirtual 328, 3) := by decide +kernel
theorem dX11_longest_100 : decode cX11_longest 100 = .ok (.ifCond .eq 17, 3) := by decide +kernel
theorem dX11_longest_103 : decode cX11_longest 103 = .ok (.aload_n 0, 1) := by decide +kernel
theorem dX11_longest_104 : decode cX11_longest 104 = .ok (.iload 7, 2) := by decide +kernel
theorem dX11_longest_106 : decode cX11_longest 106 = .ok (.iload 4, 2) := by decide +kernel
theorem dX11_longest_108 : decode cX11_longest 108 = .ok (.invokevirtual 420, 3) := by decide +kernel
theorem dX11_longest_111 : decode cX11_longest 111 = .ok (.ifCond .eq 6, 3) := by decide +kernel
theorem dX11_longest_114 : decode cX11_longest 114 = .ok (.iconst 1, 1) := by decide +kernel
theorem dX11_longest_115 : decode cX11_longest 115 = .ok (.istore 6, 2) := by decide +kernel
theorem dX11_longest_117 : decode cX11_longest 117 = .ok (.iinc 7 1, 3) := by decide +kernel
theorem dX11_longest_120 : decode cX11_longest 120 = .ok (.goto (-44), 3) := by decide +kernel
theorem dX11_longest_123 : decode cX11_longest 123 = .ok (.iload 6, 2) := by decide +kernel
theorem dX11_longest_125 : decode cX11_longest 125 = .ok (.ifCond .eq 20, 3) := by decide +kernel
theorem dX11_longest_128 : decode cX11_longest 128 = .ok (.aload_n 0, 1) := by decide +kernel
theorem dX11_longest_129 : decode cX11_longest 129 = .ok (.getfield 104, 3) := by decide +kernel
theorem dX11_longest_132 : decode cX11_longest 132 = .ok (.iload_n 3, 1) := by decide +kernel
theorem dX11_longest_133 : decode cX11_longest 133 = .ok (.aload_n 0, 1) := by decide +kernel
theorem dX11_longest_134 : decode cX11_longest 134 = .ok (.getfield 104, 3) := by decide +kernel
theorem dX11_longest_137 : decode cX11_longest 137 = .ok (.iload_n 3, 1) := by decide +kernel
theorem dX11_longest_138 : decode cX11_longest 138 = .ok (.iaload, 1) := by decide +kernel
theorem dX11_longest_139 : decode cX11_longest 139 = .ok (.iconst 1, 1) := by decide +kernel
theorem dX11_longest_140 : decode cX11_longest 140 = .ok (.iload 4, 2) := by decide +kernel
theorem dX11_longest_142 : decode cX11_longest 142 = .ok (.ishl, 1) := by decide +kernel
theorem dX11_longest_143 : decode cX11_longest 143 = .ok (.ior, 1) := by decide +kernel
theorem dX11_longest_144 : decode cX11_longest 144 = .ok (.iastore, 1) := by decide +kernel
theorem dX11_longest_145 : decode cX11_longest 145 = .ok (.iinc 4 1, 3) := by decide +kernel
theorem dX11_longest_148 : decode cX11_longest 148 = .ok (.goto (-116), 3) := by decide +kernel
theorem dX11_longest_151 : decode cX11_longest 151 = .ok (.aload_n 0, 1) := by decide +kernel
theorem dX11_longest_152 : decode cX11_longest 152 = .ok (.getfield 104, 3) := by decide +kernel
theorem dX11_longest_155 : decode cX11_longest 155 = .ok (.iload_n 3, 1) := by decide +kernel
theorem dX11_longest_156 : decode cX11_longest 156 = .ok (.iaload, 1) := by decide +kernel
theorem dX11_longest_157 : decode cX11_longest 157 = .ok (.ifCond .eq 14, 3) := by decide +kernel
theorem dX11_longest_160 : decode cX11_longest 160 = .ok (.aload_n 0, 1) := by decide +kernel
theorem dX11_longest_161 : decode cX11_longest 161 = .ok (.iload_n 2, 1) := by decide +kernel
theorem dX11_longest_162 : decode cX11_longest 162 = .ok (.aload_n 0, 1) := by decide +kernel
theorem dX11_longest_163 : decode cX11_longest 163 = .ok (.iload_n 3, 1) := by decide +kernel
theorem dX11_longest_164 : decode cX11_longest 164 = .ok (.invokevirtual 395, 3) := by decide +kernel
theorem dX11_longest_167 : decode cX11_longest 167 = .ok (.invokevirtual 398, 3) := by decide +kernel
theorem dX11_longest_170 : decode cX11_longest 170 = .ok (.istore_n 2, 1) := by decide +kernel
theorem dX11_longest_171 : decode cX11_longest 171 = .ok (.iinc 3 1, 3) := by decide +kernel
theorem dX11_longest_174 : decode cX11_longest 174 = .ok (.goto (-159), 3) := by decide +kernel
theorem dX11_longest_177 : decode cX11_longest 177 = .ok (.iload_n 2, 1) := by decide +kernel
theorem dX11_longest_178 : decode cX11_longest 178 = .ok (.ireturn, 1) := by decide +kernel
theorem dX11_feuds_0 : decode cX11_feuds 0 = .ok (.aload_n 0, 1) := by decide +kernel
theorem dX11_feuds_1 : decode cX11_feuds 1 = .ok (.iconst 0, 1) := by decide +kernel
theorem dX11_feuds_2 : decode cX11_feuds 2 = .ok (.putfield 132, 3) := by decide +kernel
theorem dX11_feuds_5 : decode cX11_feuds 5 = .ok (.iload_n 1, 1) := by decide +kernel
theorem dX11_feuds_6 : decode cX11_feuds 6 = .ok (.iconst 1, 1) := by decide +kernel
theorem dX11_feuds_7 : decode cX11_feuds 7 = .ok (.if_icmp .ne 8, 3) := by decide +kernel
theorem dX11_feuds_10 : decode cX11_feuds 10 = .ok (.aload_n 0, 1) := by decide +kernel
theorem dX11_feuds_11 : decode cX11_feuds 11 = .ok (.invokevirtual 423, 3) := by decide +kernel
theorem dX11_feuds_14 : decode cX11_feuds 14 = .ok (.ireturn, 1) := by decide +kernel
theorem dX11_feuds_15 : decode cX11_feuds 15 = .ok (.iload_n 1, 1) := by decide +kernel
theorem dX11_feuds_16 : decode cX11_feuds 16 = .ok (.ifCond .eq 5, 3) := by decide +kernel
theorem dX11_feuds_19 : decode cX11_feuds 19 = .ok (.iconst (-1), 1) := by decide +kernel
theorem dX11_feuds_20 : decode cX11_feuds 20 = .ok (.ireturn, 1) := by decide +kernel
theorem dX11_feuds_21 : decode cX11_feuds 21 = .ok (.iconst 0, 1) := by decide +kernel
theorem dX11_feuds_22 : decode cX11_feuds 22 = .ok (.istore_n 2, 1) := by decide +kernel
theorem dX11_feuds_23 : decode cX11_feuds 23 = .ok (.iconst 0, 1) := by decide +kernel
theorem dX11_feuds_24 : decode cX11_feuds 24 = .ok (.istore_n 3, 1) := by decide +kernel
theorem dX11_feuds_25 : decode cX11_feuds 25 = .ok (.iload_n 3, 1) := by decide +kernel
theorem dX11_feuds_26 : decode cX11_feuds 26 = .ok (.aload_n 0, 1) := by decide +kernel
theorem dX11_feuds_27 : decode cX11_feuds 27 = .ok (.getfield 144, 3) := by decide +kernel
theorem dX11_feuds_30 : decode cX11_feuds 30 = .ok (.if_icmp .ge 23, 3) := by decide +kernel
theorem dX11_feuds_33 : decode cX11_feuds 33 = .ok (.aload_n 0, 1) := by decide +kernel
theorem dX11_feuds_34 : decode cX11_feuds 34 = .ok (.iload_n 3, 1) := by decide +kernel
theorem dX11_feuds_35 : decode cX11_feuds 35 = .ok (.invokevirtual 426, 3) := by decide +kernel
theorem dX11_feuds_38 : decode cX11_feuds 38 = .ok (.ifCond .eq 9, 3) := by decide +kernel
theorem dX11_feuds_41 : decode cX11_feuds 41 = .ok (.iload_n 2, 1) := by decide +kernel
theorem dX11_feuds_42 : decode cX11_feuds 42 = .ok (.iconst 1, 1) := by decide +kernel
theorem dX11_feuds_43 : decode cX11_feuds 43 = .ok (.iload_n 3, 1) := by decide +kernel
theorem dX11_feuds_44 : decode cX11_feuds 44 = .ok (.ishl, 1) := by decide +kernel
theorem dX11_feuds_45 : decode cX11_feuds 45 = .ok (.ior, 1) := by decide +kernel
theorem dX11_feuds_46 : decode cX11_feuds 46 = .ok (.istore_n 2, 1) := by decide +kernel
theorem dX11_feuds_47 : decode cX11_feuds 47 = .ok (.iinc 3 1, 3) := by decide +kernel
theorem dX11_feuds_50 : decode cX11_feuds 50 = .ok (.goto (-25), 3) := by decide +kernel
theorem dX11_feuds_53 : decode cX11_feuds 53 = .ok (.iload_n 2, 1) := by decide +kernel
theorem dX11_feuds_54 : decode cX11_feuds 54 = .ok (.ireturn, 1) := by decide +kernel
theorem dX11_isFraction_0 : decode cX11_isFraction 0 = .ok (.aload_n 0, 1) := by decide +kernel
theorem dX11_isFraction_1 : decode cX11_isFraction 1 = .ok (.iload_n 1, 1) := by decide +kernel
theorem dX11_isFraction_2 : decode cX11_isFraction 2 = .ok (.iload_n 2, 1) := by decide +kernel
theorem dX11_isFraction_3 : decode cX11_isFraction 3 = .ok (.invokevirtual 429, 3) := by decide +kernel
theorem dX11_isFraction_6 : decode cX11_isFraction 6 = .ok (.istore_n 3, 1) := by decide +kernel
theorem dX11_isFraction_7 : decode cX11_isFraction 7 = .ok (.aload_n 0, 1) := by decide +kernel
theorem dX11_isFraction_8 : decode cX11_isFraction 8 = .ok (.iload_n 2, 1) := by decide +kernel
theorem dX11_isFraction_9 : decode cX11_isFraction 9 = .ok (.ifCond .ge 8, 3) := by decide +kernel
theorem dX11_isFraction_12 : decode cX11_isFraction 12 = .ok (.iload_n 1, 1) := by decide +kernel
theorem dX11_isFraction_13 : decode cX11_isFraction 13 = .ok (.ineg, 1) := by decide +kernel
theorem dX11_isFraction_14 : decode cX11_isFraction 14 = .ok (.goto 4, 3) := by decide +kernel
theorem dX11_isFraction_17 : decode cX11_isFraction 17 = .ok (.iload_n 1, 1) := by decide +kernel
theorem dX11_isFraction_18 : decode cX11_isFraction 18 = .ok (.iload_n 3, 1) := by decide +kernel
theorem dX11_isFraction_19 : decode cX11_isFraction 19 = .ok (.idiv, 1) := by decide +kernel
theorem dX11_isFraction_20 : decode cX11_isFraction 20 = .ok (.putfield 432, 3) := by decide +kernel
theorem dX11_isFraction_23 : decode cX11_isFraction 23 = .ok (.aload_n 0, 1) := by decide +kernel
theorem dX11_isFraction_24 : decode cX11_isFraction 24 = .ok (.iload_n 2, 1) := by decide +kernel
theorem dX11_isFraction_25 : decode cX11_isFraction 25 = .ok (.ifCond .ge 8, 3) := by decide +kernel
theorem dX11_isFraction_28 : decode cX11_isFraction 28 = .ok (.iload_n 2, 1) := by decide +kernel
theorem dX11_isFraction_29 : decode cX11_isFraction 29 = .ok (.ineg, 1) := by decide +kernel
theorem dX11_isFraction_30 : decode cX11_isFraction 30 = .ok (.goto 4, 3) := by decide +kernel
theorem dX11_isFraction_33 : decode cX11_isFraction 33 = .ok (.iload_n 2, 1) := by decide +kernel
theorem dX11_isFraction_34 : decode cX11_isFraction 34 = .ok (.iload_n 3, 1) := by decide +kernel
theorem dX11_isFraction_35 : decode cX11_isFraction 35 = .ok (.idiv, 1) := by decide +kernel
theorem dX11_isFraction_36 : decode cX11_isFraction 36 = .ok (.putfield 435, 3) := by decide +kernel
theorem dX11_isFraction_39 : decode cX11_isFraction 39 = .ok (.return_, 1) := by decide +kernel
theorem dX11_person_0 : decode cX11_person 0 = .ok (.aload_n 0, 1) := by decide +kernel
theorem dX11_person_1 : decode cX11_person 1 = .ok (.iconst 0, 1) := by decide +kernel
theorem dX11_person_2 : decode cX11_person 2 = .ok (.putfield 132, 3) := by decide +kernel
theorem dX11_person_5 : decode cX11_person 5 = .ok (.iload_n 1, 1) := by decide +kernel
theorem dX11_person_6 : decode cX11_person 6 = .ok (.bipush (-10), 2) := by decide +kernel
theorem dX11_person_8 : decode cX11_person 8 = .ok (.if_icmp .ne 10, 3) := by decide +kernel
theorem dX11_person_11 : decode cX11_person 11 = .ok (.aload_n 0, 1) := by decide +kernel
theorem dX11_person_12 : decode cX11_person 12 = .ok (.iconst 0, 1) := by decide +kernel
theorem dX11_person_13 : decode cX11_person 13 = .ok (.putfield 438, 3) := by decide +kernel
theorem dX11_person_16 : decode cX11_person 16 = .ok (.iconst 0, 1) := by decide +kernel
theorem dX11_person_17 : decode cX11_person 17 = .ok (.ireturn, 1) := by decide +kernel
theorem dX11_person_18 : decode cX11_person 18 = .ok (.iload_n 1, 1) := by decide +kernel
theorem dX11_person_19 : decode cX11_person 19 = .ok (.iconst (-1), 1) := by decide +kernel
theorem dX11_person_20 : decode cX11_person 20 = .ok (.if_icmp .ne 12, 3) := by decide +kernel
theorem dX11_person_23 : decode cX11_person 23 = .ok (.iload_n 2, 1) := by decide +kernel
theorem dX11_person_24 : decode cX11_person 24 = .ok (.iconst (-1), 1) := by decide +kernel
theorem dX11_person_25 : decode cX11_person 25 = .ok (.if_icmp .ne 7, 3) := by decide +kernel
theorem dX11_person_28 : decode cX11_person 28 = .ok (.iconst 1, 1) := by decide +kernel
theorem dX11_person_29 : decode cX11_person 29 = .ok (.goto 4, 3) := by decide +kernel
theorem dX11_person_32 : decode cX11_person 32 = .ok (.iconst 0, 1) := by decide +kernel
theorem dX11_person_33 : decode cX11_person 33 = .ok (.istore_n 3, 1) := by decide +kernel
theorem dX11_person_34 : decode cX11_person 34 = .ok (.iload_n 3, 1) := by decide +kernel
theorem dX11_person_35 : decode cX11_person 35 = .ok (.ifCond .ne 38, 3) := by decide +kernel
theorem dX11_person_38 : decode cX11_person 38 = .ok (.aload_n 0, 1) := by decide +kernel
theorem dX11_person_39 : decode cX11_person 39 = .ok (.iload_n 1, 1) := by decide +kernel
theorem dX11_person_40 : decode cX11_person 40 = .ok (.iconst 0, 1) := by decide +kernel
theorem dX11_person_41 : decode cX11_person 41 = .ok (.aload_n 0, 1) := by decide +kernel
theorem dX11_person_42 : decode cX11_person 42 = .ok (.getfield 438, 3) := by decide +kernel
theorem dX11_person_45 : decode cX11_person 45 = .ok (.iconst 1, 1) := by decide +kernel
theorem dX11_person_46 : decode cX11_person 46 = .ok (.isub, 1) := by decide +kernel
theorem dX11_person_47 : decode cX11_person 47 = .ok (.invokevirtual 147, 3) := by decide +kernel
theorem dX11_person_50 : decode cX11_person 50 = .ok (.ifCond .eq 32, 3) := by decide +kernel
theorem dX11_person_53 : decode cX11_person 53 = .ok (.aload_n 0, 1) := by decide +kernel
theorem dX11_person_54 : decode cX11_person 54 = .ok (.iload_n 2, 1) := by decide +kernel
theorem dX11_person_55 : decode cX11_person 55 = .ok (.iconst 0, 1) := by decide +kernel
theorem dX11_person_56 : decode cX11_person 56 = .ok (.aload_n 0, 1) := by decide +kernel
theorem dX11_person_57 : decode cX11_person 57 = .ok (.getfield 438, 3) := by decide +kernel
theorem dX11_person_60 : decode cX11_person 60 = .ok (.iconst 1, 1) := by decide +kernel
theorem dX11_person_61 : decode cX11_person 61 = .ok (.isub, 1) := by decide +kernel
theorem dX11_person_62 : decode cX11_person 62 = .ok (.invokevirtual 147, 3) := by decide +kernel
theorem dX11_person_65 : decode cX11_person 65 = .ok (.ifCond .eq 17, 3) := by decide +kernel
theorem dX11_person_68 : decode cX11_person 68 = .ok (.iload_n 1, 1) := by decide +kernel
theorem dX11_person_69 : decode cX11_person 69 = .ok (.iload_n 2, 1) := by decide +kernel
theorem dX11_person_70 : decode cX11_person 70 = .ok (.if_icmp .eq 12, 3) := by decide +kernel
theorem dX11_person_73 : decode cX11_person 73 = .ok (.aload_n 0, 1) := by decide +kernel
theorem dX11_person_74 : decode cX11_person 74 = .ok (.getfield 438, 3) := by decide +kernel
theorem dX11_person_77 : decode cX11_person 77 = .ok (.bipush 14, 2) := by decide +kernel
theorem dX11_person_79 : decode cX11_person 79 = .ok (.if_icmp .ne 5, 3) := by decide +kernel
theorem dX11_person_82 : decode cX11_person 82 = .ok (.iconst (-1), 1) := by decide +kernel
theorem dX11_person_83 : decode cX11_person 83 = .ok (.ireturn, 1) := by decide +kernel
theorem dX11_person_84 : decode cX11_person 84 = .ok (.aload_n 0, 1) := by decide +kernel
theorem dX11_person_85 : decode cX11_person 85 = .ok (.getfield 107, 3) := by decide +kernel
theorem dX11_person_88 : decode cX11_person 88 = .ok (.aload_n 0, 1) := by decide +kernel
theorem dX11_person_89 : decode cX11_person 89 = .ok (.getfield 438, 3) := by decide +kernel
theorem dX11_person_92 : decode cX11_person 92 = .ok (.iload_n 1, 1) := by decide +kernel
theorem dX11_person_93 : decode cX11_person 93 = .ok (.iconst 1, 1) := by decide +kernel
theorem dX11_person_94 : decode cX11_person 94 = .ok (.iadd, 1) := by decide +kernel
theorem dX11_person_95 : decode cX11_person 95 = .ok (.iastore, 1) := by decide +kernel
theorem dX11_person_96 : decode cX11_person 96 = .ok (.aload_n 0, 1) := by decide +kernel
theorem dX11_person_97 : decode cX11_person 97 = .ok (.getfield 110, 3) := by decide +kernel
theorem dX11_person_100 : decode cX11_person 100 = .ok (.aload_n 0, 1) := by decide +kernel
theorem dX11_person_101 : decode cX11_person 101 = .ok (.getfield 438, 3) := by decide +kernel
theorem dX11_person_104 : decode cX11_person 104 = .ok (.iload_n 2, 1) := by decide +kernel
theorem dX11_person_105 : decode cX11_person 105 = .ok (.iconst 1, 1) := by decide +kernel
theorem dX11_person_106 : decode cX11_person 106 = .ok (.iadd, 1) := by decide +kernel
theorem dX11_person_107 : decode cX11_person 107 = .ok (.iastore, 1) := by decide +kernel
theorem dX11_person_108 : decode cX11_person 108 = .ok (.aload_n 0, 1) := by decide +kernel
theorem dX11_person_109 : decode cX11_person 109 = .ok (.aload_n 0, 1) := by decide +kernel
theorem dX11_person_110 : decode cX11_person 110 = .ok (.getfield 438, 3) := by decide +kernel
theorem dX11_person_113 : decode cX11_person 113 = .ok (.iconst 1, 1) := by decide +kernel
theorem dX11_person_114 : decode cX11_person 114 = .ok (.iadd, 1) := by decide +kernel
theorem dX11_person_115 : decode cX11_person 115 = .ok (.putfield 438, 3) := by decide +kernel
theorem dX11_person_118 : decode cX11_person 118 = .ok (.aload_n 0, 1) := by decide +kernel
theorem dX11_person_119 : decode cX11_person 119 = .ok (.getfield 438, 3) := by decide +kernel
theorem dX11_person_122 : decode cX11_person 122 = .ok (.iconst 1, 1) := by decide +kernel
theorem dX11_person_123 : decode cX11_person 123 = .ok (.isub, 1) := by decide +kernel
theorem dX11_person_124 : decode cX11_person 124 = .ok (.ireturn, 1) := by decide +kernel
theorem dX11_findsAkin_0 : decode cX11_findsAkin 0 = .ok (.iconst 0, 1) := by decide +kernel
theorem dX11_findsAkin_1 : decode cX11_findsAkin 1 = .ok (.istore_n 1, 1) := by decide +kernel
theorem dX11_findsAkin_2 : decode cX11_findsAkin 2 = .ok (.iload_n 1, 1) := by decide +kernel
theorem dX11_findsAkin_3 : decode cX11_findsAkin 3 = .ok (.aload_n 0, 1) := by decide +kernel
theorem dX11_findsAkin_4 : decode cX11_findsAkin 4 = .ok (.getfield 438, 3) := by decide +kernel
theorem dX11_findsAkin_7 : decode cX11_findsAkin 7 = .ok (.if_icmp .ge 143, 3) := by decide +kernel
theorem dX11_findsAkin_10 : decode cX11_findsAkin 10 = .ok (.aload_n 0, 1) := by decide +kernel
theorem dX11_findsAkin_11 : decode cX11_findsAkin 11 = .ok (.getfield 107, 3) := by decide +kernel
theorem dX11_findsAkin_14 : decode cX11_findsAkin 14 = .ok (.iload_n 1, 1) := by decide +kernel
theorem dX11_findsAkin_15 : decode cX11_findsAkin 15 = .ok (.iaload, 1) := by decide +kernel
theorem dX11_findsAkin_16 : decode cX11_findsAkin 16 = .ok (.iconst 1, 1) := by decide +kernel
theorem dX11_findsAkin_17 : decode cX11_findsAkin 17 = .ok (.isub, 1) := by decide +kernel
theorem dX11_findsAkin_18 : decode cX11_findsAkin 18 = .ok (.istore_n 2, 1) := by decide +kernel
theorem dX11_findsAkin_19 : decode cX11_findsAkin 19 = .ok (.aload_n 0, 1) := by decide +kernel
theorem dX11_findsAkin_20 : decode cX11_findsAkin 20 = .ok (.getfield 110, 3) := by decide +kernel
theorem dX11_findsAkin_23 : decode cX11_findsAkin 23 = .ok (.iload_n 1, 1) := by decide +kernel
theorem dX11_findsAkin_24 : decode cX11_findsAkin 24 = .ok (.iaload, 1) := by decide +kernel
theorem dX11_findsAkin_25 : decode cX11_findsAkin 25 = .ok (.iconst 1, 1) := by decide +kernel
theorem dX11_findsAkin_26 : decode cX11_findsAkin 26 = .ok (.isub, 1) := by decide +kernel
theorem dX11_findsAkin_27 : decode cX11_findsAkin 27 = .ok (.istore_n 3, 1) := by decide +kernel
theorem dX11_findsAkin_28 : decode cX11_findsAkin 28 = .ok (.iconst 0, 1) := by decide +kernel
theorem dX11_findsAkin_29 : decode cX11_findsAkin 29 = .ok (.istore 4, 2) := by decide +kernel
theorem dX11_findsAkin_31 : decode cX11_findsAkin 31 = .ok (.iload 4, 2) := by decide +kernel
theorem dX11_findsAkin_33 : decode cX11_findsAkin 33 = .ok (.iload_n 1, 1) := by decide +kernel
theorem dX11_findsAkin_34 : decode cX11_findsAkin 34 = .ok (.if_icmp .ge 75, 3) := by decide +kernel
theorem dX11_findsAkin_37 : decode cX11_findsAkin 37 = .ok (.iload_n 2, 1) := by decide +kernel
theorem dX11_findsAkin_38 : decode cX11_findsAkin 38 = .ok (.iconst (-1), 1) := by decide +kernel
theorem dX11_findsAkin_39 : decode cX11_findsAkin 39 = .ok (.if_icmp .ne 7, 3) := by decide +kernel
theorem dX11_findsAkin_42 : decode cX11_findsAkin 42 = .ok (.iconst 0, 1) := by decide +kernel
theorem dX11_findsAkin_43 : decode cX11_findsAkin 43 = .ok (.goto 30, 3) := by decide +kernel
theorem dX11_findsAkin_46 : decode cX11_findsAkin 46 = .ok (.aload_n 0, 1) := by decide +kernel
theorem dX11_findsAkin_47 : decode cX11_findsAkin 47 = .ok (.getfield 113, 3) := by decide +kernel
theorem dX11_findsAkin_50 : decode cX11_findsAkin 50 = .ok (.bipush 14, 2) := by decide +kernel
theorem dX11_findsAkin_52 : decode cX11_findsAkin 52 = .ok (.iload_n 2, 1) := by decide +kernel
theorem dX11_findsAkin_53 : decode cX11_findsAkin 53 = .ok (.imul, 1) := by decide +kernel
theorem dX11_findsAkin_54 : decode cX11_findsAkin 54 = .ok (.iload 4, 2) := by decide +kernel
theorem dX11_findsAkin_56 : decode cX11_findsAkin 56 = .ok (.iadd, 1) := by decide +kernel
theorem dX11_findsAkin_57 : decode cX11_findsAkin 57 = .ok (.iaload, 1) := by decide +kernel
theorem dX11_findsAkin_58 : decode cX11_findsAkin 58 = .ok (.aload_n 0, 1) := by decide +kernel
theorem dX11_findsAkin_59 : decode cX11_findsAkin 59 = .ok (.getfield 113, 3) := by decide +kernel
theorem dX11_findsAkin_62 : decode cX11_findsAkin 62 = .ok (.bipush 14, 2) := by decide +kernel
theorem dX11_findsAkin_64 : decode cX11_findsAkin 64 = .ok (.iload_n 3, 1) := by decide +kernel
theorem dX11_findsAkin_65 : decode cX11_findsAkin 65 = .ok (.imul, 1) := by decide +kernel
theorem dX11_findsAkin_66 : decode cX11_findsAkin 66 = .ok (.iload 4, 2) := by decide +kernel
theorem dX11_findsAkin_68 : decode cX11_findsAkin 68 = .ok (.iadd, 1) := by decide +kernel
theorem dX11_findsAkin_69 : decode cX11_findsAkin 69 = .ok (.iaload, 1) := by decide +kernel
theorem dX11_findsAkin_70 : decode cX11_findsAkin 70 = .ok (.iadd, 1) := by decide +kernel
theorem dX11_findsAkin_71 : decode cX11_findsAkin 71 = .ok (.iconst 2, 1) := by decide +kernel
theorem dX11_findsAkin_72 : decode cX11_findsAkin 72 = .ok (.idiv, 1) := by decide +kernel
theorem dX11_findsAkin_73 : decode cX11_findsAkin 73 = .ok (.istore 5, 2) := by decide +kernel
theorem dX11_findsAkin_75 : decode cX11_findsAkin 75 = .ok (.aload_n 0, 1) := by decide +kernel
theorem dX11_findsAkin_76 : decode cX11_findsAkin 76 = .ok (.getfield 113, 3) := by decide +kernel
theorem dX11_findsAkin_79 : decode cX11_findsAkin 79 = .ok (.bipush 14, 2) := by decide +kernel
theorem dX11_findsAkin_81 : decode cX11_findsAkin 81 = .ok (.iload_n 1, 1) := by decide +kernel
theorem dX11_findsAkin_82 : decode cX11_findsAkin 82 = .ok (.imul, 1) := by decide +kernel
theorem dX11_findsAkin_83 : decode cX11_findsAkin 83 = .ok (.iload 4, 2) := by decide +kernel
theorem dX11_findsAkin_85 : decode cX11_findsAkin 85 = .ok (.iadd, 1) := by decide +kernel
theorem dX11_findsAkin_86 : decode cX11_findsAkin 86 = .ok (.iload 5, 2) := by decide +kernel
theorem dX11_findsAkin_88 : decode cX11_findsAkin 88 = .ok (.iastore, 1) := by decide +kernel
theorem dX11_findsAkin_89 : decode cX11_findsAkin 89 = .ok (.aload_n 0, 1) := by decide +kernel
theorem dX11_findsAkin_90 : decode cX11_findsAkin 90 = .ok (.getfield 113, 3) := by decide +kernel
theorem dX11_findsAkin_93 : decode cX11_findsAkin 93 = .ok (.bipush 14, 2) := by decide +kernel
theorem dX11_findsAkin_95 : decode cX11_findsAkin 95 = .ok (.iload 4, 2) := by decide +kernel
theorem dX11_findsAkin_97 : decode cX11_findsAkin 97 = .ok (.imul, 1) := by decide +kernel
theorem dX11_findsAkin_98 : decode cX11_findsAkin 98 = .ok (.iload_n 1, 1) := by decide +kernel
theorem dX11_findsAkin_99 : decode cX11_findsAkin 99 = .ok (.iadd, 1) := by decide +kernel
theorem dX11_findsAkin_100 : decode cX11_findsAkin 100 = .ok (.iload 5, 2) := by decide +kernel
theorem dX11_findsAkin_102 : decode cX11_findsAkin 102 = .ok (.iastore, 1) := by decide +kernel
theorem dX11_findsAkin_103 : decode cX11_findsAkin 103 = .ok (.iinc 4 1, 3) := by decide +kernel
theorem dX11_findsAkin_106 : decode cX11_findsAkin 106 = .ok (.goto (-75), 3) := by decide +kernel
theorem dX11_findsAkin_109 : decode cX11_findsAkin 109 = .ok (.aload_n 0, 1) := by decide +kernel
theorem dX11_findsAkin_110 : decode cX11_findsAkin 110 = .ok (.getfield 113, 3) := by decide +kernel
theorem dX11_findsAkin_113 : decode cX11_findsAkin 113 = .ok (.bipush 15, 2) := by decide +kernel
theorem dX11_findsAkin_115 : decode cX11_findsAkin 115 = .ok (.iload_n 1, 1) := by decide +kernel
theorem dX11_findsAkin_116 : decode cX11_findsAkin 116 = .ok (.imul, 1) := by decide +kernel
theorem dX11_findsAkin_117 : decode cX11_findsAkin 117 = .ok (.ldc_w 441, 3) := by decide +kernel
theorem dX11_findsAkin_120 : decode cX11_findsAkin 120 = .ok (.iload_n 2, 1) := by decide +kernel
theorem dX11_findsAkin_121 : decode cX11_findsAkin 121 = .ok (.iconst (-1), 1) := by decide +kernel
theorem dX11_findsAkin_122 : decode cX11_findsAkin 122 = .ok (.if_icmp .ne 7, 3) := by decide +kernel
theorem dX11_findsAkin_125 : decode cX11_findsAkin 125 = .ok (.iconst 0, 1) := by decide +kernel
theorem dX11_findsAkin_126 : decode cX11_findsAkin 126 = .ok (.goto 16, 3) := by decide +kernel
theorem dX11_findsAkin_129 : decode cX11_findsAkin 129 = .ok (.aload_n 0, 1) := by decide +kernel
theorem dX11_findsAkin_130 : decode cX11_findsAkin 130 = .ok (.getfield 113, 3) := by decide +kernel
theorem dX11_findsAkin_133 : decode cX11_findsAkin 133 = .ok (.bipush 14, 2) := by decide +kernel
theorem dX11_findsAkin_135 : decode cX11_findsAkin 135 = .ok (.iload_n 2, 1) := by decide +kernel
theorem dX11_findsAkin_136 : decode cX11_findsAkin 136 = .ok (.imul, 1) := by decide +kernel
theorem dX11_findsAkin_137 : decode cX11_findsAkin 137 = .ok (.iload_n 3, 1) := by decide +kernel
theorem dX11_findsAkin_138 : decode cX11_findsAkin 138 = .ok (.iadd, 1) := by decide +kernel
theorem dX11_findsAkin_139 : decode cX11_findsAkin 139 = .ok (.iaload, 1) := by decide +kernel
theorem dX11_findsAkin_140 : decode cX11_findsAkin 140 = .ok (.iconst 2, 1) := by decide +kernel
theorem dX11_findsAkin_141 : decode cX11_findsAkin 141 = .ok (.idiv, 1) := by decide +kernel
theorem dX11_findsAkin_142 : decode cX11_findsAkin 142 = .ok (.iadd, 1) := by decide +kernel
theorem dX11_findsAkin_143 : decode cX11_findsAkin 143 = .ok (.iastore, 1) := by decide +kernel
theorem dX11_findsAkin_144 : decode cX11_findsAkin 144 = .ok (.iinc 1 1, 3) := by decide +kernel
theorem dX11_findsAkin_147 : decode cX11_findsAkin 147 = .ok (.goto (-145), 3) := by decide +kernel
theorem dX11_findsAkin_150 : decode cX11_findsAkin 150 = .ok (.return_, 1) := by decide +kernel
theorem dX11_akin_0 : decode cX11_akin 0 = .ok (.aload_n 0, 1) := by decide +kernel
theorem dX11_akin_1 : decode cX11_akin 1 = .ok (.iconst 0, 1) := by decide +kernel
theorem dX11_akin_2 : decode cX11_akin 2 = .ok (.putfield 132, 3) := by decide +kernel
theorem dX11_akin_5 : decode cX11_akin 5 = .ok (.aload_n 0, 1) := by decide +kernel
theorem dX11_akin_6 : decode cX11_akin 6 = .ok (.iload_n 1, 1) := by decide +kernel
theorem dX11_akin_7 : decode cX11_akin 7 = .ok (.iconst 0, 1) := by decide +kernel
theorem dX11_akin_8 : decode cX11_akin 8 = .ok (.aload_n 0, 1) := by decide +kernel
theorem dX11_akin_9 : decode cX11_akin 9 = .ok (.getfield 438, 3) := by decide +kernel
theorem dX11_akin_12 : decode cX11_akin 12 = .ok (.iconst 1, 1) := by decide +kernel
theorem dX11_akin_13 : decode cX11_akin 13 = .ok (.isub, 1) := by decide +kernel
theorem dX11_akin_14 : decode cX11_akin 14 = .ok (.invokevirtual 147, 3) := by decide +kernel
theorem dX11_akin_17 : decode cX11_akin 17 = .ok (.ifCond .eq 28, 3) := by decide +kernel
theorem dX11_akin_20 : decode cX11_akin 20 = .ok (.aload_n 0, 1) := by decide +kernel
theorem dX11_akin_21 : decode cX11_akin 21 = .ok (.iload_n 2, 1) := by decide +kernel
theorem dX11_akin_22 : decode cX11_akin 22 = .ok (.iconst 0, 1) := by decide +kernel
theorem dX11_akin_23 : decode cX11_akin 23 = .ok (.aload_n 0, 1) := by decide +kernel
theorem dX11_akin_24 : decode cX11_akin 24 = .ok (.getfield 438, 3) := by decide +kernel
theorem dX11_akin_27 : decode cX11_akin 27 = .ok (.iconst 1, 1) := by decide +kernel
theorem dX11_akin_28 : decode cX11_akin 28 = .ok (.isub, 1) := by decide +kernel
theorem dX11_akin_29 : decode cX11_akin 29 = .ok (.invokevirtual 147, 3) := by decide +kernel
theorem dX11_akin_32 : decode cX11_akin 32 = .ok (.ifCond .eq 13, 3) := by decide +kernel
theorem dX11_akin_35 : decode cX11_akin 35 = .ok (.aload_n 0, 1) := by decide +kernel
theorem dX11_akin_36 : decode cX11_akin 36 = .ok (.iload_n 3, 1) := by decide +kernel
theorem dX11_akin_37 : decode cX11_akin 37 = .ok (.iconst 0, 1) := by decide +kernel
theorem dX11_akin_38 : decode cX11_akin 38 = .ok (.iconst 1, 1) := by decide +kernel
theorem dX11_akin_39 : decode cX11_akin 39 = .ok (.invokevirtual 147, 3) := by decide +kernel
theorem dX11_akin_42 : decode cX11_akin 42 = .ok (.ifCond .ne 5, 3) := by decide +kernel
theorem dX11_akin_45 : decode cX11_akin 45 = .ok (.iconst (-1), 1) := by decide +kernel
theorem dX11_akin_46 : decode cX11_akin 46 = .ok (.ireturn, 1) := by decide +kernel
theorem dX11_akin_47 : decode cX11_akin 47 = .ok (.aload_n 0, 1) := by decide +kernel
theorem dX11_akin_48 : decode cX11_akin 48 = .ok (.invokevirtual 442, 3) := by decide +kernel
theorem dX11_akin_51 : decode cX11_akin 51 = .ok (.aload_n 0, 1) := by decide +kernel
theorem dX11_akin_52 : decode cX11_akin 52 = .ok (.aload_n 0, 1) := by decide +kernel
theorem dX11_akin_53 : decode cX11_akin 53 = .ok (.getfield 113, 3) := by decide +kernel
theorem dX11_akin_56 : decode cX11_akin 56 = .ok (.bipush 14, 2) := by decide +kernel
theorem dX11_akin_58 : decode cX11_akin 58 = .ok (.iload_n 1, 1) := by decide +kernel
theorem dX11_akin_59 : decode cX11_akin 59 = .ok (.imul, 1) := by decide +kernel
theorem dX11_akin_60 : decode cX11_akin 60 = .ok (.iload_n 2, 1) := by decide +kernel
theorem dX11_akin_61 : decode cX11_akin 61 = .ok (.iadd, 1) := by decide +kernel
theorem dX11_akin_62 : decode cX11_akin 62 = .ok (.iaload, 1) := by decide +kernel
theorem dX11_akin_63 : decode cX11_akin 63 = .ok (.ldc_w 445, 3) := by decide +kernel
theorem dX11_akin_66 : decode cX11_akin 66 = .ok (.invokevirtual 446, 3) := by decide +kernel
theorem dX11_akin_69 : decode cX11_akin 69 = .ok (.iload_n 3, 1) := by decide +kernel
theorem dX11_akin_70 : decode cX11_akin 70 = .ok (.ifCond .ne 10, 3) := by decide +kernel
theorem dX11_akin_73 : decode cX11_akin 73 = .ok (.aload_n 0, 1) := by decide +kernel
theorem dX11_akin_74 : decode cX11_akin 74 = .ok (.getfield 432, 3) := by decide +kernel
theorem dX11_akin_77 : decode cX11_akin 77 = .ok (.goto 7, 3) := by decide +kernel
theorem dX11_akin_80 : decode cX11_akin 80 = .ok (.aload_n 0, 1) := by decide +kernel
theorem dX11_akin_81 : decode cX11_akin 81 = .ok (.getfield 435, 3) := by decide +kernel
theorem dX11_akin_84 : decode cX11_akin 84 = .ok (.ireturn, 1) := by decide +kernel
theorem dX11_power_0 : decode cX11_power 0 = .ok (.iconst 1, 1) := by decide +kernel
theorem dX11_power_1 : decode cX11_power 1 = .ok (.istore_n 3, 1) := by decide +kernel
theorem dX11_power_2 : decode cX11_power 2 = .ok (.iconst 0, 1) := by decide +kernel
theorem dX11_power_3 : decode cX11_power 3 = .ok (.istore 4, 2) := by decide +kernel
theorem dX11_power_5 : decode cX11_power 5 = .ok (.iload 4, 2) := by decide +kernel
theorem dX11_power_7 : decode cX11_power 7 = .ok (.iload_n 2, 1) := by decide +kernel
theorem dX11_power_8 : decode cX11_power 8 = .ok (.if_icmp .ge 13, 3) := by decide +kernel
theorem dX11_power_11 : decode cX11_power 11 = .ok (.iload_n 3, 1) := by decide +kernel
theorem dX11_power_12 : decode cX11_power 12 = .ok (.iload_n 1, 1) := by decide +kernel
theorem dX11_power_13 : decode cX11_power 13 = .ok (.imul, 1) := by decide +kernel
theorem dX11_power_14 : decode cX11_power 14 = .ok (.istore_n 3, 1) := by decide +kernel
theorem dX11_power_15 : decode cX11_power 15 = .ok (.iinc 4 1, 3) := by decide +kernel
theorem dX11_power_18 : decode cX11_power 18 = .ok (.goto (-13), 3) := by decide +kernel
theorem dX11_power_21 : decode cX11_power 21 = .ok (.iload_n 3, 1) := by decide +kernel
theorem dX11_power_22 : decode cX11_power 22 = .ok (.ireturn, 1) := by decide +kernel
theorem dX11_home_0 : decode cX11_home 0 = .ok (.aload_n 0, 1) := by decide +kernel
theorem dX11_home_1 : decode cX11_home 1 = .ok (.iconst 0, 1) := by decide +kernel
theorem dX11_home_2 : decode cX11_home 2 = .ok (.putfield 132, 3) := by decide +kernel
theorem dX11_home_5 : decode cX11_home 5 = .ok (.iload_n 3, 1) := by decide +kernel
theorem dX11_home_6 : decode cX11_home 6 = .ok (.bipush 10, 2) := by decide +kernel
theorem dX11_home_8 : decode cX11_home 8 = .ok (.idiv, 1) := by decide +kernel
theorem dX11_home_9 : decode cX11_home 9 = .ok (.istore 5, 2) := by decide +kernel
theorem dX11_home_11 : decode cX11_home 11 = .ok (.iload_n 3, 1) := by decide +kernel
theorem dX11_home_12 : decode cX11_home 12 = .ok (.bipush 10, 2) := by decide +kernel
theorem dX11_home_14 : decode cX11_home 14 = .ok (.irem, 1) := by decide +kernel
theorem dX11_home_15 : decode cX11_home 15 = .ok (.istore 6, 2) := by decide +kernel
theorem dX11_home_17 : decode cX11_home 17 = .ok (.aload_n 0, 1) := by decide +kernel
theorem dX11_home_18 : decode cX11_home 18 = .ok (.iload_n 2, 1) := by decide +kernel
theorem dX11_home_19 : decode cX11_home 19 = .ok (.iconst 1, 1) := by decide +kernel
theorem dX11_home_20 : decode cX11_home 20 = .ok (.bipush 8, 2) := by decide +kernel
theorem dX11_home_22 : decode cX11_home 22 = .ok (.invokevirtual 147, 3) := by decide +kernel
theorem dX11_home_25 : decode cX11_home 25 = .ok (.ifCond .eq 55, 3) := by decide +kernel
theorem dX11_home_28 : decode cX11_home 28 = .ok (.aload_n 0, 1) := by decide +kernel
theorem dX11_home_29 : decode cX11_home 29 = .ok (.iload_n 1, 1) := by decide +kernel
theorem dX11_home_30 : decode cX11_home 30 = .ok (.iconst 0, 1) := by decide +kernel
theorem dX11_home_31 : decode cX11_home 31 = .ok (.iload_n 2, 1) := by decide +kernel
theorem dX11_home_32 : decode cX11_home 32 = .ok (.invokevirtual 147, 3) := by decide +kernel
theorem dX11_home_35 : decode cX11_home 35 = .ok (.ifCond .eq 45, 3) := by decide +kernel
theorem dX11_home_38 : decode cX11_home 38 = .ok (.aload_n 0, 1) := by decide +kernel
theorem dX11_home_39 : decode cX11_home 39 = .ok (.iload_n 3, 1) := by decide +kernel
theorem dX11_home_40 : decode cX11_home 40 = .ok (.bipush 12, 2) := by decide +kernel
theorem dX11_home_42 : decode cX11_home 42 = .ok (.bipush 56, 2) := by decide +kernel
theorem dX11_home_44 : decode cX11_home 44 = .ok (.invokevirtual 147, 3) := by decide +kernel
theorem dX11_home_47 : decode cX11_home 47 = .ok (.ifCond .eq 33, 3) := by decide +kernel
theorem dX11_home_50 : decode cX11_home 50 = .ok (.aload_n 0, 1) := by decide +kernel
theorem dX11_home_51 : decode cX11_home 51 = .ok (.iload 6, 2) := by decide +kernel
theorem dX11_home_53 : decode cX11_home 53 = .ok (.iconst 2, 1) := by decide +kernel
theorem dX11_home_54 : decode cX11_home 54 = .ok (.bipush 6, 2) := by decide +kernel
theorem dX11_home_56 : decode cX11_home 56 = .ok (.invokevirtual 147, 3) := by decide +kernel
theorem dX11_home_59 : decode cX11_home 59 = .ok (.ifCond .eq 21, 3) := by decide +kernel
theorem dX11_home_62 : decode cX11_home 62 = .ok (.iload 5, 2) := by decide +kernel
theorem dX11_home_64 : decode cX11_home 64 = .ok (.iload 6, 2) := by decide +kernel
theorem dX11_home_66 : decode cX11_home 66 = .ok (.if_icmp .ge 14, 3) := by decide +kernel
theorem dX11_home_69 : decode cX11_home 69 = .ok (.aload_n 0, 1) := by decide +kernel
theorem dX11_home_70 : decode cX11_home 70 = .ok (.iload 4, 2) := by decide +kernel
theorem dX11_home_72 : decode cX11_home 72 = .ok (.iconst 0, 1) := by decide +kernel
theorem dX11_home_73 : decode cX11_home 73 = .ok (.iconst 1, 1) := by decide +kernel
theorem dX11_home_74 : decode cX11_home 74 = .ok (.invokevirtual 147, 3) := by decide +kernel
theorem dX11_home_77 : decode cX11_home 77 = .ok (.ifCond .ne 5, 3) := by decide +kernel
theorem dX11_home_80 : decode cX11_home 80 = .ok (.iconst (-1), 1) := by decide +kernel
theorem dX11_home_81 : decode cX11_home 81 = .ok (.ireturn, 1) := by decide +kernel
theorem dX11_home_82 : decode cX11_home 82 = .ok (.iload 6, 2) := by decide +kernel
theorem dX11_home_84 : decode cX11_home 84 = .ok (.iload 5, 2) := by decide +kernel
theorem dX11_home_86 : decode cX11_home 86 = .ok (.isub, 1) := by decide +kernel
theorem dX11_home_87 : decode cX11_home 87 = .ok (.istore 7, 2) := by decide +kernel
theorem dX11_home_89 : decode cX11_home 89 = .ok (.iload 5, 2) := by decide +kernel
theorem dX11_home_91 : decode cX11_home 91 = .ok (.iload 7, 2) := by decide +kernel
theorem dX11_home_93 : decode cX11_home 93 = .ok (.if_icmp .ne 12, 3) := by decide +kernel
theorem dX11_home_96 : decode cX11_home 96 = .ok (.aload_n 0, 1) := by decide +kernel
theorem dX11_home_97 : decode cX11_home 97 = .ok (.iload_n 1, 1) := by decide +kernel
theorem dX11_home_98 : decode cX11_home 98 = .ok (.iload_n 2, 1) := by decide +kernel
theorem dX11_home_99 : decode cX11_home 99 = .ok (.invokevirtual 446, 3) := by decide +kernel
theorem dX11_home_102 : decode cX11_home 102 = .ok (.goto 47, 3) := by decide +kernel
theorem dX11_home_105 : decode cX11_home 105 = .ok (.aload_n 0, 1) := by decide +kernel
theorem dX11_home_106 : decode cX11_home 106 = .ok (.aload_n 0, 1) := by decide +kernel
theorem dX11_home_107 : decode cX11_home 107 = .ok (.iload 5, 2) := by decide +kernel
theorem dX11_home_109 : decode cX11_home 109 = .ok (.iload_n 2, 1) := by decide +kernel
theorem dX11_home_110 : decode cX11_home 110 = .ok (.iload_n 1, 1) := by decide +kernel
theorem dX11_home_111 : decode cX11_home 111 = .ok (.isub, 1) := by decide +kernel
theorem dX11_home_112 : decode cX11_home 112 = .ok (.invokevirtual 449, 3) := by decide +kernel
theorem dX11_home_115 : decode cX11_home 115 = .ok (.aload_n 0, 1) := by decide +kernel
theorem dX11_home_116 : decode cX11_home 116 = .ok (.iload 5, 2) := by decide +kernel
theorem dX11_home_118 : decode cX11_home 118 = .ok (.iload_n 1, 1) := by decide +kernel
theorem dX11_home_119 : decode cX11_home 119 = .ok (.invokevirtual 449, 3) := by decide +kernel
theorem dX11_home_122 : decode cX11_home 122 = .ok (.aload_n 0, 1) := by decide +kernel
theorem dX11_home_123 : decode cX11_home 123 = .ok (.iload 7, 2) := by decide +kernel
theorem dX11_home_125 : decode cX11_home 125 = .ok (.iload_n 1, 1) := by decide +kernel
theorem dX11_home_126 : decode cX11_home 126 = .ok (.invokevirtual 449, 3) := by decide +kernel
theorem dX11_home_129 : decode cX11_home 129 = .ok (.isub, 1) := by decide +kernel
theorem dX11_home_130 : decode cX11_home 130 = .ok (.imul, 1) := by decide +kernel
theorem dX11_home_131 : decode cX11_home 131 = .ok (.aload_n 0, 1) := by decide +kernel
theorem dX11_home_132 : decode cX11_home 132 = .ok (.iload 5, 2) := by decide +kernel
theorem dX11_home_134 : decode cX11_home 134 = .ok (.iload_n 2, 1) := by decide +kernel
theorem dX11_home_135 : decode cX11_home 135 = .ok (.invokevirtual 449, 3) := by decide +kernel
theorem dX11_home_138 : decode cX11_home 138 = .ok (.aload_n 0, 1) := by decide +kernel
theorem dX11_home_139 : decode cX11_home 139 = .ok (.iload 7, 2) := by decide +kernel
theorem dX11_home_141 : decode cX11_home 141 = .ok (.iload_n 2, 1) := by decide +kernel
theorem dX11_home_142 : decode cX11_home 142 = .ok (.invokevirtual 449, 3) := by decide +kernel
theorem dX11_home_145 : decode cX11_home 145 = .ok (.isub, 1) := by decide +kernel
theorem dX11_home_146 : decode cX11_home 146 = .ok (.invokevirtual 446, 3) := by decide +kernel
theorem dX11_home_149 : decode cX11_home 149 = .ok (.iload 4, 2) := by decide +kernel
theorem dX11_home_151 : decode cX11_home 151 = .ok (.ifCond .ne 10, 3) := by decide +kernel
theorem dX11_home_154 : decode cX11_home 154 = .ok (.aload_n 0, 1) := by decide +kernel
theorem dX11_home_155 : decode cX11_home 155 = .ok (.getfield 432, 3) := by decide +kernel
theorem dX11_home_158 : decode cX11_home 158 = .ok (.goto 7, 3) := by decide +kernel
theorem dX11_home_161 : decode cX11_home 161 = .ok (.aload_n 0, 1) := by decide +kernel
theorem dX11_home_162 : decode cX11_home 162 = .ok (.getfield 435, 3) := by decide +kernel
theorem dX11_home_165 : decode cX11_home 165 = .ok (.ireturn, 1) := by decide +kernel
theorem dX11_streets_0 : decode cX11_streets 0 = .ok (.aload_n 0, 1) := by decide +kernel
theorem dX11_streets_1 : decode cX11_streets 1 = .ok (.iconst 0, 1) := by decide +kernel
theorem dX11_streets_2 : decode cX11_streets 2 = .ok (.putfield 132, 3) := by decide +kernel
theorem dX11_streets_5 : decode cX11_streets 5 = .ok (.aload_n 0, 1) := by decide +kernel
theorem dX11_streets_6 : decode cX11_streets 6 = .ok (.iload_n 1, 1) := by decide +kernel
theorem dX11_streets_7 : decode cX11_streets 7 = .ok (.iconst 1, 1) := by decide +kernel
theorem dX11_streets_8 : decode cX11_streets 8 = .ok (.bipush 12, 2) := by decide +kernel
theorem dX11_streets_10 : decode cX11_streets 10 = .ok (.invokevirtual 147, 3) := by decide +kernel
theorem dX11_streets_13 : decode cX11_streets 13 = .ok (.ifCond .eq 23, 3) := by decide +kernel
theorem dX11_streets_16 : decode cX11_streets 16 = .ok (.aload_n 0, 1) := by decide +kernel
theorem dX11_streets_17 : decode cX11_streets 17 = .ok (.iload_n 2, 1) := by decide +kernel
theorem dX11_streets_18 : decode cX11_streets 18 = .ok (.iconst 1, 1) := by decide +kernel
theorem dX11_streets_19 : decode cX11_streets 19 = .ok (.iconst 4, 1) := by decide +kernel
theorem dX11_streets_20 : decode cX11_streets 20 = .ok (.invokevirtual 147, 3) := by decide +kernel
theorem dX11_streets_23 : decode cX11_streets 23 = .ok (.ifCond .eq 13, 3) := by decide +kernel
theorem dX11_streets_26 : decode cX11_streets 26 = .ok (.aload_n 0, 1) := by decide +kernel
theorem dX11_streets_27 : decode cX11_streets 27 = .ok (.iload_n 3, 1) := by decide +kernel
theorem dX11_streets_28 : decode cX11_streets 28 = .ok (.iconst 0, 1) := by decide +kernel
theorem dX11_streets_29 : decode cX11_streets 29 = .ok (.iconst 1, 1) := by decide +kernel
theorem dX11_streets_30 : decode cX11_streets 30 = .ok (.invokevirtual 147, 3) := by decide +kernel
theorem dX11_streets_33 : decode cX11_streets 33 = .ok (.ifCond .ne 5, 3) := by decide +kernel
theorem dX11_streets_36 : decode cX11_streets 36 = .ok (.iconst (-1), 1) := by decide +kernel
theorem dX11_streets_37 : decode cX11_streets 37 = .ok (.ireturn, 1) := by decide +kernel
theorem dX11_streets_38 : decode cX11_streets 38 = .ok (.iconst 0, 1) := by decide +kernel
theorem dX11_streets_39 : decode cX11_streets 39 = .ok (.istore 4, 2) := by decide +kernel
theorem dX11_streets_41 : decode cX11_streets 41 = .ok (.iconst 1, 1) := by decide +kernel
theorem dX11_streets_42 : decode cX11_streets 42 = .ok (.istore 5, 2) := by decide +kernel
theorem dX11_streets_44 : decode cX11_streets 44 = .ok (.iload 5, 2) := by decide +kernel
theorem dX11_streets_46 : decode cX11_streets 46 = .ok (.iload_n 1, 1) := by decide +kernel
theorem dX11_streets_47 : decode cX11_streets 47 = .ok (.if_icmp .gt 26, 3) := by decide +kernel
theorem dX11_streets_50 : decode cX11_streets 50 = .ok (.iload 4, 2) := by decide +kernel
theorem dX11_streets_52 : decode cX11_streets 52 = .ok (.aload_n 0, 1) := by decide +kernel
theorem dX11_streets_53 : decode cX11_streets 53 = .ok (.iload_n 2, 1) := by decide +kernel
theorem dX11_streets_54 : decode cX11_streets 54 = .ok (.aload_n 0, 1) := by decide +kernel
theorem dX11_streets_55 : decode cX11_streets 55 = .ok (.iload 5, 2) := by decide +kernel
theorem dX11_streets_57 : decode cX11_streets 57 = .ok (.iload_n 1, 1) := by decide +kernel
theorem dX11_streets_58 : decode cX11_streets 58 = .ok (.invokevirtual 429, 3) := by decide +kernel
theorem dX11_streets_61 : decode cX11_streets 61 = .ok (.invokevirtual 449, 3) := by decide +kernel
theorem dX11_streets_64 : decode cX11_streets 64 = .ok (.iadd, 1) := by decide +kernel
theorem dX11_streets_65 : decode cX11_streets 65 = .ok (.istore 4, 2) := by decide +kernel
theorem dX11_streets_67 : decode cX11_streets 67 = .ok (.iinc 5 1, 3) := by decide +kernel
theorem dX11_streets_70 : decode cX11_streets 70 = .ok (.goto (-26), 3) := by decide +kernel
theorem dX11_streets_73 : decode cX11_streets 73 = .ok (.iload_n 3, 1) := by decide +kernel
theorem dX11_streets_74 : decode cX11_streets 74 = .ok (.ifCond .ne 8, 3) := by decide +kernel
theorem dX11_streets_77 : decode cX11_streets 77 = .ok (.iload 4, 2) := by decide +kernel
theorem dX11_streets_79 : decode cX11_streets 79 = .ok (.iload_n 1, 1) := by decide +kernel
theorem dX11_streets_80 : decode cX11_streets 80 = .ok (.idiv, 1) := by decide +kernel
theorem dX11_streets_81 : decode cX11_streets 81 = .ok (.ireturn, 1) := by decide +kernel
theorem dX11_streets_82 : decode cX11_streets 82 = .ok (.iload_n 1, 1) := by decide +kernel
theorem dX11_streets_83 : decode cX11_streets 83 = .ok (.iconst 2, 1) := by decide +kernel
theorem dX11_streets_84 : decode cX11_streets 84 = .ok (.irem, 1) := by decide +kernel
theorem dX11_streets_85 : decode cX11_streets 85 = .ok (.iconst 1, 1) := by decide +kernel
theorem dX11_streets_86 : decode cX11_streets 86 = .ok (.if_icmp .ne 18, 3) := by decide +kernel
theorem dX11_streets_89 : decode cX11_streets 89 = .ok (.iload_n 1, 1) := by decide +kernel
theorem dX11_streets_90 : decode cX11_streets 90 = .ok (.aload_n 0, 1) := by decide +kernel
theorem dX11_streets_91 : decode cX11_streets 91 = .ok (.iload_n 2, 1) := by decide +kernel
theorem dX11_streets_92 : decode cX11_streets 92 = .ok (.iload_n 1, 1) := by decide +kernel
theorem dX11_streets_93 : decode cX11_streets 93 = .ok (.iconst 1, 1) := by decide +kernel
theorem dX11_streets_94 : decode cX11_streets 94 = .ok (.iadd, 1) := by decide +kernel
theorem dX11_streets_95 : decode cX11_streets 95 = .ok (.iconst 2, 1) := by decide +kernel
theorem dX11_streets_96 : decode cX11_streets 96 = .ok (.idiv, 1) := by decide +kernel
theorem dX11_streets_97 : decode cX11_streets 97 = .ok (.invokevirtual 449, 3) := by decide +kernel
theorem dX11_streets_100 : decode cX11_streets 100 = .ok (.imul, 1) := by decide +kernel
theorem dX11_streets_101 : decode cX11_streets 101 = .ok (.goto 26, 3) := by decide +kernel
theorem dX11_streets_104 : decode cX11_streets 104 = .ok (.iload_n 1, 1) := by decide +kernel
theorem dX11_streets_105 : decode cX11_streets 105 = .ok (.iconst 2, 1) := by decide +kernel
theorem dX11_streets_106 : decode cX11_streets 106 = .ok (.idiv, 1) := by decide +kernel
theorem dX11_streets_107 : decode cX11_streets 107 = .ok (.aload_n 0, 1) := by decide +kernel
theorem dX11_streets_108 : decode cX11_streets 108 = .ok (.iload_n 2, 1) := by decide +kernel
theorem dX11_streets_109 : decode cX11_streets 109 = .ok (.iload_n 1, 1) := by decide +kernel
theorem dX11_streets_110 : decode cX11_streets 110 = .ok (.iconst 2, 1) := by decide +kernel
theorem dX11_streets_111 : decode cX11_streets 111 = .ok (.idiv, 1) := by decide +kernel
theorem dX11_streets_112 : decode cX11_streets 112 = .ok (.invokevirtual 449, 3) := by decide +kernel
theorem dX11_streets_115 : decode cX11_streets 115 = .ok (.aload_n 0, 1) := by decide +kernel
theorem dX11_streets_116 : decode cX11_streets 116 = .ok (.iload_n 2, 1) := by decide +kernel
theorem dX11_streets_117 : decode cX11_streets 117 = .ok (.iload_n 1, 1) := by decide +kernel
theorem dX11_streets_118 : decode cX11_streets 118 = .ok (.iconst 2, 1) := by decide +kernel
theorem dX11_streets_119 : decode cX11_streets 119 = .ok (.idiv, 1) := by decide +kernel
theorem dX11_streets_120 : decode cX11_streets 120 = .ok (.iconst 1, 1) := by decide +kernel
theorem dX11_streets_121 : decode cX11_streets 121 = .ok (.iadd, 1) := by decide +kernel
theorem dX11_streets_122 : decode cX11_streets 122 = .ok (.invokevirtual 449, 3) := by decide +kernel
theorem dX11_streets_125 : decode cX11_streets 125 = .ok (.iadd, 1) := by decide +kernel
theorem dX11_streets_126 : decode cX11_streets 126 = .ok (.imul, 1) := by decide +kernel
theorem dX11_streets_127 : decode cX11_streets 127 = .ok (.istore 5, 2) := by decide +kernel
theorem dX11_streets_129 : decode cX11_streets 129 = .ok (.iload 4, 2) := by decide +kernel
theorem dX11_streets_131 : decode cX11_streets 131 = .ok (.iload 5, 2) := by decide +kernel
theorem dX11_streets_133 : decode cX11_streets 133 = .ok (.iadd, 1) := by decide +kernel
theorem dX11_streets_134 : decode cX11_streets 134 = .ok (.iconst 2, 1) := by decide +kernel
theorem dX11_streets_135 : decode cX11_streets 135 = .ok (.iload_n 1, 1) := by decide +kernel
theorem dX11_streets_136 : decode cX11_streets 136 = .ok (.imul, 1) := by decide +kernel
theorem dX11_streets_137 : decode cX11_streets 137 = .ok (.idiv, 1) := by decide +kernel
theorem dX11_streets_138 : decode cX11_streets 138 = .ok (.ireturn, 1) := by decide +kernel
theorem dX11_moved_0 : decode cX11_moved 0 = .ok (.aload_n 0, 1) := by decide +kernel
theorem dX11_moved_1 : decode cX11_moved 1 = .ok (.iconst 0, 1) := by decide +kernel
theorem dX11_moved_2 : decode cX11_moved 2 = .ok (.putfield 132, 3) := by decide +kernel
theorem dX11_moved_5 : decode cX11_moved 5 = .ok (.aload_n 0, 1) := by decide +kernel
theorem dX11_moved_6 : decode cX11_moved 6 = .ok (.iload_n 1, 1) := by decide +kernel
theorem dX11_moved_7 : decode cX11_moved 7 = .ok (.iconst 0, 1) := by decide +kernel
theorem dX11_moved_8 : decode cX11_moved 8 = .ok (.bipush 9, 2) := by decide +kernel
theorem dX11_moved_10 : decode cX11_moved 10 = .ok (.invokevirtual 147, 3) := by decide +kernel
theorem dX11_moved_13 : decode cX11_moved 13 = .ok (.ifCond .eq 20, 3) := by decide +kernel
theorem dX11_moved_16 : decode cX11_moved 16 = .ok (.aload_n 0, 1) := by decide +kernel
theorem dX11_moved_17 : decode cX11_moved 17 = .ok (.iload_n 2, 1) := by decide +kernel
theorem dX11_moved_18 : decode cX11_moved 18 = .ok (.bipush (-2), 2) := by decide +kernel
theorem dX11_moved_20 : decode cX11_moved 20 = .ok (.bipush 9, 2) := by decide +kernel
theorem dX11_moved_22 : decode cX11_moved 22 = .ok (.invokevirtual 147, 3) := by decide +kernel
theorem dX11_moved_25 : decode cX11_moved 25 = .ok (.ifCond .eq 8, 3) := by decide +kernel
theorem dX11_moved_28 : decode cX11_moved 28 = .ok (.iload_n 1, 1) := by decide +kernel
theorem dX11_moved_29 : decode cX11_moved 29 = .ok (.iload_n 2, 1) := by decide +kernel
theorem dX11_moved_30 : decode cX11_moved 30 = .ok (.if_icmp .ne 5, 3) := by decide +kernel
theorem dX11_moved_33 : decode cX11_moved 33 = .ok (.iconst 0, 1) := by decide +kernel
theorem dX11_moved_34 : decode cX11_moved 34 = .ok (.ireturn, 1) := by decide +kernel
theorem dX11_moved_35 : decode cX11_moved 35 = .ok (.aload_n 0, 1) := by decide +kernel
theorem dX11_moved_36 : decode cX11_moved 36 = .ok (.getfield 116, 3) := by decide +kernel
theorem dX11_moved_39 : decode cX11_moved 39 = .ok (.iload_n 1, 1) := by decide +kernel
theorem dX11_moved_40 : decode cX11_moved 40 = .ok (.iload_n 2, 1) := by decide +kernel
theorem dX11_moved_41 : decode cX11_moved 41 = .ok (.iconst (-1), 1) := by decide +kernel
theorem dX11_moved_42 : decode cX11_moved 42 = .ok (.if_icmp .ne 7, 3) := by decide +kernel
theorem dX11_moved_45 : decode cX11_moved 45 = .ok (.iconst 0, 1) := by decide +kernel
theorem dX11_moved_46 : decode cX11_moved 46 = .ok (.goto 16, 3) := by decide +kernel
theorem dX11_moved_49 : decode cX11_moved 49 = .ok (.iload_n 2, 1) := by decide +kernel
theorem dX11_moved_50 : decode cX11_moved 50 = .ok (.bipush (-2), 2) := by decide +kernel
theorem dX11_moved_52 : decode cX11_moved 52 = .ok (.if_icmp .ne 7, 3) := by decide +kernel
theorem dX11_moved_55 : decode cX11_moved 55 = .ok (.iconst 1, 1) := by decide +kernel
theorem dX11_moved_56 : decode cX11_moved 56 = .ok (.goto 6, 3) := by decide +kernel
theorem dX11_moved_59 : decode cX11_moved 59 = .ok (.iload_n 2, 1) := by decide +kernel
theorem dX11_moved_60 : decode cX11_moved 60 = .ok (.iconst 2, 1) := by decide +kernel
theorem dX11_moved_61 : decode cX11_moved 61 = .ok (.iadd, 1) := by decide +kernel
theorem dX11_moved_62 : decode cX11_moved 62 = .ok (.iastore, 1) := by decide +kernel
theorem dX11_moved_63 : decode cX11_moved 63 = .ok (.iconst 1, 1) := by decide +kernel
theorem dX11_moved_64 : decode cX11_moved 64 = .ok (.ireturn, 1) := by decide +kernel
theorem dX11_canMove_0 : decode cX11_canMove 0 = .ok (.iconst 0, 1) := by decide +kernel
theorem dX11_canMove_1 : decode cX11_canMove 1 = .ok (.istore_n 2, 1) := by decide +kernel
theorem dX11_canMove_2 : decode cX11_canMove 2 = .ok (.iconst 0, 1) := by decide +kernel
theorem dX11_canMove_3 : decode cX11_canMove 3 = .ok (.istore_n 3, 1) := by decide +kernel
theorem dX11_canMove_4 : decode cX11_canMove 4 = .ok (.iload_n 3, 1) := by decide +kernel
theorem dX11_canMove_5 : decode cX11_canMove 5 = .ok (.bipush 10, 2) := by decide +kernel
theorem dX11_canMove_7 : decode cX11_canMove 7 = .ok (.if_icmp .ge 76, 3) := by decide +kernel
theorem dX11_canMove_10 : decode cX11_canMove 10 = .ok (.aload_n 0, 1) := by decide +kernel
theorem dX11_canMove_11 : decode cX11_canMove 11 = .ok (.iload_n 1, 1) := by decide +kernel
theorem dX11_canMove_12 : decode cX11_canMove 12 = .ok (.iload_n 3, 1) := by decide +kernel
theorem dX11_canMove_13 : decode cX11_canMove 13 = .ok (.invokevirtual 328, 3) := by decide +kernel
theorem dX11_canMove_16 : decode cX11_canMove 16 = .ok (.ifCond .ne 6, 3) := by decide +kernel
theorem dX11_canMove_19 : decode cX11_canMove 19 = .ok (.goto 58, 3) := by decide +kernel
theorem dX11_canMove_22 : decode cX11_canMove 22 = .ok (.aload_n 0, 1) := by decide +kernel
theorem dX11_canMove_23 : decode cX11_canMove 23 = .ok (.getfield 116, 3) := by decide +kernel
theorem dX11_canMove_26 : decode cX11_canMove 26 = .ok (.iload_n 3, 1) := by decide +kernel
theorem dX11_canMove_27 : decode cX11_canMove 27 = .ok (.iaload, 1) := by decide +kernel
theorem dX11_canMove_28 : decode cX11_canMove 28 = .ok (.iconst 2, 1) := by decide +kernel
theorem dX11_canMove_29 : decode cX11_canMove 29 = .ok (.isub, 1) := by decide +kernel
theorem dX11_canMove_30 : decode cX11_canMove 30 = .ok (.istore 4, 2) := by decide +kernel
theorem dX11_canMove_32 : decode cX11_canMove 32 = .ok (.iload 4, 2) := by decide +kernel
theorem dX11_canMove_34 : decode cX11_canMove 34 = .ok (.ifCond .lt 34, 3) := by decide +kernel
theorem dX11_canMove_37 : decode cX11_canMove 37 = .ok (.aload_n 0, 1) := by decide +kernel
theorem dX11_canMove_38 : decode cX11_canMove 38 = .ok (.iload_n 2, 1) := by decide +kernel
theorem dX11_canMove_39 : decode cX11_canMove 39 = .ok (.iload 4, 2) := by decide +kernel
theorem dX11_canMove_41 : decode cX11_canMove 41 = .ok (.invokevirtual 328, 3) := by decide +kernel
theorem dX11_canMove_44 : decode cX11_canMove 44 = .ok (.ifCond .ne 24, 3) := by decide +kernel
theorem dX11_canMove_47 : decode cX11_canMove 47 = .ok (.aload_n 0, 1) := by decide +kernel
theorem dX11_canMove_48 : decode cX11_canMove 48 = .ok (.getfield 116, 3) := by decide +kernel
theorem dX11_canMove_51 : decode cX11_canMove 51 = .ok (.iload 4, 2) := by decide +kernel
theorem dX11_canMove_53 : decode cX11_canMove 53 = .ok (.iaload, 1) := by decide +kernel
theorem dX11_canMove_54 : decode cX11_canMove 54 = .ok (.iconst 1, 1) := by decide +kernel
theorem dX11_canMove_55 : decode cX11_canMove 55 = .ok (.if_icmp .eq 15, 3) := by decide +kernel
theorem dX11_canMove_58 : decode cX11_canMove 58 = .ok (.aload_n 0, 1) := by decide +kernel
theorem dX11_canMove_59 : decode cX11_canMove 59 = .ok (.iload_n 1, 1) := by decide +kernel
theorem dX11_canMove_60 : decode cX11_canMove 60 = .ok (.iload 4, 2) := by decide +kernel
theorem dX11_canMove_62 : decode cX11_canMove 62 = .ok (.invokevirtual 328, 3) := by decide +kernel
theorem dX11_canMove_65 : decode cX11_canMove 65 = .ok (.ifCond .ne 5, 3) := by decide +kernel
theorem dX11_canMove_68 : decode cX11_canMove 68 = .ok (.iconst 0, 1) := by decide +kernel
theorem dX11_canMove_69 : decode cX11_canMove 69 = .ok (.ireturn, 1) := by decide +kernel
theorem dX11_canMove_70 : decode cX11_canMove 70 = .ok (.iload_n 2, 1) := by decide +kernel
theorem dX11_canMove_71 : decode cX11_canMove 71 = .ok (.iconst 1, 1) := by decide +kernel
theorem dX11_canMove_72 : decode cX11_canMove 72 = .ok (.iload 4, 2) := by decide +kernel
theorem dX11_canMove_74 : decode cX11_canMove 74 = .ok (.ishl, 1) := by decide +kernel
theorem dX11_canMove_75 : decode cX11_canMove 75 = .ok (.ior, 1) := by decide +kernel
theorem dX11_canMove_76 : decode cX11_canMove 76 = .ok (.istore_n 2, 1) := by decide +kernel
theorem dX11_canMove_77 : decode cX11_canMove 77 = .ok (.iinc 3 1, 3) := by decide +kernel
theorem dX11_canMove_80 : decode cX11_canMove 80 = .ok (.goto (-76), 3) := by decide +kernel
theorem dX11_canMove_83 : decode cX11_canMove 83 = .ok (.iconst 1, 1) := by decide +kernel
theorem dX11_canMove_84 : decode cX11_canMove 84 = .ok (.ireturn, 1) := by decide +kernel
theorem dX11_chain_0 : decode cX11_chain 0 = .ok (.aload_n 0, 1) := by decide +kernel
theorem dX11_chain_1 : decode cX11_chain 1 = .ok (.iconst 0, 1) := by decide +kernel
theorem dX11_chain_2 : decode cX11_chain 2 = .ok (.putfield 132, 3) := by decide +kernel
theorem dX11_chain_5 : decode cX11_chain 5 = .ok (.iconst 0, 1) := by decide +kernel
theorem dX11_chain_6 : decode cX11_chain 6 = .ok (.istore_n 1, 1) := by decide +kernel
theorem dX11_chain_7 : decode cX11_chain 7 = .ok (.iconst 0, 1) := by decide +kernel
theorem dX11_chain_8 : decode cX11_chain 8 = .ok (.istore_n 2, 1) := by decide +kernel
theorem dX11_chain_9 : decode cX11_chain 9 = .ok (.iload_n 2, 1) := by decide +kernel
theorem dX11_chain_10 : decode cX11_chain 10 = .ok (.sipush 1024, 3) := by decide +kernel
theorem dX11_chain_13 : decode cX11_chain 13 = .ok (.if_icmp .ge 32, 3) := by decide +kernel
theorem dX11_chain_16 : decode cX11_chain 16 = .ok (.aload_n 0, 1) := by decide +kernel
theorem dX11_chain_17 : decode cX11_chain 17 = .ok (.iload_n 2, 1) := by decide +kernel
theorem dX11_chain_18 : decode cX11_chain 18 = .ok (.invokevirtual 395, 3) := by decide +kernel
theorem dX11_chain_21 : decode cX11_chain 21 = .ok (.iload_n 1, 1) := by decide +kernel
theorem dX11_chain_22 : decode cX11_chain 22 = .ok (.if_icmp .le 17, 3) := by decide +kernel
theorem dX11_chain_25 : decode cX11_chain 25 = .ok (.aload_n 0, 1) := by decide +kernel
theorem dX11_chain_26 : decode cX11_chain 26 = .ok (.iload_n 2, 1) := by decide +kernel
theorem dX11_chain_27 : decode cX11_chain 27 = .ok (.invokevirtual 452, 3) := by decide +kernel
theorem dX11_chain_30 : decode cX11_chain 30 = .ok (.ifCond .eq 9, 3) := by decide +kernel
theorem dX11_chain_33 : decode cX11_chain 33 = .ok (.aload_n 0, 1) := by decide +kernel
theorem dX11_chain_34 : decode cX11_chain 34 = .ok (.iload_n 2, 1) := by decide +kernel
theorem dX11_chain_35 : decode cX11_chain 35 = .ok (.invokevirtual 395, 3) := by decide +kernel
theorem dX11_chain_38 : decode cX11_chain 38 = .ok (.istore_n 1, 1) := by decide +kernel
theorem dX11_chain_39 : decode cX11_chain 39 = .ok (.iinc 2 1, 3) := by decide +kernel
theorem dX11_chain_42 : decode cX11_chain 42 = .ok (.goto (-33), 3) := by decide +kernel
theorem dX11_chain_45 : decode cX11_chain 45 = .ok (.iload_n 1, 1) := by decide +kernel
theorem dX11_chain_46 : decode cX11_chain 46 = .ok (.ireturn, 1) := by decide +kernel
theorem dX11_goesTo_0 : decode cX11_goesTo 0 = .ok (.iload_n 1, 1) := by decide +kernel
theorem dX11_goesTo_1 : decode cX11_goesTo 1 = .ok (.iconst 1, 1) := by decide +kernel
theorem dX11_goesTo_2 : decode cX11_goesTo 2 = .ok (.iadd, 1) := by decide +kernel
theorem dX11_goesTo_3 : decode cX11_goesTo 3 = .ok (.iconst 2, 1) := by decide +kernel
theorem dX11_goesTo_4 : decode cX11_goesTo 4 = .ok (.idiv, 1) := by decide +kernel
theorem dX11_goesTo_5 : decode cX11_goesTo 5 = .ok (.istore_n 3, 1) := by decide +kernel
theorem dX11_goesTo_6 : decode cX11_goesTo 6 = .ok (.iload_n 2, 1) := by decide +kernel
theorem dX11_goesTo_7 : decode cX11_goesTo 7 = .ok (.iload_n 3, 1) := by decide +kernel
theorem dX11_goesTo_8 : decode cX11_goesTo 8 = .ok (.if_icmp .ge 9, 3) := by decide +kernel
theorem dX11_goesTo_11 : decode cX11_goesTo 11 = .ok (.iconst 2, 1) := by decide +kernel
theorem dX11_goesTo_12 : decode cX11_goesTo 12 = .ok (.iload_n 2, 1) := by decide +kernel
theorem dX11_goesTo_13 : decode cX11_goesTo 13 = .ok (.imul, 1) := by decide +kernel
theorem dX11_goesTo_14 : decode cX11_goesTo 14 = .ok (.goto 10, 3) := by decide +kernel
theorem dX11_goesTo_17 : decode cX11_goesTo 17 = .ok (.iconst 2, 1) := by decide +kernel
theorem dX11_goesTo_18 : decode cX11_goesTo 18 = .ok (.iload_n 2, 1) := by decide +kernel
theorem dX11_goesTo_19 : decode cX11_goesTo 19 = .ok (.iload_n 3, 1) := by decide +kernel
theorem dX11_goesTo_20 : decode cX11_goesTo 20 = .ok (.isub, 1) := by decide +kernel
theorem dX11_goesTo_21 : decode cX11_goesTo 21 = .ok (.imul, 1) := by decide +kernel
theorem dX11_goesTo_22 : decode cX11_goesTo 22 = .ok (.iconst 1, 1) := by decide +kernel
theorem dX11_goesTo_23 : decode cX11_goesTo 23 = .ok (.iadd, 1) := by decide +kernel
theorem dX11_goesTo_24 : decode cX11_goesTo 24 = .ok (.ireturn, 1) := by decide +kernel
theorem dX11_roundOf_0 : decode cX11_roundOf 0 = .ok (.iconst 1, 1) := by decide +kernel
theorem dX11_roundOf_1 : decode cX11_roundOf 1 = .ok (.istore_n 3, 1) := by decide +kernel
theorem dX11_roundOf_2 : decode cX11_roundOf 2 = .ok (.aload_n 0, 1) := by decide +kernel
theorem dX11_roundOf_3 : decode cX11_roundOf 3 = .ok (.iload_n 1, 1) := by decide +kernel
theorem dX11_roundOf_4 : decode cX11_roundOf 4 = .ok (.iload_n 2, 1) := by decide +kernel
theorem dX11_roundOf_5 : decode cX11_roundOf 5 = .ok (.invokevirtual 455, 3) := by decide +kernel
theorem dX11_roundOf_8 : decode cX11_roundOf 8 = .ok (.istore 4, 2) := by decide +kernel
theorem dX11_roundOf_10 : decode cX11_roundOf 10 = .ok (.iload 4, 2) := by decide +kernel
theorem dX11_roundOf_12 : decode cX11_roundOf 12 = .ok (.iload_n 2, 1) := by decide +kernel
theorem dX11_roundOf_13 : decode cX11_roundOf 13 = .ok (.if_icmp .eq 19, 3) := by decide +kernel
theorem dX11_roundOf_16 : decode cX11_roundOf 16 = .ok (.iload_n 3, 1) := by decide +kernel
theorem dX11_roundOf_17 : decode cX11_roundOf 17 = .ok (.iconst 1, 1) := by decide +kernel
theorem dX11_roundOf_18 : decode cX11_roundOf 18 = .ok (.iadd, 1) := by decide +kernel
theorem dX11_roundOf_19 : decode cX11_roundOf 19 = .ok (.istore_n 3, 1) := by decide +kernel
theorem dX11_roundOf_20 : decode cX11_roundOf 20 = .ok (.aload_n 0, 1) := by decide +kernel
theorem dX11_roundOf_21 : decode cX11_roundOf 21 = .ok (.iload_n 1, 1) := by decide +kernel
theorem dX11_roundOf_22 : decode cX11_roundOf 22 = .ok (.iload 4, 2) := by decide +kernel
theorem dX11_roundOf_24 : decode cX11_roundOf 24 = .ok (.invokevirtual 455, 3) := by decide +kernel
theorem dX11_roundOf_27 : decode cX11_roundOf 27 = .ok (.istore 4, 2) := by decide +kernel
theorem dX11_roundOf_29 : decode cX11_roundOf 29 = .ok (.goto (-19), 3) := by decide +kernel
theorem dX11_roundOf_32 : decode cX11_roundOf 32 = .ok (.iload_n 3, 1) := by decide +kernel
theorem dX11_roundOf_33 : decode cX11_roundOf 33 = .ok (.ireturn, 1) := by decide +kernel
theorem dX11_order_0 : decode cX11_order 0 = .ok (.aload_n 0, 1) := by decide +kernel
theorem dX11_order_1 : decode cX11_order 1 = .ok (.iconst 0, 1) := by decide +kernel
theorem dX11_order_2 : decode cX11_order 2 = .ok (.putfield 132, 3) := by decide +kernel
theorem dX11_order_5 : decode cX11_order 5 = .ok (.aload_n 0, 1) := by decide +kernel
theorem dX11_order_6 : decode cX11_order 6 = .ok (.iload_n 1, 1) := by decide +kernel
theorem dX11_order_7 : decode cX11_order 7 = .ok (.iconst 1, 1) := by decide +kernel
theorem dX11_order_8 : decode cX11_order 8 = .ok (.bipush 52, 2) := by decide +kernel
theorem dX11_order_10 : decode cX11_order 10 = .ok (.invokevirtual 147, 3) := by decide +kernel
theorem dX11_order_13 : decode cX11_order 13 = .ok (.ifCond .eq 15, 3) := by decide +kernel
theorem dX11_order_16 : decode cX11_order 16 = .ok (.aload_n 0, 1) := by decide +kernel
theorem dX11_order_17 : decode cX11_order 17 = .ok (.iload_n 2, 1) := by decide +kernel
theorem dX11_order_18 : decode cX11_order 18 = .ok (.iconst (-1), 1) := by decide +kernel
theorem dX11_order_19 : decode cX11_order 19 = .ok (.iload_n 1, 1) := by decide +kernel
theorem dX11_order_20 : decode cX11_order 20 = .ok (.iconst 1, 1) := by decide +kernel
theorem dX11_order_21 : decode cX11_order 21 = .ok (.isub, 1) := by decide +kernel
theorem dX11_order_22 : decode cX11_order 22 = .ok (.invokevirtual 147, 3) := by decide +kernel
theorem dX11_order_25 : decode cX11_order 25 = .ok (.ifCond .ne 5, 3) := by decide +kernel
theorem dX11_order_28 : decode cX11_order 28 = .ok (.iconst (-1), 1) := by decide +kernel
theorem dX11_order_29 : decode cX11_order 29 = .ok (.ireturn, 1) := by decide +kernel
theorem dX11_order_30 : decode cX11_order 30 = .ok (.iload_n 2, 1) := by decide +kernel
theorem dX11_order_31 : decode cX11_order 31 = .ok (.iconst (-1), 1) := by decide +kernel
theorem dX11_order_32 : decode cX11_order 32 = .ok (.if_icmp .ne 50, 3) := by decide +kernel
theorem dX11_order_35 : decode cX11_order 35 = .ok (.iconst 1, 1) := by decide +kernel
theorem dX11_order_36 : decode cX11_order 36 = .ok (.istore 4, 2) := by decide +kernel
theorem dX11_order_38 : decode cX11_order 38 = .ok (.iconst 0, 1) := by decide +kernel
theorem dX11_order_39 : decode cX11_order 39 = .ok (.istore 5, 2) := by decide +kernel
theorem dX11_order_41 : decode cX11_order 41 = .ok (.iload 5, 2) := by decide +kernel
theorem dX11_order_43 : decode cX11_order 43 = .ok (.iload_n 1, 1) := by decide +kernel
theorem dX11_order_44 : decode cX11_order 44 = .ok (.if_icmp .ge 35, 3) := by decide +kernel
theorem dX11_order_47 : decode cX11_order 47 = .ok (.iload 4, 2) := by decide +kernel
theorem dX11_order_49 : decode cX11_order 49 = .ok (.aload_n 0, 1) := by decide +kernel
theorem dX11_order_50 : decode cX11_order 50 = .ok (.iload 4, 2) := by decide +kernel
theorem dX11_order_52 : decode cX11_order 52 = .ok (.aload_n 0, 1) := by decide +kernel
theorem dX11_order_53 : decode cX11_order 53 = .ok (.iload_n 1, 1) := by decide +kernel
theorem dX11_order_54 : decode cX11_order 54 = .ok (.iload 5, 2) := by decide +kernel
theorem dX11_order_56 : decode cX11_order 56 = .ok (.invokevirtual 458, 3) := by decide +kernel
theorem dX11_order_59 : decode cX11_order 59 = .ok (.invokevirtual 429, 3) := by decide +kernel
theorem dX11_order_62 : decode cX11_order 62 = .ok (.idiv, 1) := by decide +kernel
theorem dX11_order_63 : decode cX11_order 63 = .ok (.aload_n 0, 1) := by decide +kernel
theorem dX11_order_64 : decode cX11_order 64 = .ok (.iload_n 1, 1) := by decide +kernel
theorem dX11_order_65 : decode cX11_order 65 = .ok (.iload 5, 2) := by decide +kernel
theorem dX11_order_67 : decode cX11_order 67 = .ok (.invokevirtual 458, 3) := by decide +kernel
theorem dX11_order_70 : decode cX11_order 70 = .ok (.imul, 1) := by decide +kernel
theorem dX11_order_71 : decode cX11_order 71 = .ok (.istore 4, 2) := by decide +kernel
theorem dX11_order_73 : decode cX11_order 73 = .ok (.iinc 5 1, 3) := by decide +kernel
theorem dX11_order_76 : decode cX11_order 76 = .ok (.goto (-35), 3) := by decide +kernel
theorem dX11_order_79 : decode cX11_order 79 = .ok (.iload 4, 2) := by decide +kernel
theorem dX11_order_81 : decode cX11_order 81 = .ok (.ireturn, 1) := by decide +kernel
theorem dX11_order_82 : decode cX11_order 82 = .ok (.aload_n 0, 1) := by decide +kernel
theorem dX11_order_83 : decode cX11_order 83 = .ok (.iload_n 3, 1) := by decide +kernel
theorem dX11_order_84 : decode cX11_order 84 = .ok (.iconst 0, 1) := by decide +kernel
theorem dX11_order_85 : decode cX11_order 85 = .ok (.sipush 1000, 3) := by decide +kernel
theorem dX11_order_88 : decode cX11_order 88 = .ok (.invokevirtual 147, 3) := by decide +kernel
theorem dX11_order_91 : decode cX11_order 91 = .ok (.ifCond .ne 5, 3) := by decide +kernel
theorem dX11_order_94 : decode cX11_order 94 = .ok (.iconst (-1), 1) := by decide +kernel
theorem dX11_order_95 : decode cX11_order 95 = .ok (.ireturn, 1) := by decide +kernel
theorem dX11_order_96 : decode cX11_order 96 = .ok (.iload_n 2, 1) := by decide +kernel
theorem dX11_order_97 : decode cX11_order 97 = .ok (.istore 4, 2) := by decide +kernel
theorem dX11_order_99 : decode cX11_order 99 = .ok (.iconst 0, 1) := by decide +kernel
theorem dX11_order_100 : decode cX11_order 100 = .ok (.istore 5, 2) := by decide +kernel
theorem dX11_order_102 : decode cX11_order 102 = .ok (.iload 5, 2) := by decide +kernel
theorem dX11_order_104 : decode cX11_order 104 = .ok (.iload_n 3, 1) := by decide +kernel
theorem dX11_order_105 : decode cX11_order 105 = .ok (.if_icmp .ge 18, 3) := by decide +kernel
theorem dX11_order_108 : decode cX11_order 108 = .ok (.aload_n 0, 1) := by decide +kernel
theorem dX11_order_109 : decode cX11_order 109 = .ok (.iload_n 1, 1) := by decide +kernel
theorem dX11_order_110 : decode cX11_order 110 = .ok (.iload 4, 2) := by decide +kernel
theorem dX11_order_112 : decode cX11_order 112 = .ok (.invokevirtual 455, 3) := by decide +kernel
theorem dX11_order_115 : decode cX11_order 115 = .ok (.istore 4, 2) := by decide +kernel
theorem dX11_order_117 : decode cX11_order 117 = .ok (.iinc 5 1, 3) := by decide +kernel
theorem dX11_order_120 : decode cX11_order 120 = .ok (.goto (-18), 3) := by decide +kernel
theorem dX11_order_123 : decode cX11_order 123 = .ok (.iload 4, 2) := by decide +kernel
theorem dX11_order_125 : decode cX11_order 125 = .ok (.ireturn, 1) := by decide +kernel
theorem dX11_height_0 : decode cX11_height 0 = .ok (.aload_n 0, 1) := by decide +kernel
theorem dX11_height_1 : decode cX11_height 1 = .ok (.iconst 0, 1) := by decide +kernel
theorem dX11_height_2 : decode cX11_height 2 = .ok (.putfield 132, 3) := by decide +kernel
theorem dX11_height_5 : decode cX11_height 5 = .ok (.iload_n 1, 1) := by decide +kernel
theorem dX11_height_6 : decode cX11_height 6 = .ok (.iconst (-1), 1) := by decide +kernel
theorem dX11_height_7 : decode cX11_height 7 = .ok (.if_icmp .ne 10, 3) := by decide +kernel
theorem dX11_height_10 : decode cX11_height 10 = .ok (.aload_n 0, 1) := by decide +kernel
theorem dX11_height_11 : decode cX11_height 11 = .ok (.iconst 0, 1) := by decide +kernel
theorem dX11_height_12 : decode cX11_height 12 = .ok (.putfield 461, 3) := by decide +kernel
theorem dX11_height_15 : decode cX11_height 15 = .ok (.iconst 0, 1) := by decide +kernel
theorem dX11_height_16 : decode cX11_height 16 = .ok (.ireturn, 1) := by decide +kernel
theorem dX11_height_17 : decode cX11_height 17 = .ok (.aload_n 0, 1) := by decide +kernel
theorem dX11_height_18 : decode cX11_height 18 = .ok (.iload_n 1, 1) := by decide +kernel
theorem dX11_height_19 : decode cX11_height 19 = .ok (.iconst 1, 1) := by decide +kernel
theorem dX11_height_20 : decode cX11_height 20 = .ok (.bipush 60, 2) := by decide +kernel
theorem dX11_height_22 : decode cX11_height 22 = .ok (.invokevirtual 147, 3) := by decide +kernel
theorem dX11_height_25 : decode cX11_height 25 = .ok (.ifCond .eq 12, 3) := by decide +kernel
theorem dX11_height_28 : decode cX11_height 28 = .ok (.aload_n 0, 1) := by decide +kernel
theorem dX11_height_29 : decode cX11_height 29 = .ok (.getfield 461, 3) := by decide +kernel
theorem dX11_height_32 : decode cX11_height 32 = .ok (.bipush 10, 2) := by decide +kernel
theorem dX11_height_34 : decode cX11_height 34 = .ok (.if_icmp .ne 5, 3) := by decide +kernel
theorem dX11_height_37 : decode cX11_height 37 = .ok (.iconst (-1), 1) := by decide +kernel
theorem dX11_height_38 : decode cX11_height 38 = .ok (.ireturn, 1) := by decide +kernel
theorem dX11_height_39 : decode cX11_height 39 = .ok (.aload_n 0, 1) := by decide +kernel
theorem dX11_height_40 : decode cX11_height 40 = .ok (.getfield 119, 3) := by decide +kernel
theorem dX11_height_43 : decode cX11_height 43 = .ok (.aload_n 0, 1) := by decide +kernel
theorem dX11_height_44 : decode cX11_height 44 = .ok (.getfield 461, 3) := by decide +kernel
theorem dX11_height_47 : decode cX11_height 47 = .ok (.iload_n 1, 1) := by decide +kernel
theorem dX11_height_48 : decode cX11_height 48 = .ok (.iastore, 1) := by decide +kernel
theorem dX11_height_49 : decode cX11_height 49 = .ok (.aload_n 0, 1) := by decide +kernel
theorem dX11_height_50 : decode cX11_height 50 = .ok (.aload_n 0, 1) := by decide +kernel
theorem dX11_height_51 : decode cX11_height 51 = .ok (.getfield 461, 3) := by decide +kernel
theorem dX11_height_54 : decode cX11_height 54 = .ok (.iconst 1, 1) := by decide +kernel
theorem dX11_height_55 : decode cX11_height 55 = .ok (.iadd, 1) := by decide +kernel
theorem dX11_height_56 : decode cX11_height 56 = .ok (.putfield 461, 3) := by decide +kernel
theorem dX11_height_59 : decode cX11_height 59 = .ok (.aload_n 0, 1) := by decide +kernel
theorem dX11_height_60 : decode cX11_height 60 = .ok (.getfield 461, 3) := by decide +kernel
theorem dX11_height_63 : decode cX11_height 63 = .ok (.ireturn, 1) := by decide +kernel
theorem dX11_doSee_0 : decode cX11_doSee 0 = .ok (.aload_n 0, 1) := by decide +kernel
theorem dX11_doSee_1 : decode cX11_doSee 1 = .ok (.iload_n 1, 1) := by decide +kernel
theorem dX11_doSee_2 : decode cX11_doSee 2 = .ok (.iload_n 2, 1) := by decide +kernel
theorem dX11_doSee_3 : decode cX11_doSee 3 = .ok (.invokevirtual 332, 3) := by decide +kernel
theorem dX11_doSee_6 : decode cX11_doSee 6 = .ok (.iconst 1, 1) := by decide +kernel
theorem dX11_doSee_7 : decode cX11_doSee 7 = .ok (.iadd, 1) := by decide +kernel
theorem dX11_doSee_8 : decode cX11_doSee 8 = .ok (.istore_n 3, 1) := by decide +kernel
theorem dX11_doSee_9 : decode cX11_doSee 9 = .ok (.iload_n 3, 1) := by decide +kernel
theorem dX11_doSee_10 : decode cX11_doSee 10 = .ok (.aload_n 0, 1) := by decide +kernel
theorem dX11_doSee_11 : decode cX11_doSee 11 = .ok (.iload_n 1, 1) := by decide +kernel
theorem dX11_doSee_12 : decode cX11_doSee 12 = .ok (.iload_n 2, 1) := by decide +kernel
theorem dX11_doSee_13 : decode cX11_doSee 13 = .ok (.invokevirtual 398, 3) := by decide +kernel
theorem dX11_doSee_16 : decode cX11_doSee 16 = .ok (.if_icmp .ge 41, 3) := by decide +kernel
theorem dX11_doSee_19 : decode cX11_doSee 19 = .ok (.aload_n 0, 1) := by decide +kernel
theorem dX11_doSee_20 : decode cX11_doSee 20 = .ok (.getfield 119, 3) := by decide +kernel
theorem dX11_doSee_23 : decode cX11_doSee 23 = .ok (.iload_n 3, 1) := by decide +kernel
theorem dX11_doSee_24 : decode cX11_doSee 24 = .ok (.iaload, 1) := by decide +kernel
theorem dX11_doSee_25 : decode cX11_doSee 25 = .ok (.aload_n 0, 1) := by decide +kernel
theorem dX11_doSee_26 : decode cX11_doSee 26 = .ok (.getfield 119, 3) := by decide +kernel
theorem dX11_doSee_29 : decode cX11_doSee 29 = .ok (.iload_n 1, 1) := by decide +kernel
theorem dX11_doSee_30 : decode cX11_doSee 30 = .ok (.iaload, 1) := by decide +kernel
theorem dX11_doSee_31 : decode cX11_doSee 31 = .ok (.if_icmp .ge 18, 3) := by decide +kernel
theorem dX11_doSee_34 : decode cX11_doSee 34 = .ok (.aload_n 0, 1) := by decide +kernel
theorem dX11_doSee_35 : decode cX11_doSee 35 = .ok (.getfield 119, 3) := by decide +kernel
theorem dX11_doSee_38 : decode cX11_doSee 38 = .ok (.iload_n 3, 1) := by decide +kernel
theorem dX11_doSee_39 : decode cX11_doSee 39 = .ok (.iaload, 1) := by decide +kernel
theorem dX11_doSee_40 : decode cX11_doSee 40 = .ok (.aload_n 0, 1) := by decide +kernel
theorem dX11_doSee_41 : decode cX11_doSee 41 = .ok (.getfield 119, 3) := by decide +kernel
theorem dX11_doSee_44 : decode cX11_doSee 44 = .ok (.iload_n 2, 1) := by decide +kernel
theorem dX11_doSee_45 : decode cX11_doSee 45 = .ok (.iaload, 1) := by decide +kernel
theorem dX11_doSee_46 : decode cX11_doSee 46 = .ok (.if_icmp .lt 5, 3) := by decide +kernel
theorem dX11_doSee_49 : decode cX11_doSee 49 = .ok (.iconst 0, 1) := by decide +kernel
theorem dX11_doSee_50 : decode cX11_doSee 50 = .ok (.ireturn, 1) := by decide +kernel
theorem dX11_doSee_51 : decode cX11_doSee 51 = .ok (.iinc 3 1, 3) := by decide +kernel
theorem dX11_doSee_54 : decode cX11_doSee 54 = .ok (.goto (-45), 3) := by decide +kernel
theorem dX11_doSee_57 : decode cX11_doSee 57 = .ok (.iload_n 1, 1) := by decide +kernel
theorem dX11_doSee_58 : decode cX11_doSee 58 = .ok (.iload_n 2, 1) := by decide +kernel
theorem dX11_doSee_59 : decode cX11_doSee 59 = .ok (.if_icmp .eq 7, 3) := by decide +kernel
theorem dX11_doSee_62 : decode cX11_doSee 62 = .ok (.iconst 1, 1) := by decide +kernel
theorem dX11_doSee_63 : decode cX11_doSee 63 = .ok (.goto 4, 3) := by decide +kernel
theorem dX11_doSee_66 : decode cX11_doSee 66 = .ok (.iconst 0, 1) := by decide +kernel
theorem dX11_doSee_67 : decode cX11_doSee 67 = .ok (.ireturn, 1) := by decide +kernel
theorem dX11_rising_0 : decode cX11_rising 0 = .ok (.iconst 0, 1) := by decide +kernel
theorem dX11_rising_1 : decode cX11_rising 1 = .ok (.istore_n 1, 1) := by decide +kernel
theorem dX11_rising_2 : decode cX11_rising 2 = .ok (.iconst 0, 1) := by decide +kernel
theorem dX11_rising_3 : decode cX11_rising 3 = .ok (.istore_n 2, 1) := by decide +kernel
theorem dX11_rising_4 : decode cX11_rising 4 = .ok (.iload_n 2, 1) := by decide +kernel
theorem dX11_rising_5 : decode cX11_rising 5 = .ok (.aload_n 0, 1) := by decide +kernel
theorem dX11_rising_6 : decode cX11_rising 6 = .ok (.getfield 461, 3) := by decide +kernel
theorem dX11_rising_9 : decode cX11_rising 9 = .ok (.if_icmp .ge 72, 3) := by decide +kernel
theorem dX11_rising_12 : decode cX11_rising 12 = .ok (.aload_n 0, 1) := by decide +kernel
theorem dX11_rising_13 : decode cX11_rising 13 = .ok (.getfield 122, 3) := by decide +kernel
theorem dX11_rising_16 : decode cX11_rising 16 = .ok (.iload_n 2, 1) := by decide +kernel
theorem dX11_rising_17 : decode cX11_rising 17 = .ok (.iconst 1, 1) := by decide +kernel
theorem dX11_rising_18 : decode cX11_rising 18 = .ok (.iastore, 1) := by decide +kernel
theorem dX11_rising_19 : decode cX11_rising 19 = .ok (.iconst 0, 1) := by decide +kernel
theorem dX11_rising_20 : decode cX11_rising 20 = .ok (.istore_n 3, 1) := by decide +kernel
theorem dX11_rising_21 : decode cX11_rising 21 = .ok (.iload_n 3, 1) := by decide +kernel
theorem dX11_rising_22 : decode cX11_rising 22 = .ok (.iload_n 2, 1) := by decide +kernel
theorem dX11_rising_23 : decode cX11_rising 23 = .ok (.if_icmp .ge 43, 3) := by decide +kernel
theorem dX11_rising_26 : decode cX11_rising 26 = .ok (.aload_n 0, 1) := by decide +kernel
theorem dX11_rising_27 : decode cX11_rising 27 = .ok (.getfield 119, 3) := by decide +kernel
theorem dX11_rising_30 : decode cX11_rising 30 = .ok (.iload_n 3, 1) := by decide +kernel
theorem dX11_rising_31 : decode cX11_rising 31 = .ok (.iaload, 1) := by decide +kernel
theorem dX11_rising_32 : decode cX11_rising 32 = .ok (.aload_n 0, 1) := by decide +kernel
theorem dX11_rising_33 : decode cX11_rising 33 = .ok (.getfield 119, 3) := by decide +kernel
theorem dX11_rising_36 : decode cX11_rising 36 = .ok (.iload_n 2, 1) := by decide +kernel
theorem dX11_rising_37 : decode cX11_rising 37 = .ok (.iaload, 1) := by decide +kernel
theorem dX11_rising_38 : decode cX11_rising 38 = .ok (.if_icmp .ge 22, 3) := by decide +kernel
theorem dX11_rising_41 : decode cX11_rising 41 = .ok (.aload_n 0, 1) := by decide +kernel
theorem dX11_rising_42 : decode cX11_rising 42 = .ok (.getfield 122, 3) := by decide +kernel
theorem dX11_rising_45 : decode cX11_rising 45 = .ok (.iload_n 2, 1) := by decide +kernel
theorem dX11_rising_46 : decode cX11_rising 46 = .ok (.aload_n 0, 1) := by decide +kernel
theorem dX11_rising_47 : decode cX11_rising 47 = .ok (.getfield 122, 3) := by decide +kernel
theorem dX11_rising_50 : decode cX11_rising 50 = .ok (.iload_n 2, 1) := by decide +kernel
theorem dX11_rising_51 : decode cX11_rising 51 = .ok (.iaload, 1) := by decide +kernel
theorem dX11_rising_52 : decode cX11_rising 52 = .ok (.aload_n 0, 1) := by decide +kernel
theorem dX11_rising_53 : decode cX11_rising 53 = .ok (.getfield 122, 3) := by decide +kernel
theorem dX11_rising_56 : decode cX11_rising 56 = .ok (.iload_n 3, 1) := by decide +kernel
theorem dX11_rising_57 : decode cX11_rising 57 = .ok (.iaload, 1) := by decide +kernel
theorem dX11_rising_58 : decode cX11_rising 58 = .ok (.iadd, 1) := by decide +kernel
theorem dX11_rising_59 : decode cX11_rising 59 = .ok (.iastore, 1) := by decide +kernel
theorem dX11_rising_60 : decode cX11_rising 60 = .ok (.iinc 3 1, 3) := by decide +kernel
theorem dX11_rising_63 : decode cX11_rising 63 = .ok (.goto (-42), 3) := by decide +kernel
theorem dX11_rising_66 : decode cX11_rising 66 = .ok (.iload_n 1, 1) := by decide +kernel
theorem dX11_rising_67 : decode cX11_rising 67 = .ok (.aload_n 0, 1) := by decide +kernel
theorem dX11_rising_68 : decode cX11_rising 68 = .ok (.getfield 122, 3) := by decide +kernel
theorem dX11_rising_71 : decode cX11_rising 71 = .ok (.iload_n 2, 1) := by decide +kernel
theorem dX11_rising_72 : decode cX11_rising 72 = .ok (.iaload, 1) := by decide +kernel
theorem dX11_rising_73 : decode cX11_rising 73 = .ok (.iadd, 1) := by decide +kernel
theorem dX11_rising_74 : decode cX11_rising 74 = .ok (.istore_n 1, 1) := by decide +kernel
theorem dX11_rising_75 : decode cX11_rising 75 = .ok (.iinc 2 1, 3) := by decide +kernel
theorem dX11_rising_78 : decode cX11_rising 78 = .ok (.goto (-74), 3) := by decide +kernel
theorem dX11_rising_81 : decode cX11_rising 81 = .ok (.iload_n 1, 1) := by decide +kernel
theorem dX11_rising_82 : decode cX11_rising 82 = .ok (.ireturn, 1) := by decide +kernel
theorem dX11_windows_0 : decode cX11_windows 0 = .ok (.aload_n 0, 1) := by decide +kernel
theorem dX11_windows_1 : decode cX11_windows 1 = .ok (.iconst 0, 1) := by decide +kernel
theorem dX11_windows_2 : decode cX11_windows 2 = .ok (.putfield 132, 3) := by decide +kernel
theorem dX11_windows_5 : decode cX11_windows 5 = .ok (.aload_n 0, 1) := by decide +kernel
theorem dX11_windows_6 : decode cX11_windows 6 = .ok (.iload_n 1, 1) := by decide +kernel
theorem dX11_windows_7 : decode cX11_windows 7 = .ok (.iconst 0, 1) := by decide +kernel
theorem dX11_windows_8 : decode cX11_windows 8 = .ok (.iconst 2, 1) := by decide +kernel
theorem dX11_windows_9 : decode cX11_windows 9 = .ok (.invokevirtual 147, 3) := by decide +kernel
theorem dX11_windows_12 : decode cX11_windows 12 = .ok (.ifCond .ne 5, 3) := by decide +kernel
theorem dX11_windows_15 : decode cX11_windows 15 = .ok (.iconst (-1), 1) := by decide +kernel
theorem dX11_windows_16 : decode cX11_windows 16 = .ok (.ireturn, 1) := by decide +kernel
theorem dX11_windows_17 : decode cX11_windows 17 = .ok (.iload_n 1, 1) := by decide +kernel
theorem dX11_windows_18 : decode cX11_windows 18 = .ok (.iconst 2, 1) := by decide +kernel
theorem dX11_windows_19 : decode cX11_windows 19 = .ok (.if_icmp .ne 8, 3) := by decide +kernel
theorem dX11_windows_22 : decode cX11_windows 22 = .ok (.aload_n 0, 1) := by decide +kernel
theorem dX11_windows_23 : decode cX11_windows 23 = .ok (.invokevirtual 464, 3) := by decide +kernel
theorem dX11_windows_26 : decode cX11_windows 26 = .ok (.ireturn, 1) := by decide +kernel
theorem dX11_windows_27 : decode cX11_windows 27 = .ok (.iconst 0, 1) := by decide +kernel
theorem dX11_windows_28 : decode cX11_windows 28 = .ok (.istore_n 2, 1) := by decide +kernel
theorem dX11_windows_29 : decode cX11_windows 29 = .ok (.iconst 0, 1) := by decide +kernel
theorem dX11_windows_30 : decode cX11_windows 30 = .ok (.istore_n 3, 1) := by decide +kernel
theorem dX11_windows_31 : decode cX11_windows 31 = .ok (.iconst 0, 1) := by decide +kernel
theorem dX11_windows_32 : decode cX11_windows 32 = .ok (.istore 4, 2) := by decide +kernel
theorem dX11_windows_34 : decode cX11_windows 34 = .ok (.iload 4, 2) := by decide +kernel
theorem dX11_windows_36 : decode cX11_windows 36 = .ok (.aload_n 0, 1) := by decide +kernel
theorem dX11_windows_37 : decode cX11_windows 37 = .ok (.getfield 461, 3) := by decide +kernel
theorem dX11_windows_40 : decode cX11_windows 40 = .ok (.if_icmp .ge 60, 3) := by decide +kernel
theorem dX11_windows_43 : decode cX11_windows 43 = .ok (.iconst 0, 1) := by decide +kernel
theorem dX11_windows_44 : decode cX11_windows 44 = .ok (.istore 5, 2) := by decide +kernel
theorem dX11_windows_46 : decode cX11_windows 46 = .ok (.iconst 0, 1) := by decide +kernel
theorem dX11_windows_47 : decode cX11_windows 47 = .ok (.istore 6, 2) := by decide +kernel
theorem dX11_windows_49 : decode cX11_windows 49 = .ok (.iload 6, 2) := by decide +kernel
theorem dX11_windows_51 : decode cX11_windows 51 = .ok (.aload_n 0, 1) := by decide +kernel
theorem dX11_windows_52 : decode cX11_windows 52 = .ok (.getfield 461, 3) := by decide +kernel
theorem dX11_windows_55 : decode cX11_windows 55 = .ok (.if_icmp .ge 26, 3) := by decide +kernel
theorem dX11_windows_58 : decode cX11_windows 58 = .ok (.aload_n 0, 1) := by decide +kernel
theorem dX11_windows_59 : decode cX11_windows 59 = .ok (.iload 4, 2) := by decide +kernel
theorem dX11_windows_61 : decode cX11_windows 61 = .ok (.iload 6, 2) := by decide +kernel
theorem dX11_windows_63 : decode cX11_windows 63 = .ok (.invokevirtual 467, 3) := by decide +kernel
theorem dX11_windows_66 : decode cX11_windows 66 = .ok (.ifCond .eq 9, 3) := by decide +kernel
theorem dX11_windows_69 : decode cX11_windows 69 = .ok (.iload 5, 2) := by decide +kernel
theorem dX11_windows_71 : decode cX11_windows 71 = .ok (.iconst 1, 1) := by decide +kernel
theorem dX11_windows_72 : decode cX11_windows 72 = .ok (.iadd, 1) := by decide +kernel
theorem dX11_windows_73 : decode cX11_windows 73 = .ok (.istore 5, 2) := by decide +kernel
theorem dX11_windows_75 : decode cX11_windows 75 = .ok (.iinc 6 1, 3) := by decide +kernel
theorem dX11_windows_78 : decode cX11_windows 78 = .ok (.goto (-29), 3) := by decide +kernel
theorem dX11_windows_81 : decode cX11_windows 81 = .ok (.iload_n 2, 1) := by decide +kernel
theorem dX11_windows_82 : decode cX11_windows 82 = .ok (.iload 5, 2) := by decide +kernel
theorem dX11_windows_84 : decode cX11_windows 84 = .ok (.iadd, 1) := by decide +kernel
theorem dX11_windows_85 : decode cX11_windows 85 = .ok (.istore_n 2, 1) := by decide +kernel
theorem dX11_windows_86 : decode cX11_windows 86 = .ok (.aload_n 0, 1) := by decide +kernel
theorem dX11_windows_87 : decode cX11_windows 87 = .ok (.iload_n 3, 1) := by decide +kernel
theorem dX11_windows_88 : decode cX11_windows 88 = .ok (.iload 5, 2) := by decide +kernel
theorem dX11_windows_90 : decode cX11_windows 90 = .ok (.invokevirtual 398, 3) := by decide +kernel
theorem dX11_windows_93 : decode cX11_windows 93 = .ok (.istore_n 3, 1) := by decide +kernel
theorem dX11_windows_94 : decode cX11_windows 94 = .ok (.iinc 4 1, 3) := by decide +kernel
theorem dX11_windows_97 : decode cX11_windows 97 = .ok (.goto (-63), 3) := by decide +kernel
theorem dX11_windows_100 : decode cX11_windows 100 = .ok (.iload_n 1, 1) := by decide +kernel
theorem dX11_windows_101 : decode cX11_windows 101 = .ok (.ifCond .ne 9, 3) := by decide +kernel
theorem dX11_windows_104 : decode cX11_windows 104 = .ok (.iload_n 2, 1) := by decide +kernel
theorem dX11_windows_105 : decode cX11_windows 105 = .ok (.iconst 2, 1) := by decide +kernel
theorem dX11_windows_106 : decode cX11_windows 106 = .ok (.idiv, 1) := by decide +kernel
theorem dX11_windows_107 : decode cX11_windows 107 = .ok (.goto 4, 3) := by decide +kernel
theorem dX11_windows_110 : decode cX11_windows 110 = .ok (.iload_n 3, 1) := by decide +kernel
theorem dX11_windows_111 : decode cX11_windows 111 = .ok (.ireturn, 1) := by decide +kernel
theorem dX11_hasThree_0 : decode cX11_hasThree 0 = .ok (.iload_n 1, 1) := by decide +kernel
theorem dX11_hasThree_1 : decode cX11_hasThree 1 = .ok (.iload_n 1, 1) := by decide +kernel
theorem dX11_hasThree_2 : decode cX11_hasThree 2 = .ok (.iconst 1, 1) := by decide +kernel
theorem dX11_hasThree_3 : decode cX11_hasThree 3 = .ok (.ishr, 1) := by decide +kernel
theorem dX11_hasThree_4 : decode cX11_hasThree 4 = .ok (.iand, 1) := by decide +kernel
theorem dX11_hasThree_5 : decode cX11_hasThree 5 = .ok (.iload_n 1, 1) := by decide +kernel
theorem dX11_hasThree_6 : decode cX11_hasThree 6 = .ok (.iconst 2, 1) := by decide +kernel
theorem dX11_hasThree_7 : decode cX11_hasThree 7 = .ok (.ishr, 1) := by decide +kernel
theorem dX11_hasThree_8 : decode cX11_hasThree 8 = .ok (.iand, 1) := by decide +kernel
theorem dX11_hasThree_9 : decode cX11_hasThree 9 = .ok (.ifCond .eq 7, 3) := by decide +kernel
theorem dX11_hasThree_12 : decode cX11_hasThree 12 = .ok (.iconst 1, 1) := by decide +kernel
theorem dX11_hasThree_13 : decode cX11_hasThree 13 = .ok (.goto 4, 3) := by decide +kernel
theorem dX11_hasThree_16 : decode cX11_hasThree 16 = .ok (.iconst 0, 1) := by decide +kernel
theorem dX11_hasThree_17 : decode cX11_hasThree 17 = .ok (.ireturn, 1) := by decide +kernel
theorem dX11_winningDoor_0 : decode cX11_winningDoor 0 = .ok (.iconst 0, 1) := by decide +kernel
theorem dX11_winningDoor_1 : decode cX11_winningDoor 1 = .ok (.istore_n 3, 1) := by decide +kernel
theorem dX11_winningDoor_2 : decode cX11_winningDoor 2 = .ok (.iload_n 3, 1) := by decide +kernel
theorem dX11_winningDoor_3 : decode cX11_winningDoor 3 = .ok (.iload_n 1, 1) := by decide +kernel
theorem dX11_winningDoor_4 : decode cX11_winningDoor 4 = .ok (.if_icmp .ge 51, 3) := by decide +kernel
theorem dX11_winningDoor_7 : decode cX11_winningDoor 7 = .ok (.iload_n 2, 1) := by decide +kernel
theorem dX11_winningDoor_8 : decode cX11_winningDoor 8 = .ok (.iconst 1, 1) := by decide +kernel
theorem dX11_winningDoor_9 : decode cX11_winningDoor 9 = .ok (.iload_n 3, 1) := by decide +kernel
theorem dX11_winningDoor_10 : decode cX11_winningDoor 10 = .ok (.ishl, 1) := by decide +kernel
theorem dX11_winningDoor_11 : decode cX11_winningDoor 11 = .ok (.ior, 1) := by decide +kernel
theorem dX11_winningDoor_12 : decode cX11_winningDoor 12 = .ok (.istore 4, 2) := by decide +kernel
theorem dX11_winningDoor_14 : decode cX11_winningDoor 14 = .ok (.aload_n 0, 1) := by decide +kernel
theorem dX11_winningDoor_15 : decode cX11_winningDoor 15 = .ok (.iload_n 2, 1) := by decide +kernel
theorem dX11_winningDoor_16 : decode cX11_winningDoor 16 = .ok (.iload_n 3, 1) := by decide +kernel
theorem dX11_winningDoor_17 : decode cX11_winningDoor 17 = .ok (.invokevirtual 328, 3) := by decide +kernel
theorem dX11_winningDoor_20 : decode cX11_winningDoor 20 = .ok (.ifCond .ne 29, 3) := by decide +kernel
theorem dX11_winningDoor_23 : decode cX11_winningDoor 23 = .ok (.aload_n 0, 1) := by decide +kernel
theorem dX11_winningDoor_24 : decode cX11_winningDoor 24 = .ok (.iload 4, 2) := by decide +kernel
theorem dX11_winningDoor_26 : decode cX11_winningDoor 26 = .ok (.invokevirtual 470, 3) := by decide +kernel
theorem dX11_winningDoor_29 : decode cX11_winningDoor 29 = .ok (.ifCond .ne 18, 3) := by decide +kernel
theorem dX11_winningDoor_32 : decode cX11_winningDoor 32 = .ok (.iload_n 1, 1) := by decide +kernel
theorem dX11_winningDoor_33 : decode cX11_winningDoor 33 = .ok (.iconst 2, 1) := by decide +kernel
theorem dX11_winningDoor_34 : decode cX11_winningDoor 34 = .ok (.if_icmp .le 15, 3) := by decide +kernel
theorem dX11_winningDoor_37 : decode cX11_winningDoor 37 = .ok (.aload_n 0, 1) := by decide +kernel
theorem dX11_winningDoor_38 : decode cX11_winningDoor 38 = .ok (.getfield 126, 3) := by decide +kernel
theorem dX11_winningDoor_41 : decode cX11_winningDoor 41 = .ok (.iload 4, 2) := by decide +kernel
theorem dX11_winningDoor_43 : decode cX11_winningDoor 43 = .ok (.iaload, 1) := by decide +kernel
theorem dX11_winningDoor_44 : decode cX11_winningDoor 44 = .ok (.ifCond .ne 5, 3) := by decide +kernel
theorem dX11_winningDoor_47 : decode cX11_winningDoor 47 = .ok (.iload_n 3, 1) := by decide +kernel
theorem dX11_winningDoor_48 : decode cX11_winningDoor 48 = .ok (.ireturn, 1) := by decide +kernel
theorem dX11_winningDoor_49 : decode cX11_winningDoor 49 = .ok (.iinc 3 1, 3) := by decide +kernel
theorem dX11_winningDoor_52 : decode cX11_winningDoor 52 = .ok (.goto (-50), 3) := by decide +kernel
theorem dX11_winningDoor_55 : decode cX11_winningDoor 55 = .ok (.iconst (-1), 1) := by decide +kernel
theorem dX11_winningDoor_56 : decode cX11_winningDoor 56 = .ok (.ireturn, 1) := by decide +kernel
theorem dX11_game_0 : decode cX11_game 0 = .ok (.aload_n 0, 1) := by decide +kernel
theorem dX11_game_1 : decode cX11_game 1 = .ok (.iconst 0, 1) := by decide +kernel
theorem dX11_game_2 : decode cX11_game 2 = .ok (.putfield 132, 3) := by decide +kernel
theorem dX11_game_5 : decode cX11_game 5 = .ok (.aload_n 0, 1) := by decide +kernel
theorem dX11_game_6 : decode cX11_game 6 = .ok (.iload_n 1, 1) := by decide +kernel
theorem dX11_game_7 : decode cX11_game 7 = .ok (.iconst 1, 1) := by decide +kernel
theorem dX11_game_8 : decode cX11_game 8 = .ok (.bipush 18, 2) := by decide +kernel
theorem dX11_game_10 : decode cX11_game 10 = .ok (.invokevirtual 147, 3) := by decide +kernel
theorem dX11_game_13 : decode cX11_game 13 = .ok (.ifCond .eq 35, 3) := by decide +kernel
theorem dX11_game_16 : decode cX11_game 16 = .ok (.aload_n 0, 1) := by decide +kernel
theorem dX11_game_17 : decode cX11_game 17 = .ok (.iload_n 2, 1) := by decide +kernel
theorem dX11_game_18 : decode cX11_game 18 = .ok (.iconst 0, 1) := by decide +kernel
theorem dX11_game_19 : decode cX11_game 19 = .ok (.iconst 1, 1) := by decide +kernel
theorem dX11_game_20 : decode cX11_game 20 = .ok (.iload_n 1, 1) := by decide +kernel
theorem dX11_game_21 : decode cX11_game 21 = .ok (.ishl, 1) := by decide +kernel
theorem dX11_game_22 : decode cX11_game 22 = .ok (.iconst 1, 1) := by decide +kernel
theorem dX11_game_23 : decode cX11_game 23 = .ok (.isub, 1) := by decide +kernel
theorem dX11_game_24 : decode cX11_game 24 = .ok (.invokevirtual 147, 3) := by decide +kernel
theorem dX11_game_27 : decode cX11_game 27 = .ok (.ifCond .eq 21, 3) := by decide +kernel
theorem dX11_game_30 : decode cX11_game 30 = .ok (.aload_n 0, 1) := by decide +kernel
theorem dX11_game_31 : decode cX11_game 31 = .ok (.iload_n 2, 1) := by decide +kernel
theorem dX11_game_32 : decode cX11_game 32 = .ok (.invokevirtual 470, 3) := by decide +kernel
theorem dX11_game_35 : decode cX11_game 35 = .ok (.ifCond .ne 13, 3) := by decide +kernel
theorem dX11_game_38 : decode cX11_game 38 = .ok (.aload_n 0, 1) := by decide +kernel
theorem dX11_game_39 : decode cX11_game 39 = .ok (.iload_n 3, 1) := by decide +kernel
theorem dX11_game_40 : decode cX11_game 40 = .ok (.iconst 0, 1) := by decide +kernel
theorem dX11_game_41 : decode cX11_game 41 = .ok (.iconst 1, 1) := by decide +kernel
theorem dX11_game_42 : decode cX11_game 42 = .ok (.invokevirtual 147, 3) := by decide +kernel
theorem dX11_game_45 : decode cX11_game 45 = .ok (.ifCond .ne 5, 3) := by decide +kernel
theorem dX11_game_48 : decode cX11_game 48 = .ok (.iconst (-1), 1) := by decide +kernel
theorem dX11_game_49 : decode cX11_game 49 = .ok (.ireturn, 1) := by decide +kernel
theorem dX11_game_50 : decode cX11_game 50 = .ok (.iconst 1, 1) := by decide +kernel
theorem dX11_game_51 : decode cX11_game 51 = .ok (.iload_n 1, 1) := by decide +kernel
theorem dX11_game_52 : decode cX11_game 52 = .ok (.ishl, 1) := by decide +kernel
theorem dX11_game_53 : decode cX11_game 53 = .ok (.iconst 1, 1) := by decide +kernel
theorem dX11_game_54 : decode cX11_game 54 = .ok (.isub, 1) := by decide +kernel
theorem dX11_game_55 : decode cX11_game 55 = .ok (.istore 4, 2) := by decide +kernel
theorem dX11_game_57 : decode cX11_game 57 = .ok (.iload 4, 2) := by decide +kernel
theorem dX11_game_59 : decode cX11_game 59 = .ok (.iload_n 2, 1) := by decide +kernel
theorem dX11_game_60 : decode cX11_game 60 = .ok (.if_icmp .lt 49, 3) := by decide +kernel
theorem dX11_game_63 : decode cX11_game 63 = .ok (.iload 4, 2) := by decide +kernel
theorem dX11_game_65 : decode cX11_game 65 = .ok (.iload_n 2, 1) := by decide +kernel
theorem dX11_game_66 : decode cX11_game 66 = .ok (.iand, 1) := by decide +kernel
theorem dX11_game_67 : decode cX11_game 67 = .ok (.iload_n 2, 1) := by decide +kernel
theorem dX11_game_68 : decode cX11_game 68 = .ok (.if_icmp .ne 35, 3) := by decide +kernel
theorem dX11_game_71 : decode cX11_game 71 = .ok (.aload_n 0, 1) := by decide +kernel
theorem dX11_game_72 : decode cX11_game 72 = .ok (.iload 4, 2) := by decide +kernel
theorem dX11_game_74 : decode cX11_game 74 = .ok (.invokevirtual 470, 3) := by decide +kernel
theorem dX11_game_77 : decode cX11_game 77 = .ok (.ifCond .ne 26, 3) := by decide +kernel
theorem dX11_game_80 : decode cX11_game 80 = .ok (.aload_n 0, 1) := by decide +kernel
theorem dX11_game_81 : decode cX11_game 81 = .ok (.getfield 126, 3) := by decide +kernel
theorem dX11_game_84 : decode cX11_game 84 = .ok (.iload 4, 2) := by decide +kernel
theorem dX11_game_86 : decode cX11_game 86 = .ok (.aload_n 0, 1) := by decide +kernel
theorem dX11_game_87 : decode cX11_game 87 = .ok (.iload_n 1, 1) := by decide +kernel
theorem dX11_game_88 : decode cX11_game 88 = .ok (.iload 4, 2) := by decide +kernel
theorem dX11_game_90 : decode cX11_game 90 = .ok (.invokevirtual 473, 3) := by decide +kernel
theorem dX11_game_93 : decode cX11_game 93 = .ok (.iconst (-1), 1) := by decide +kernel
theorem dX11_game_94 : decode cX11_game 94 = .ok (.if_icmp .ne 7, 3) := by decide +kernel
theorem dX11_game_97 : decode cX11_game 97 = .ok (.iconst 0, 1) := by decide +kernel
theorem dX11_game_98 : decode cX11_game 98 = .ok (.goto 4, 3) := by decide +kernel
theorem dX11_game_101 : decode cX11_game 101 = .ok (.iconst 1, 1) := by decide +kernel
theorem dX11_game_102 : decode cX11_game 102 = .ok (.iastore, 1) := by decide +kernel
theorem dX11_game_103 : decode cX11_game 103 = .ok (.iinc 4 (-1), 3) := by decide +kernel
theorem dX11_game_106 : decode cX11_game 106 = .ok (.goto (-49), 3) := by decide +kernel
theorem dX11_game_109 : decode cX11_game 109 = .ok (.iload_n 3, 1) := by decide +kernel
theorem dX11_game_110 : decode cX11_game 110 = .ok (.ifCond .ne 12, 3) := by decide +kernel
theorem dX11_game_113 : decode cX11_game 113 = .ok (.aload_n 0, 1) := by decide +kernel
theorem dX11_game_114 : decode cX11_game 114 = .ok (.getfield 126, 3) := by decide +kernel
theorem dX11_game_117 : decode cX11_game 117 = .ok (.iload_n 2, 1) := by decide +kernel
theorem dX11_game_118 : decode cX11_game 118 = .ok (.iaload, 1) := by decide +kernel
theorem dX11_game_119 : decode cX11_game 119 = .ok (.goto 9, 3) := by decide +kernel
theorem dX11_game_122 : decode cX11_game 122 = .ok (.aload_n 0, 1) := by decide +kernel
theorem dX11_game_123 : decode cX11_game 123 = .ok (.iload_n 1, 1) := by decide +kernel
theorem dX11_game_124 : decode cX11_game 124 = .ok (.iload_n 2, 1) := by decide +kernel
theorem dX11_game_125 : decode cX11_game 125 = .ok (.invokevirtual 473, 3) := by decide +kernel
theorem dX11_game_128 : decode cX11_game 128 = .ok (.ireturn, 1) := by decide +kernel
theorem dX11_keeps_0 : decode cX11_keeps 0 = .ok (.aload_n 0, 1) := by decide +kernel
theorem dX11_keeps_1 : decode cX11_keeps 1 = .ok (.aload_n 0, 1) := by decide +kernel
theorem dX11_keeps_2 : decode cX11_keeps 2 = .ok (.getfield 476, 3) := by decide +kernel
theorem dX11_keeps_5 : decode cX11_keeps 5 = .ok (.iconst 1, 1) := by decide +kernel
theorem dX11_keeps_6 : decode cX11_keeps 6 = .ok (.iadd, 1) := by decide +kernel
theorem dX11_keeps_7 : decode cX11_keeps 7 = .ok (.putfield 476, 3) := by decide +kernel
theorem dX11_keeps_10 : decode cX11_keeps 10 = .ok (.aload_n 0, 1) := by decide +kernel
theorem dX11_keeps_11 : decode cX11_keeps 11 = .ok (.getfield 479, 3) := by decide +kernel
theorem dX11_keeps_14 : decode cX11_keeps 14 = .ok (.ifCond .ne 15, 3) := by decide +kernel
theorem dX11_keeps_17 : decode cX11_keeps 17 = .ok (.aload_n 0, 1) := by decide +kernel
theorem dX11_keeps_18 : decode cX11_keeps 18 = .ok (.getfield 129, 3) := by decide +kernel
theorem dX11_keeps_21 : decode cX11_keeps 21 = .ok (.aload_n 0, 1) := by decide +kernel
theorem dX11_keeps_22 : decode cX11_keeps 22 = .ok (.getfield 476, 3) := by decide +kernel
theorem dX11_keeps_25 : decode cX11_keeps 25 = .ok (.iconst 1, 1) := by decide +kernel
theorem dX11_keeps_26 : decode cX11_keeps 26 = .ok (.isub, 1) := by decide +kernel
theorem dX11_keeps_27 : decode cX11_keeps 27 = .ok (.iaload, 1) := by decide +kernel
theorem dX11_keeps_28 : decode cX11_keeps 28 = .ok (.ireturn, 1) := by decide +kernel
theorem dX11_keeps_29 : decode cX11_keeps 29 = .ok (.aload_n 0, 1) := by decide +kernel
theorem dX11_keeps_30 : decode cX11_keeps 30 = .ok (.getfield 129, 3) := by decide +kernel
theorem dX11_keeps_33 : decode cX11_keeps 33 = .ok (.aload_n 0, 1) := by decide +kernel
theorem dX11_keeps_34 : decode cX11_keeps 34 = .ok (.getfield 476, 3) := by decide +kernel
theorem dX11_keeps_37 : decode cX11_keeps 37 = .ok (.iconst 1, 1) := by decide +kernel
theorem dX11_keeps_38 : decode cX11_keeps 38 = .ok (.isub, 1) := by decide +kernel
theorem dX11_keeps_39 : decode cX11_keeps 39 = .ok (.iload_n 1, 1) := by decide +kernel
theorem dX11_keeps_40 : decode cX11_keeps 40 = .ok (.iastore, 1) := by decide +kernel
theorem dX11_keeps_41 : decode cX11_keeps 41 = .ok (.iload_n 1, 1) := by decide +kernel
theorem dX11_keeps_42 : decode cX11_keeps 42 = .ok (.ireturn, 1) := by decide +kernel
theorem dX11_keepsLaw_0 : decode cX11_keepsLaw 0 = .ok (.aload_n 0, 1) := by decide +kernel
theorem dX11_keepsLaw_1 : decode cX11_keepsLaw 1 = .ok (.getfield 28, 3) := by decide +kernel
theorem dX11_keepsLaw_4 : decode cX11_keepsLaw 4 = .ok (.iconst 0, 1) := by decide +kernel
theorem dX11_keepsLaw_5 : decode cX11_keepsLaw 5 = .ok (.aload_n 0, 1) := by decide +kernel
theorem dX11_keepsLaw_6 : decode cX11_keepsLaw 6 = .ok (.aload_n 0, 1) := by decide +kernel
theorem dX11_keepsLaw_7 : decode cX11_keepsLaw 7 = .ok (.getfield 28, 3) := by decide +kernel
theorem dX11_keepsLaw_10 : decode cX11_keepsLaw 10 = .ok (.iconst 0, 1) := by decide +kernel
theorem dX11_keepsLaw_11 : decode cX11_keepsLaw 11 = .ok (.iaload, 1) := by decide +kernel
theorem dX11_keepsLaw_12 : decode cX11_keepsLaw 12 = .ok (.invokevirtual 482, 3) := by decide +kernel
theorem dX11_keepsLaw_15 : decode cX11_keepsLaw 15 = .ok (.iastore, 1) := by decide +kernel
theorem dX11_keepsLaw_16 : decode cX11_keepsLaw 16 = .ok (.iconst 0, 1) := by decide +kernel
theorem dX11_keepsLaw_17 : decode cX11_keepsLaw 17 = .ok (.istore_n 1, 1) := by decide +kernel
theorem dX11_keepsLaw_18 : decode cX11_keepsLaw 18 = .ok (.iload_n 1, 1) := by decide +kernel
theorem dX11_keepsLaw_19 : decode cX11_keepsLaw 19 = .ok (.bipush 16, 2) := by decide +kernel
theorem dX11_keepsLaw_21 : decode cX11_keepsLaw 21 = .ok (.if_icmp .ge 73, 3) := by decide +kernel
theorem dX11_keepsLaw_24 : decode cX11_keepsLaw 24 = .ok (.aload_n 0, 1) := by decide +kernel
theorem dX11_keepsLaw_25 : decode cX11_keepsLaw 25 = .ok (.getfield 31, 3) := by decide +kernel
theorem dX11_keepsLaw_28 : decode cX11_keepsLaw 28 = .ok (.iload_n 1, 1) := by decide +kernel
theorem dX11_keepsLaw_29 : decode cX11_keepsLaw 29 = .ok (.aload_n 0, 1) := by decide +kernel
theorem dX11_keepsLaw_30 : decode cX11_keepsLaw 30 = .ok (.aload_n 0, 1) := by decide +kernel
theorem dX11_keepsLaw_31 : decode cX11_keepsLaw 31 = .ok (.getfield 31, 3) := by decide +kernel
theorem dX11_keepsLaw_34 : decode cX11_keepsLaw 34 = .ok (.iload_n 1, 1) := by decide +kernel
theorem dX11_keepsLaw_35 : decode cX11_keepsLaw 35 = .ok (.iaload, 1) := by decide +kernel
theorem dX11_keepsLaw_36 : decode cX11_keepsLaw 36 = .ok (.invokevirtual 482, 3) := by decide +kernel
theorem dX11_keepsLaw_39 : decode cX11_keepsLaw 39 = .ok (.iastore, 1) := by decide +kernel
theorem dX11_keepsLaw_40 : decode cX11_keepsLaw 40 = .ok (.aload_n 0, 1) := by decide +kernel
theorem dX11_keepsLaw_41 : decode cX11_keepsLaw 41 = .ok (.getfield 34, 3) := by decide +kernel
theorem dX11_keepsLaw_44 : decode cX11_keepsLaw 44 = .ok (.iload_n 1, 1) := by decide +kernel
theorem dX11_keepsLaw_45 : decode cX11_keepsLaw 45 = .ok (.aload_n 0, 1) := by decide +kernel
theorem dX11_keepsLaw_46 : decode cX11_keepsLaw 46 = .ok (.aload_n 0, 1) := by decide +kernel
theorem dX11_keepsLaw_47 : decode cX11_keepsLaw 47 = .ok (.getfield 34, 3) := by decide +kernel
theorem dX11_keepsLaw_50 : decode cX11_keepsLaw 50 = .ok (.iload_n 1, 1) := by decide +kernel
theorem dX11_keepsLaw_51 : decode cX11_keepsLaw 51 = .ok (.iaload, 1) := by decide +kernel
theorem dX11_keepsLaw_52 : decode cX11_keepsLaw 52 = .ok (.invokevirtual 482, 3) := by decide +kernel
theorem dX11_keepsLaw_55 : decode cX11_keepsLaw 55 = .ok (.iastore, 1) := by decide +kernel
theorem dX11_keepsLaw_56 : decode cX11_keepsLaw 56 = .ok (.aload_n 0, 1) := by decide +kernel
theorem dX11_keepsLaw_57 : decode cX11_keepsLaw 57 = .ok (.getfield 37, 3) := by decide +kernel
theorem dX11_keepsLaw_60 : decode cX11_keepsLaw 60 = .ok (.iload_n 1, 1) := by decide +kernel
theorem dX11_keepsLaw_61 : decode cX11_keepsLaw 61 = .ok (.aload_n 0, 1) := by decide +kernel
theorem dX11_keepsLaw_62 : decode cX11_keepsLaw 62 = .ok (.aload_n 0, 1) := by decide +kernel
theorem dX11_keepsLaw_63 : decode cX11_keepsLaw 63 = .ok (.getfield 37, 3) := by decide +kernel
theorem dX11_keepsLaw_66 : decode cX11_keepsLaw 66 = .ok (.iload_n 1, 1) := by decide +kernel
theorem dX11_keepsLaw_67 : decode cX11_keepsLaw 67 = .ok (.iaload, 1) := by decide +kernel
theorem dX11_keepsLaw_68 : decode cX11_keepsLaw 68 = .ok (.invokevirtual 482, 3) := by decide +kernel
theorem dX11_keepsLaw_71 : decode cX11_keepsLaw 71 = .ok (.iastore, 1) := by decide +kernel
theorem dX11_keepsLaw_72 : decode cX11_keepsLaw 72 = .ok (.aload_n 0, 1) := by decide +kernel
theorem dX11_keepsLaw_73 : decode cX11_keepsLaw 73 = .ok (.getfield 40, 3) := by decide +kernel
theorem dX11_keepsLaw_76 : decode cX11_keepsLaw 76 = .ok (.iload_n 1, 1) := by decide +kernel
theorem dX11_keepsLaw_77 : decode cX11_keepsLaw 77 = .ok (.aload_n 0, 1) := by decide +kernel
theorem dX11_keepsLaw_78 : decode cX11_keepsLaw 78 = .ok (.aload_n 0, 1) := by decide +kernel
theorem dX11_keepsLaw_79 : decode cX11_keepsLaw 79 = .ok (.getfield 40, 3) := by decide +kernel
theorem dX11_keepsLaw_82 : decode cX11_keepsLaw 82 = .ok (.iload_n 1, 1) := by decide +kernel
theorem dX11_keepsLaw_83 : decode cX11_keepsLaw 83 = .ok (.iaload, 1) := by decide +kernel
theorem dX11_keepsLaw_84 : decode cX11_keepsLaw 84 = .ok (.invokevirtual 482, 3) := by decide +kernel
theorem dX11_keepsLaw_87 : decode cX11_keepsLaw 87 = .ok (.iastore, 1) := by decide +kernel
theorem dX11_keepsLaw_88 : decode cX11_keepsLaw 88 = .ok (.iinc 1 1, 3) := by decide +kernel
theorem dX11_keepsLaw_91 : decode cX11_keepsLaw 91 = .ok (.goto (-73), 3) := by decide +kernel
theorem dX11_keepsLaw_94 : decode cX11_keepsLaw 94 = .ok (.iconst 0, 1) := by decide +kernel
theorem dX11_keepsLaw_95 : decode cX11_keepsLaw 95 = .ok (.istore_n 1, 1) := by decide +kernel
theorem dX11_keepsLaw_96 : decode cX11_keepsLaw 96 = .ok (.iload_n 1, 1) := by decide +kernel
theorem dX11_keepsLaw_97 : decode cX11_keepsLaw 97 = .ok (.sipush 400, 3) := by decide +kernel
theorem dX11_keepsLaw_100 : decode cX11_keepsLaw 100 = .ok (.if_icmp .ge 41, 3) := by decide +kernel
theorem dX11_keepsLaw_103 : decode cX11_keepsLaw 103 = .ok (.aload_n 0, 1) := by decide +kernel
theorem dX11_keepsLaw_104 : decode cX11_keepsLaw 104 = .ok (.getfield 43, 3) := by decide +kernel
theorem dX11_keepsLaw_107 : decode cX11_keepsLaw 107 = .ok (.iload_n 1, 1) := by decide +kernel
theorem dX11_keepsLaw_108 : decode cX11_keepsLaw 108 = .ok (.aload_n 0, 1) := by decide +kernel
theorem dX11_keepsLaw_109 : decode cX11_keepsLaw 109 = .ok (.aload_n 0, 1) := by decide +kernel
theorem dX11_keepsLaw_110 : decode cX11_keepsLaw 110 = .ok (.getfield 43, 3) := by decide +kernel
theorem dX11_keepsLaw_113 : decode cX11_keepsLaw 113 = .ok (.iload_n 1, 1) := by decide +kernel
theorem dX11_keepsLaw_114 : decode cX11_keepsLaw 114 = .ok (.iaload, 1) := by decide +kernel
theorem dX11_keepsLaw_115 : decode cX11_keepsLaw 115 = .ok (.invokevirtual 482, 3) := by decide +kernel
theorem dX11_keepsLaw_118 : decode cX11_keepsLaw 118 = .ok (.iastore, 1) := by decide +kernel
theorem dX11_keepsLaw_119 : decode cX11_keepsLaw 119 = .ok (.aload_n 0, 1) := by decide +kernel
theorem dX11_keepsLaw_120 : decode cX11_keepsLaw 120 = .ok (.getfield 46, 3) := by decide +kernel
theorem dX11_keepsLaw_123 : decode cX11_keepsLaw 123 = .ok (.iload_n 1, 1) := by decide +kernel
theorem dX11_keepsLaw_124 : decode cX11_keepsLaw 124 = .ok (.aload_n 0, 1) := by decide +kernel
theorem dX11_keepsLaw_125 : decode cX11_keepsLaw 125 = .ok (.aload_n 0, 1) := by decide +kernel
theorem dX11_keepsLaw_126 : decode cX11_keepsLaw 126 = .ok (.getfield 46, 3) := by decide +kernel
theorem dX11_keepsLaw_129 : decode cX11_keepsLaw 129 = .ok (.iload_n 1, 1) := by decide +kernel
theorem dX11_keepsLaw_130 : decode cX11_keepsLaw 130 = .ok (.iaload, 1) := by decide +kernel
theorem dX11_keepsLaw_131 : decode cX11_keepsLaw 131 = .ok (.invokevirtual 482, 3) := by decide +kernel
theorem dX11_keepsLaw_134 : decode cX11_keepsLaw 134 = .ok (.iastore, 1) := by decide +kernel
theorem dX11_keepsLaw_135 : decode cX11_keepsLaw 135 = .ok (.iinc 1 1, 3) := by decide +kernel
theorem dX11_keepsLaw_138 : decode cX11_keepsLaw 138 = .ok (.goto (-42), 3) := by decide +kernel
theorem dX11_keepsLaw_141 : decode cX11_keepsLaw 141 = .ok (.return_, 1) := by decide +kernel
theorem dX11_keepsTold_0 : decode cX11_keepsTold 0 = .ok (.aload_n 0, 1) := by decide +kernel
theorem dX11_keepsTold_1 : decode cX11_keepsTold 1 = .ok (.aload_n 0, 1) := by decide +kernel
theorem dX11_keepsTold_2 : decode cX11_keepsTold 2 = .ok (.aload_n 0, 1) := by decide +kernel
theorem dX11_keepsTold_3 : decode cX11_keepsTold 3 = .ok (.getfield 144, 3) := by decide +kernel
theorem dX11_keepsTold_6 : decode cX11_keepsTold 6 = .ok (.invokevirtual 482, 3) := by decide +kernel
theorem dX11_keepsTold_9 : decode cX11_keepsTold 9 = .ok (.putfield 144, 3) := by decide +kernel
theorem dX11_keepsTold_12 : decode cX11_keepsTold 12 = .ok (.aload_n 0, 1) := by decide +kernel
theorem dX11_keepsTold_13 : decode cX11_keepsTold 13 = .ok (.aload_n 0, 1) := by decide +kernel
theorem dX11_keepsTold_14 : decode cX11_keepsTold 14 = .ok (.aload_n 0, 1) := by decide +kernel
theorem dX11_keepsTold_15 : decode cX11_keepsTold 15 = .ok (.getfield 286, 3) := by decide +kernel
theorem dX11_keepsTold_18 : decode cX11_keepsTold 18 = .ok (.invokevirtual 482, 3) := by decide +kernel
theorem dX11_keepsTold_21 : decode cX11_keepsTold 21 = .ok (.putfield 286, 3) := by decide +kernel
theorem dX11_keepsTold_24 : decode cX11_keepsTold 24 = .ok (.aload_n 0, 1) := by decide +kernel
theorem dX11_keepsTold_25 : decode cX11_keepsTold 25 = .ok (.aload_n 0, 1) := by decide +kernel
theorem dX11_keepsTold_26 : decode cX11_keepsTold 26 = .ok (.aload_n 0, 1) := by decide +kernel
theorem dX11_keepsTold_27 : decode cX11_keepsTold 27 = .ok (.getfield 289, 3) := by decide +kernel
theorem dX11_keepsTold_30 : decode cX11_keepsTold 30 = .ok (.invokevirtual 482, 3) := by decide +kernel
theorem dX11_keepsTold_33 : decode cX11_keepsTold 33 = .ok (.putfield 289, 3) := by decide +kernel
theorem dX11_keepsTold_36 : decode cX11_keepsTold 36 = .ok (.aload_n 0, 1) := by decide +kernel
theorem dX11_keepsTold_37 : decode cX11_keepsTold 37 = .ok (.aload_n 0, 1) := by decide +kernel
theorem dX11_keepsTold_38 : decode cX11_keepsTold 38 = .ok (.aload_n 0, 1) := by decide +kernel
theorem dX11_keepsTold_39 : decode cX11_keepsTold 39 = .ok (.getfield 292, 3) := by decide +kernel
theorem dX11_keepsTold_42 : decode cX11_keepsTold 42 = .ok (.invokevirtual 482, 3) := by decide +kernel
theorem dX11_keepsTold_45 : decode cX11_keepsTold 45 = .ok (.putfield 292, 3) := by decide +kernel
theorem dX11_keepsTold_48 : decode cX11_keepsTold 48 = .ok (.aload_n 0, 1) := by decide +kernel
theorem dX11_keepsTold_49 : decode cX11_keepsTold 49 = .ok (.aload_n 0, 1) := by decide +kernel
theorem dX11_keepsTold_50 : decode cX11_keepsTold 50 = .ok (.aload_n 0, 1) := by decide +kernel
theorem dX11_keepsTold_51 : decode cX11_keepsTold 51 = .ok (.getfield 388, 3) := by decide +kernel
theorem dX11_keepsTold_54 : decode cX11_keepsTold 54 = .ok (.invokevirtual 482, 3) := by decide +kernel
theorem dX11_keepsTold_57 : decode cX11_keepsTold 57 = .ok (.putfield 388, 3) := by decide +kernel
theorem dX11_keepsTold_60 : decode cX11_keepsTold 60 = .ok (.aload_n 0, 1) := by decide +kernel
theorem dX11_keepsTold_61 : decode cX11_keepsTold 61 = .ok (.aload_n 0, 1) := by decide +kernel
theorem dX11_keepsTold_62 : decode cX11_keepsTold 62 = .ok (.aload_n 0, 1) := by decide +kernel
theorem dX11_keepsTold_63 : decode cX11_keepsTold 63 = .ok (.getfield 407, 3) := by decide +kernel
theorem dX11_keepsTold_66 : decode cX11_keepsTold 66 = .ok (.invokevirtual 482, 3) := by decide +kernel
theorem dX11_keepsTold_69 : decode cX11_keepsTold 69 = .ok (.putfield 407, 3) := by decide +kernel
theorem dX11_keepsTold_72 : decode cX11_keepsTold 72 = .ok (.aload_n 0, 1) := by decide +kernel
theorem dX11_keepsTold_73 : decode cX11_keepsTold 73 = .ok (.aload_n 0, 1) := by decide +kernel
theorem dX11_keepsTold_74 : decode cX11_keepsTold 74 = .ok (.aload_n 0, 1) := by decide +kernel
theorem dX11_keepsTold_75 : decode cX11_keepsTold 75 = .ok (.getfield 414, 3) := by decide +kernel
theorem dX11_keepsTold_78 : decode cX11_keepsTold 78 = .ok (.invokevirtual 482, 3) := by decide +kernel
theorem dX11_keepsTold_81 : decode cX11_keepsTold 81 = .ok (.putfield 414, 3) := by decide +kernel
theorem dX11_keepsTold_84 : decode cX11_keepsTold 84 = .ok (.aload_n 0, 1) := by decide +kernel
theorem dX11_keepsTold_85 : decode cX11_keepsTold 85 = .ok (.aload_n 0, 1) := by decide +kernel
theorem dX11_keepsTold_86 : decode cX11_keepsTold 86 = .ok (.aload_n 0, 1) := by decide +kernel
theorem dX11_keepsTold_87 : decode cX11_keepsTold 87 = .ok (.getfield 438, 3) := by decide +kernel
theorem dX11_keepsTold_90 : decode cX11_keepsTold 90 = .ok (.invokevirtual 482, 3) := by decide +kernel
theorem dX11_keepsTold_93 : decode cX11_keepsTold 93 = .ok (.putfield 438, 3) := by decide +kernel
theorem dX11_keepsTold_96 : decode cX11_keepsTold 96 = .ok (.aload_n 0, 1) := by decide +kernel
theorem dX11_keepsTold_97 : decode cX11_keepsTold 97 = .ok (.aload_n 0, 1) := by decide +kernel
theorem dX11_keepsTold_98 : decode cX11_keepsTold 98 = .ok (.aload_n 0, 1) := by decide +kernel
theorem dX11_keepsTold_99 : decode cX11_keepsTold 99 = .ok (.getfield 461, 3) := by decide +kernel
theorem dX11_keepsTold_102 : decode cX11_keepsTold 102 = .ok (.invokevirtual 482, 3) := by decide +kernel
theorem dX11_keepsTold_105 : decode cX11_keepsTold 105 = .ok (.putfield 461, 3) := by decide +kernel
theorem dX11_keepsTold_108 : decode cX11_keepsTold 108 = .ok (.iconst 0, 1) := by decide +kernel
theorem dX11_keepsTold_109 : decode cX11_keepsTold 109 = .ok (.istore_n 1, 1) := by decide +kernel
theorem dX11_keepsTold_110 : decode cX11_keepsTold 110 = .ok (.iload_n 1, 1) := by decide +kernel
theorem dX11_keepsTold_111 : decode cX11_keepsTold 111 = .ok (.bipush 16, 2) := by decide +kernel
theorem dX11_keepsTold_113 : decode cX11_keepsTold 113 = .ok (.if_icmp .ge 41, 3) := by decide +kernel
theorem dX11_keepsTold_116 : decode cX11_keepsTold 116 = .ok (.aload_n 0, 1) := by decide +kernel
theorem dX11_keepsTold_117 : decode cX11_keepsTold 117 = .ok (.getfield 59, 3) := by decide +kernel
theorem dX11_keepsTold_120 : decode cX11_keepsTold 120 = .ok (.iload_n 1, 1) := by decide +kernel
theorem dX11_keepsTold_121 : decode cX11_keepsTold 121 = .ok (.aload_n 0, 1) := by decide +kernel
theorem dX11_keepsTold_122 : decode cX11_keepsTold 122 = .ok (.aload_n 0, 1) := by decide +kernel
theorem dX11_keepsTold_123 : decode cX11_keepsTold 123 = .ok (.getfield 59, 3) := by decide +kernel
theorem dX11_keepsTold_126 : decode cX11_keepsTold 126 = .ok (.iload_n 1, 1) := by decide +kernel
theorem dX11_keepsTold_127 : decode cX11_keepsTold 127 = .ok (.iaload, 1) := by decide +kernel
theorem dX11_keepsTold_128 : decode cX11_keepsTold 128 = .ok (.invokevirtual 482, 3) := by decide +kernel
theorem dX11_keepsTold_131 : decode cX11_keepsTold 131 = .ok (.iastore, 1) := by decide +kernel
theorem dX11_keepsTold_132 : decode cX11_keepsTold 132 = .ok (.aload_n 0, 1) := by decide +kernel
theorem dX11_keepsTold_133 : decode cX11_keepsTold 133 = .ok (.getfield 62, 3) := by decide +kernel
theorem dX11_keepsTold_136 : decode cX11_keepsTold 136 = .ok (.iload_n 1, 1) := by decide +kernel
theorem dX11_keepsTold_137 : decode cX11_keepsTold 137 = .ok (.aload_n 0, 1) := by decide +kernel
theorem dX11_keepsTold_138 : decode cX11_keepsTold 138 = .ok (.aload_n 0, 1) := by decide +kernel
theorem dX11_keepsTold_139 : decode cX11_keepsTold 139 = .ok (.getfield 62, 3) := by decide +kernel
theorem dX11_keepsTold_142 : decode cX11_keepsTold 142 = .ok (.iload_n 1, 1) := by decide +kernel
theorem dX11_keepsTold_143 : decode cX11_keepsTold 143 = .ok (.iaload, 1) := by decide +kernel
theorem dX11_keepsTold_144 : decode cX11_keepsTold 144 = .ok (.invokevirtual 482, 3) := by decide +kernel
theorem dX11_keepsTold_147 : decode cX11_keepsTold 147 = .ok (.iastore, 1) := by decide +kernel
theorem dX11_keepsTold_148 : decode cX11_keepsTold 148 = .ok (.iinc 1 1, 3) := by decide +kernel
theorem dX11_keepsTold_151 : decode cX11_keepsTold 151 = .ok (.goto (-41), 3) := by decide +kernel
theorem dX11_keepsTold_154 : decode cX11_keepsTold 154 = .ok (.iconst 0, 1) := by decide +kernel
theorem dX11_keepsTold_155 : decode cX11_keepsTold 155 = .ok (.istore_n 1, 1) := by decide +kernel
theorem dX11_keepsTold_156 : decode cX11_keepsTold 156 = .ok (.iload_n 1, 1) := by decide +kernel
theorem dX11_keepsTold_157 : decode cX11_keepsTold 157 = .ok (.bipush 14, 2) := by decide +kernel
theorem dX11_keepsTold_159 : decode cX11_keepsTold 159 = .ok (.if_icmp .ge 41, 3) := by decide +kernel
theorem dX11_keepsTold_162 : decode cX11_keepsTold 162 = .ok (.aload_n 0, 1) := by decide +kernel
theorem dX11_keepsTold_163 : decode cX11_keepsTold 163 = .ok (.getfield 107, 3) := by decide +kernel
theorem dX11_keepsTold_166 : decode cX11_keepsTold 166 = .ok (.iload_n 1, 1) := by decide +kernel
theorem dX11_keepsTold_167 : decode cX11_keepsTold 167 = .ok (.aload_n 0, 1) := by decide +kernel
theorem dX11_keepsTold_168 : decode cX11_keepsTold 168 = .ok (.aload_n 0, 1) := by decide +kernel
theorem dX11_keepsTold_169 : decode cX11_keepsTold 169 = .ok (.getfield 107, 3) := by decide +kernel
theorem dX11_keepsTold_172 : decode cX11_keepsTold 172 = .ok (.iload_n 1, 1) := by decide +kernel
theorem dX11_keepsTold_173 : decode cX11_keepsTold 173 = .ok (.iaload, 1) := by decide +kernel
theorem dX11_keepsTold_174 : decode cX11_keepsTold 174 = .ok (.invokevirtual 482, 3) := by decide +kernel
theorem dX11_keepsTold_177 : decode cX11_keepsTold 177 = .ok (.iastore, 1) := by decide +kernel
theorem dX11_keepsTold_178 : decode cX11_keepsTold 178 = .ok (.aload_n 0, 1) := by decide +kernel
theorem dX11_keepsTold_179 : decode cX11_keepsTold 179 = .ok (.getfield 110, 3) := by decide +kernel
theorem dX11_keepsTold_182 : decode cX11_keepsTold 182 = .ok (.iload_n 1, 1) := by decide +kernel
theorem dX11_keepsTold_183 : decode cX11_keepsTold 183 = .ok (.aload_n 0, 1) := by decide +kernel
theorem dX11_keepsTold_184 : decode cX11_keepsTold 184 = .ok (.aload_n 0, 1) := by decide +kernel
theorem dX11_keepsTold_185 : decode cX11_keepsTold 185 = .ok (.getfield 110, 3) := by decide +kernel
theorem dX11_keepsTold_188 : decode cX11_keepsTold 188 = .ok (.iload_n 1, 1) := by decide +kernel
theorem dX11_keepsTold_189 : decode cX11_keepsTold 189 = .ok (.iaload, 1) := by decide +kernel
theorem dX11_keepsTold_190 : decode cX11_keepsTold 190 = .ok (.invokevirtual 482, 3) := by decide +kernel
theorem dX11_keepsTold_193 : decode cX11_keepsTold 193 = .ok (.iastore, 1) := by decide +kernel
theorem dX11_keepsTold_194 : decode cX11_keepsTold 194 = .ok (.iinc 1 1, 3) := by decide +kernel
theorem dX11_keepsTold_197 : decode cX11_keepsTold 197 = .ok (.goto (-41), 3) := by decide +kernel
theorem dX11_keepsTold_200 : decode cX11_keepsTold 200 = .ok (.iconst 0, 1) := by decide +kernel
theorem dX11_keepsTold_201 : decode cX11_keepsTold 201 = .ok (.istore_n 1, 1) := by decide +kernel
theorem dX11_keepsTold_202 : decode cX11_keepsTold 202 = .ok (.iload_n 1, 1) := by decide +kernel
theorem dX11_keepsTold_203 : decode cX11_keepsTold 203 = .ok (.bipush 12, 2) := by decide +kernel
theorem dX11_keepsTold_205 : decode cX11_keepsTold 205 = .ok (.if_icmp .ge 25, 3) := by decide +kernel
theorem dX11_keepsTold_208 : decode cX11_keepsTold 208 = .ok (.aload_n 0, 1) := by decide +kernel
theorem dX11_keepsTold_209 : decode cX11_keepsTold 209 = .ok (.getfield 74, 3) := by decide +kernel
theorem dX11_keepsTold_212 : decode cX11_keepsTold 212 = .ok (.iload_n 1, 1) := by decide +kernel
theorem dX11_keepsTold_213 : decode cX11_keepsTold 213 = .ok (.aload_n 0, 1) := by decide +kernel
theorem dX11_keepsTold_214 : decode cX11_keepsTold 214 = .ok (.aload_n 0, 1) := by decide +kernel
theorem dX11_keepsTold_215 : decode cX11_keepsTold 215 = .ok (.getfield 74, 3) := by decide +kernel
theorem dX11_keepsTold_218 : decode cX11_keepsTold 218 = .ok (.iload_n 1, 1) := by decide +kernel
theorem dX11_keepsTold_219 : decode cX11_keepsTold 219 = .ok (.iaload, 1) := by decide +kernel
theorem dX11_keepsTold_220 : decode cX11_keepsTold 220 = .ok (.invokevirtual 482, 3) := by decide +kernel
theorem dX11_keepsTold_223 : decode cX11_keepsTold 223 = .ok (.iastore, 1) := by decide +kernel
theorem dX11_keepsTold_224 : decode cX11_keepsTold 224 = .ok (.iinc 1 1, 3) := by decide +kernel
theorem dX11_keepsTold_227 : decode cX11_keepsTold 227 = .ok (.goto (-25), 3) := by decide +kernel
theorem dX11_keepsTold_230 : decode cX11_keepsTold 230 = .ok (.iconst 0, 1) := by decide +kernel
theorem dX11_keepsTold_231 : decode cX11_keepsTold 231 = .ok (.istore_n 1, 1) := by decide +kernel
theorem dX11_keepsTold_232 : decode cX11_keepsTold 232 = .ok (.iload_n 1, 1) := by decide +kernel
theorem dX11_keepsTold_233 : decode cX11_keepsTold 233 = .ok (.bipush 10, 2) := by decide +kernel
theorem dX11_keepsTold_235 : decode cX11_keepsTold 235 = .ok (.if_icmp .ge 57, 3) := by decide +kernel
theorem dX11_keepsTold_238 : decode cX11_keepsTold 238 = .ok (.aload_n 0, 1) := by decide +kernel
theorem dX11_keepsTold_239 : decode cX11_keepsTold 239 = .ok (.getfield 98, 3) := by decide +kernel
theorem dX11_keepsTold_242 : decode cX11_keepsTold 242 = .ok (.iload_n 1, 1) := by decide +kernel
theorem dX11_keepsTold_243 : decode cX11_keepsTold 243 = .ok (.aload_n 0, 1) := by decide +kernel
theorem dX11_keepsTold_244 : decode cX11_keepsTold 244 = .ok (.aload_n 0, 1) := by decide +kernel
theorem dX11_keepsTold_245 : decode cX11_keepsTold 245 = .ok (.getfield 98, 3) := by decide +kernel
theorem dX11_keepsTold_248 : decode cX11_keepsTold 248 = .ok (.iload_n 1, 1) := by decide +kernel
theorem dX11_keepsTold_249 : decode cX11_keepsTold 249 = .ok (.iaload, 1) := by decide +kernel
theorem dX11_keepsTold_250 : decode cX11_keepsTold 250 = .ok (.invokevirtual 482, 3) := by decide +kernel
theorem dX11_keepsTold_253 : decode cX11_keepsTold 253 = .ok (.iastore, 1) := by decide +kernel
theorem dX11_keepsTold_254 : decode cX11_keepsTold 254 = .ok (.aload_n 0, 1) := by decide +kernel
theorem dX11_keepsTold_255 : decode cX11_keepsTold 255 = .ok (.getfield 116, 3) := by decide +kernel
theorem dX11_keepsTold_258 : decode cX11_keepsTold 258 = .ok (.iload_n 1, 1) := by decide +kernel
theorem dX11_keepsTold_259 : decode cX11_keepsTold 259 = .ok (.aload_n 0, 1) := by decide +kernel
theorem dX11_keepsTold_260 : decode cX11_keepsTold 260 = .ok (.aload_n 0, 1) := by decide +kernel
theorem dX11_keepsTold_261 : decode cX11_keepsTold 261 = .ok (.getfield 116, 3) := by decide +kernel
theorem dX11_keepsTold_264 : decode cX11_keepsTold 264 = .ok (.iload_n 1, 1) := by decide +kernel
theorem dX11_keepsTold_265 : decode cX11_keepsTold 265 = .ok (.iaload, 1) := by decide +kernel
theorem dX11_keepsTold_266 : decode cX11_keepsTold 266 = .ok (.invokevirtual 482, 3) := by decide +kernel
theorem dX11_keepsTold_269 : decode cX11_keepsTold 269 = .ok (.iastore, 1) := by decide +kernel
theorem dX11_keepsTold_270 : decode cX11_keepsTold 270 = .ok (.aload_n 0, 1) := by decide +kernel
theorem dX11_keepsTold_271 : decode cX11_keepsTold 271 = .ok (.getfield 119, 3) := by decide +kernel
theorem dX11_keepsTold_274 : decode cX11_keepsTold 274 = .ok (.iload_n 1, 1) := by decide +kernel
theorem dX11_keepsTold_275 : decode cX11_keepsTold 275 = .ok (.aload_n 0, 1) := by decide +kernel
theorem dX11_keepsTold_276 : decode cX11_keepsTold 276 = .ok (.aload_n 0, 1) := by decide +kernel
theorem dX11_keepsTold_277 : decode cX11_keepsTold 277 = .ok (.getfield 119, 3) := by decide +kernel
theorem dX11_keepsTold_280 : decode cX11_keepsTold 280 = .ok (.iload_n 1, 1) := by decide +kernel
theorem dX11_keepsTold_281 : decode cX11_keepsTold 281 = .ok (.iaload, 1) := by decide +kernel
theorem dX11_keepsTold_282 : decode cX11_keepsTold 282 = .ok (.invokevirtual 482, 3) := by decide +kernel
theorem dX11_keepsTold_285 : decode cX11_keepsTold 285 = .ok (.iastore, 1) := by decide +kernel
theorem dX11_keepsTold_286 : decode cX11_keepsTold 286 = .ok (.iinc 1 1, 3) := by decide +kernel
theorem dX11_keepsTold_289 : decode cX11_keepsTold 289 = .ok (.goto (-57), 3) := by decide +kernel
theorem dX11_keepsTold_292 : decode cX11_keepsTold 292 = .ok (.iconst 0, 1) := by decide +kernel
theorem dX11_keepsTold_293 : decode cX11_keepsTold 293 = .ok (.istore_n 1, 1) := by decide +kernel
theorem dX11_keepsTold_294 : decode cX11_keepsTold 294 = .ok (.iload_n 1, 1) := by decide +kernel
theorem dX11_keepsTold_295 : decode cX11_keepsTold 295 = .ok (.bipush 9, 2) := by decide +kernel
theorem dX11_keepsTold_297 : decode cX11_keepsTold 297 = .ok (.if_icmp .ge 57, 3) := by decide +kernel
theorem dX11_keepsTold_300 : decode cX11_keepsTold 300 = .ok (.aload_n 0, 1) := by decide +kernel
theorem dX11_keepsTold_301 : decode cX11_keepsTold 301 = .ok (.getfield 86, 3) := by decide +kernel
theorem dX11_keepsTold_304 : decode cX11_keepsTold 304 = .ok (.iload_n 1, 1) := by decide +kernel
theorem dX11_keepsTold_305 : decode cX11_keepsTold 305 = .ok (.aload_n 0, 1) := by decide +kernel
theorem dX11_keepsTold_306 : decode cX11_keepsTold 306 = .ok (.aload_n 0, 1) := by decide +kernel
theorem dX11_keepsTold_307 : decode cX11_keepsTold 307 = .ok (.getfield 86, 3) := by decide +kernel
theorem dX11_keepsTold_310 : decode cX11_keepsTold 310 = .ok (.iload_n 1, 1) := by decide +kernel
theorem dX11_keepsTold_311 : decode cX11_keepsTold 311 = .ok (.iaload, 1) := by decide +kernel
theorem dX11_keepsTold_312 : decode cX11_keepsTold 312 = .ok (.invokevirtual 482, 3) := by decide +kernel
theorem dX11_keepsTold_315 : decode cX11_keepsTold 315 = .ok (.iastore, 1) := by decide +kernel
theorem dX11_keepsTold_316 : decode cX11_keepsTold 316 = .ok (.aload_n 0, 1) := by decide +kernel
theorem dX11_keepsTold_317 : decode cX11_keepsTold 317 = .ok (.getfield 89, 3) := by decide +kernel
theorem dX11_keepsTold_320 : decode cX11_keepsTold 320 = .ok (.iload_n 1, 1) := by decide +kernel
theorem dX11_keepsTold_321 : decode cX11_keepsTold 321 = .ok (.aload_n 0, 1) := by decide +kernel
theorem dX11_keepsTold_322 : decode cX11_keepsTold 322 = .ok (.aload_n 0, 1) := by decide +kernel
theorem dX11_keepsTold_323 : decode cX11_keepsTold 323 = .ok (.getfield 89, 3) := by decide +kernel
theorem dX11_keepsTold_326 : decode cX11_keepsTold 326 = .ok (.iload_n 1, 1) := by decide +kernel
theorem dX11_keepsTold_327 : decode cX11_keepsTold 327 = .ok (.iaload, 1) := by decide +kernel
theorem dX11_keepsTold_328 : decode cX11_keepsTold 328 = .ok (.invokevirtual 482, 3) := by decide +kernel
theorem dX11_keepsTold_331 : decode cX11_keepsTold 331 = .ok (.iastore, 1) := by decide +kernel
theorem dX11_keepsTold_332 : decode cX11_keepsTold 332 = .ok (.aload_n 0, 1) := by decide +kernel
theorem dX11_keepsTold_333 : decode cX11_keepsTold 333 = .ok (.getfield 92, 3) := by decide +kernel
theorem dX11_keepsTold_336 : decode cX11_keepsTold 336 = .ok (.iload_n 1, 1) := by decide +kernel
theorem dX11_keepsTold_337 : decode cX11_keepsTold 337 = .ok (.aload_n 0, 1) := by decide +kernel
theorem dX11_keepsTold_338 : decode cX11_keepsTold 338 = .ok (.aload_n 0, 1) := by decide +kernel
theorem dX11_keepsTold_339 : decode cX11_keepsTold 339 = .ok (.getfield 92, 3) := by decide +kernel
theorem dX11_keepsTold_342 : decode cX11_keepsTold 342 = .ok (.iload_n 1, 1) := by decide +kernel
theorem dX11_keepsTold_343 : decode cX11_keepsTold 343 = .ok (.iaload, 1) := by decide +kernel
theorem dX11_keepsTold_344 : decode cX11_keepsTold 344 = .ok (.invokevirtual 482, 3) := by decide +kernel
theorem dX11_keepsTold_347 : decode cX11_keepsTold 347 = .ok (.iastore, 1) := by decide +kernel
theorem dX11_keepsTold_348 : decode cX11_keepsTold 348 = .ok (.iinc 1 1, 3) := by decide +kernel
theorem dX11_keepsTold_351 : decode cX11_keepsTold 351 = .ok (.goto (-57), 3) := by decide +kernel
theorem dX11_keepsTold_354 : decode cX11_keepsTold 354 = .ok (.iconst 0, 1) := by decide +kernel
theorem dX11_keepsTold_355 : decode cX11_keepsTold 355 = .ok (.istore_n 1, 1) := by decide +kernel
theorem dX11_keepsTold_356 : decode cX11_keepsTold 356 = .ok (.iload_n 1, 1) := by decide +kernel
theorem dX11_keepsTold_357 : decode cX11_keepsTold 357 = .ok (.bipush 64, 2) := by decide +kernel
theorem dX11_keepsTold_359 : decode cX11_keepsTold 359 = .ok (.if_icmp .ge 25, 3) := by decide +kernel
theorem dX11_keepsTold_362 : decode cX11_keepsTold 362 = .ok (.aload_n 0, 1) := by decide +kernel
theorem dX11_keepsTold_363 : decode cX11_keepsTold 363 = .ok (.getfield 56, 3) := by decide +kernel
theorem dX11_keepsTold_366 : decode cX11_keepsTold 366 = .ok (.iload_n 1, 1) := by decide +kernel
theorem dX11_keepsTold_367 : decode cX11_keepsTold 367 = .ok (.aload_n 0, 1) := by decide +kernel
theorem dX11_keepsTold_368 : decode cX11_keepsTold 368 = .ok (.aload_n 0, 1) := by decide +kernel
theorem dX11_keepsTold_369 : decode cX11_keepsTold 369 = .ok (.getfield 56, 3) := by decide +kernel
theorem dX11_keepsTold_372 : decode cX11_keepsTold 372 = .ok (.iload_n 1, 1) := by decide +kernel
theorem dX11_keepsTold_373 : decode cX11_keepsTold 373 = .ok (.iaload, 1) := by decide +kernel
theorem dX11_keepsTold_374 : decode cX11_keepsTold 374 = .ok (.invokevirtual 482, 3) := by decide +kernel
theorem dX11_keepsTold_377 : decode cX11_keepsTold 377 = .ok (.iastore, 1) := by decide +kernel
theorem dX11_keepsTold_378 : decode cX11_keepsTold 378 = .ok (.iinc 1 1, 3) := by decide +kernel
theorem dX11_keepsTold_381 : decode cX11_keepsTold 381 = .ok (.goto (-25), 3) := by decide +kernel
theorem dX11_keepsTold_384 : decode cX11_keepsTold 384 = .ok (.return_, 1) := by decide +kernel
theorem dX11_image_0 : decode cX11_image 0 = .ok (.aload_n 0, 1) := by decide +kernel
theorem dX11_image_1 : decode cX11_image 1 = .ok (.iconst 0, 1) := by decide +kernel
theorem dX11_image_2 : decode cX11_image 2 = .ok (.putfield 132, 3) := by decide +kernel
theorem dX11_image_5 : decode cX11_image 5 = .ok (.iload_n 1, 1) := by decide +kernel
theorem dX11_image_6 : decode cX11_image 6 = .ok (.ifCond .ne 12, 3) := by decide +kernel
theorem dX11_image_9 : decode cX11_image 9 = .ok (.aload_n 0, 1) := by decide +kernel
theorem dX11_image_10 : decode cX11_image 10 = .ok (.getfield 485, 3) := by decide +kernel
theorem dX11_image_13 : decode cX11_image 13 = .ok (.ifCond .ne 5, 3) := by decide +kernel
theorem dX11_image_16 : decode cX11_image 16 = .ok (.iconst 0, 1) := by decide +kernel
theorem dX11_image_17 : decode cX11_image 17 = .ok (.ireturn, 1) := by decide +kernel
theorem dX11_image_18 : decode cX11_image 18 = .ok (.aload_n 0, 1) := by decide +kernel
theorem dX11_image_19 : decode cX11_image 19 = .ok (.iload_n 1, 1) := by decide +kernel
theorem dX11_image_20 : decode cX11_image 20 = .ok (.putfield 479, 3) := by decide +kernel
theorem dX11_image_23 : decode cX11_image 23 = .ok (.aload_n 0, 1) := by decide +kernel
theorem dX11_image_24 : decode cX11_image 24 = .ok (.iconst 1, 1) := by decide +kernel
theorem dX11_image_25 : decode cX11_image 25 = .ok (.putfield 485, 3) := by decide +kernel
theorem dX11_image_28 : decode cX11_image 28 = .ok (.aload_n 0, 1) := by decide +kernel
theorem dX11_image_29 : decode cX11_image 29 = .ok (.iconst 0, 1) := by decide +kernel
theorem dX11_image_30 : decode cX11_image 30 = .ok (.putfield 476, 3) := by decide +kernel
theorem dX11_image_33 : decode cX11_image 33 = .ok (.iconst 0, 1) := by decide +kernel
theorem dX11_image_34 : decode cX11_image 34 = .ok (.istore_n 2, 1) := by decide +kernel
theorem dX11_image_35 : decode cX11_image 35 = .ok (.iload_n 2, 1) := by decide +kernel
theorem dX11_image_36 : decode cX11_image 36 = .ok (.bipush 103, 2) := by decide +kernel
theorem dX11_image_38 : decode cX11_image 38 = .ok (.if_icmp .ge 25, 3) := by decide +kernel
theorem dX11_image_41 : decode cX11_image 41 = .ok (.aload_n 0, 1) := by decide +kernel
theorem dX11_image_42 : decode cX11_image 42 = .ok (.getfield 7, 3) := by decide +kernel
theorem dX11_image_45 : decode cX11_image 45 = .ok (.iload_n 2, 1) := by decide +kernel
theorem dX11_image_46 : decode cX11_image 46 = .ok (.aload_n 0, 1) := by decide +kernel
theorem dX11_image_47 : decode cX11_image 47 = .ok (.aload_n 0, 1) := by decide +kernel
theorem dX11_image_48 : decode cX11_image 48 = .ok (.getfield 7, 3) := by decide +kernel
theorem dX11_image_51 : decode cX11_image 51 = .ok (.iload_n 2, 1) := by decide +kernel
theorem dX11_image_52 : decode cX11_image 52 = .ok (.iaload, 1) := by decide +kernel
theorem dX11_image_53 : decode cX11_image 53 = .ok (.invokevirtual 482, 3) := by decide +kernel
theorem dX11_image_56 : decode cX11_image 56 = .ok (.iastore, 1) := by decide +kernel
theorem dX11_image_57 : decode cX11_image 57 = .ok (.iinc 2 1, 3) := by decide +kernel
theorem dX11_image_60 : decode cX11_image 60 = .ok (.goto (-25), 3) := by decide +kernel
theorem dX11_image_63 : decode cX11_image 63 = .ok (.aload_n 0, 1) := by decide +kernel
theorem dX11_image_64 : decode cX11_image 64 = .ok (.invokevirtual 488, 3) := by decide +kernel
theorem dX11_image_67 : decode cX11_image 67 = .ok (.iconst 0, 1) := by decide +kernel
theorem dX11_image_68 : decode cX11_image 68 = .ok (.istore_n 2, 1) := by decide +kernel
theorem dX11_image_69 : decode cX11_image 69 = .ok (.iload_n 2, 1) := by decide +kernel
theorem dX11_image_70 : decode cX11_image 70 = .ok (.sipush 600, 3) := by decide +kernel
theorem dX11_image_73 : decode cX11_image 73 = .ok (.if_icmp .ge 25, 3) := by decide +kernel
theorem dX11_image_76 : decode cX11_image 76 = .ok (.aload_n 0, 1) := by decide +kernel
theorem dX11_image_77 : decode cX11_image 77 = .ok (.getfield 19, 3) := by decide +kernel
theorem dX11_image_80 : decode cX11_image 80 = .ok (.iload_n 2, 1) := by decide +kernel
theorem dX11_image_81 : decode cX11_image 81 = .ok (.aload_n 0, 1) := by decide +kernel
theorem dX11_image_82 : decode cX11_image 82 = .ok (.aload_n 0, 1) := by decide +kernel
theorem dX11_image_83 : decode cX11_image 83 = .ok (.getfield 19, 3) := by decide +kernel
theorem dX11_image_86 : decode cX11_image 86 = .ok (.iload_n 2, 1) := by decide +kernel
theorem dX11_image_87 : decode cX11_image 87 = .ok (.iaload, 1) := by decide +kernel
theorem dX11_image_88 : decode cX11_image 88 = .ok (.invokevirtual 482, 3) := by decide +kernel
theorem dX11_image_91 : decode cX11_image 91 = .ok (.iastore, 1) := by decide +kernel
theorem dX11_image_92 : decode cX11_image 92 = .ok (.iinc 2 1, 3) := by decide +kernel
theorem dX11_image_95 : decode cX11_image 95 = .ok (.goto (-26), 3) := by decide +kernel
theorem dX11_image_98 : decode cX11_image 98 = .ok (.aload_n 0, 1) := by decide +kernel
theorem dX11_image_99 : decode cX11_image 99 = .ok (.invokevirtual 491, 3) := by decide +kernel
theorem dX11_image_102 : decode cX11_image 102 = .ok (.iload_n 1, 1) := by decide +kernel
theorem dX11_image_103 : decode cX11_image 103 = .ok (.ifCond .ne 8, 3) := by decide +kernel
theorem dX11_image_106 : decode cX11_image 106 = .ok (.aload_n 0, 1) := by decide +kernel
theorem dX11_image_107 : decode cX11_image 107 = .ok (.iconst 0, 1) := by decide +kernel
theorem dX11_image_108 : decode cX11_image 108 = .ok (.putfield 135, 3) := by decide +kernel
theorem dX11_image_111 : decode cX11_image 111 = .ok (.iconst 1, 1) := by decide +kernel
theorem dX11_image_112 : decode cX11_image 112 = .ok (.ireturn, 1) := by decide +kernel
theorem dX11_look_0 : decode cX11_look 0 = .ok (.aload_n 0, 1) := by decide +kernel
theorem dX11_look_1 : decode cX11_look 1 = .ok (.iconst 0, 1) := by decide +kernel
theorem dX11_look_2 : decode cX11_look 2 = .ok (.putfield 132, 3) := by decide +kernel
theorem dX11_look_5 : decode cX11_look 5 = .ok (.iload_n 1, 1) := by decide +kernel
theorem dX11_look_6 : decode cX11_look 6 = .ok (.ifCond .ne 8, 3) := by decide +kernel
theorem dX11_look_9 : decode cX11_look 9 = .ok (.aload_n 0, 1) := by decide +kernel
theorem dX11_look_10 : decode cX11_look 10 = .ok (.getfield 144, 3) := by decide +kernel
theorem dX11_look_13 : decode cX11_look 13 = .ok (.ireturn, 1) := by decide +kernel
theorem dX11_look_14 : decode cX11_look 14 = .ok (.iload_n 1, 1) := by decide +kernel
theorem dX11_look_15 : decode cX11_look 15 = .ok (.iconst 1, 1) := by decide +kernel
theorem dX11_look_16 : decode cX11_look 16 = .ok (.if_icmp .ne 10, 3) := by decide +kernel
theorem dX11_look_19 : decode cX11_look 19 = .ok (.aload_n 0, 1) := by decide +kernel
theorem dX11_look_20 : decode cX11_look 20 = .ok (.getfield 7, 3) := by decide +kernel
theorem dX11_look_23 : decode cX11_look 23 = .ok (.iconst 5, 1) := by decide +kernel
theorem dX11_look_24 : decode cX11_look 24 = .ok (.iaload, 1) := by decide +kernel
theorem dX11_look_25 : decode cX11_look 25 = .ok (.ireturn, 1) := by decide +kernel
theorem dX11_look_26 : decode cX11_look 26 = .ok (.iload_n 1, 1) := by decide +kernel
theorem dX11_look_27 : decode cX11_look 27 = .ok (.iconst 2, 1) := by decide +kernel
theorem dX11_look_28 : decode cX11_look 28 = .ok (.if_icmp .ne 10, 3) := by decide +kernel
theorem dX11_look_31 : decode cX11_look 31 = .ok (.aload_n 0, 1) := by decide +kernel
theorem dX11_look_32 : decode cX11_look 32 = .ok (.getfield 7, 3) := by decide +kernel
theorem dX11_look_35 : decode cX11_look 35 = .ok (.iconst 3, 1) := by decide +kernel
theorem dX11_look_36 : decode cX11_look 36 = .ok (.iaload, 1) := by decide +kernel
theorem dX11_look_37 : decode cX11_look 37 = .ok (.ireturn, 1) := by decide +kernel
theorem dX11_look_38 : decode cX11_look 38 = .ok (.iload_n 1, 1) := by decide +kernel
theorem dX11_look_39 : decode cX11_look 39 = .ok (.iconst 3, 1) := by decide +kernel
theorem dX11_look_40 : decode cX11_look 40 = .ok (.if_icmp .ne 10, 3) := by decide +kernel
theorem dX11_look_43 : decode cX11_look 43 = .ok (.aload_n 0, 1) := by decide +kernel
theorem dX11_look_44 : decode cX11_look 44 = .ok (.getfield 7, 3) := by decide +kernel
theorem dX11_look_47 : decode cX11_look 47 = .ok (.iconst 4, 1) := by decide +kernel
theorem dX11_look_48 : decode cX11_look 48 = .ok (.iaload, 1) := by decide +kernel
theorem dX11_look_49 : decode cX11_look 49 = .ok (.ireturn, 1) := by decide +kernel
theorem dX11_look_50 : decode cX11_look 50 = .ok (.iload_n 1, 1) := by decide +kernel
theorem dX11_look_51 : decode cX11_look 51 = .ok (.iconst 4, 1) := by decide +kernel
theorem dX11_look_52 : decode cX11_look 52 = .ok (.if_icmp .ne 22, 3) := by decide +kernel
theorem dX11_look_55 : decode cX11_look 55 = .ok (.aload_n 0, 1) := by decide +kernel
theorem dX11_look_56 : decode cX11_look 56 = .ok (.getfield 144, 3) := by decide +kernel
theorem dX11_look_59 : decode cX11_look 59 = .ok (.ifCond .ne 7, 3) := by decide +kernel
theorem dX11_look_62 : decode cX11_look 62 = .ok (.iconst (-1), 1) := by decide +kernel
theorem dX11_look_63 : decode cX11_look 63 = .ok (.goto 10, 3) := by decide +kernel
theorem dX11_look_66 : decode cX11_look 66 = .ok (.aload_n 0, 1) := by decide +kernel
theorem dX11_look_67 : decode cX11_look 67 = .ok (.getfield 7, 3) := by decide +kernel
theorem dX11_look_70 : decode cX11_look 70 = .ok (.bipush 6, 2) := by decide +kernel
theorem dX11_look_72 : decode cX11_look 72 = .ok (.iaload, 1) := by decide +kernel
theorem dX11_look_73 : decode cX11_look 73 = .ok (.ireturn, 1) := by decide +kernel
theorem dX11_look_74 : decode cX11_look 74 = .ok (.iload_n 1, 1) := by decide +kernel
theorem dX11_look_75 : decode cX11_look 75 = .ok (.bipush 6, 2) := by decide +kernel
theorem dX11_look_77 : decode cX11_look 77 = .ok (.if_icmp .ne 10, 3) := by decide +kernel
theorem dX11_look_80 : decode cX11_look 80 = .ok (.aload_n 0, 1) := by decide +kernel
theorem dX11_look_81 : decode cX11_look 81 = .ok (.getfield 7, 3) := by decide +kernel
theorem dX11_look_84 : decode cX11_look 84 = .ok (.iconst 0, 1) := by decide +kernel
theorem dX11_look_85 : decode cX11_look 85 = .ok (.iaload, 1) := by decide +kernel
theorem dX11_look_86 : decode cX11_look 86 = .ok (.ireturn, 1) := by decide +kernel
theorem dX11_look_87 : decode cX11_look 87 = .ok (.iload_n 1, 1) := by decide +kernel
theorem dX11_look_88 : decode cX11_look 88 = .ok (.bipush 7, 2) := by decide +kernel
theorem dX11_look_90 : decode cX11_look 90 = .ok (.if_icmp .ne 10, 3) := by decide +kernel
theorem dX11_look_93 : decode cX11_look 93 = .ok (.aload_n 0, 1) := by decide +kernel
theorem dX11_look_94 : decode cX11_look 94 = .ok (.getfield 7, 3) := by decide +kernel
theorem dX11_look_97 : decode cX11_look 97 = .ok (.iconst 2, 1) := by decide +kernel
theorem dX11_look_98 : decode cX11_look 98 = .ok (.iaload, 1) := by decide +kernel
theorem dX11_look_99 : decode cX11_look 99 = .ok (.ireturn, 1) := by decide +kernel
theorem dX11_look_100 : decode cX11_look 100 = .ok (.iload_n 1, 1) := by decide +kernel
theorem dX11_look_101 : decode cX11_look 101 = .ok (.bipush 8, 2) := by decide +kernel
theorem dX11_look_103 : decode cX11_look 103 = .ok (.if_icmp .ne 10, 3) := by decide +kernel
theorem dX11_look_106 : decode cX11_look 106 = .ok (.aload_n 0, 1) := by decide +kernel
theorem dX11_look_107 : decode cX11_look 107 = .ok (.getfield 7, 3) := by decide +kernel
theorem dX11_look_110 : decode cX11_look 110 = .ok (.iconst 1, 1) := by decide +kernel
theorem dX11_look_111 : decode cX11_look 111 = .ok (.iaload, 1) := by decide +kernel
theorem dX11_look_112 : decode cX11_look 112 = .ok (.ireturn, 1) := by decide +kernel
theorem dX11_look_113 : decode cX11_look 113 = .ok (.iload_n 1, 1) := by decide +kernel
theorem dX11_look_114 : decode cX11_look 114 = .ok (.bipush 9, 2) := by decide +kernel
theorem dX11_look_116 : decode cX11_look 116 = .ok (.if_icmp .ne 10, 3) := by decide +kernel
theorem dX11_look_119 : decode cX11_look 119 = .ok (.aload_n 0, 1) := by decide +kernel
theorem dX11_look_120 : decode cX11_look 120 = .ok (.getfield 28, 3) := by decide +kernel
theorem dX11_look_123 : decode cX11_look 123 = .ok (.iconst 0, 1) := by decide +kernel
theorem dX11_look_124 : decode cX11_look 124 = .ok (.iaload, 1) := by decide +kernel
theorem dX11_look_125 : decode cX11_look 125 = .ok (.ireturn, 1) := by decide +kernel
theorem dX11_look_126 : decode cX11_look 126 = .ok (.iload_n 1, 1) := by decide +kernel
theorem dX11_look_127 : decode cX11_look 127 = .ok (.bipush 10, 2) := by decide +kernel
theorem dX11_look_129 : decode cX11_look 129 = .ok (.if_icmp .ne 8, 3) := by decide +kernel
theorem dX11_look_132 : decode cX11_look 132 = .ok (.aload_n 0, 1) := by decide +kernel
theorem dX11_look_133 : decode cX11_look 133 = .ok (.getfield 286, 3) := by decide +kernel
theorem dX11_look_136 : decode cX11_look 136 = .ok (.ireturn, 1) := by decide +kernel
theorem dX11_look_137 : decode cX11_look 137 = .ok (.iload_n 1, 1) := by decide +kernel
theorem dX11_look_138 : decode cX11_look 138 = .ok (.bipush 11, 2) := by decide +kernel
theorem dX11_look_140 : decode cX11_look 140 = .ok (.if_icmp .ne 8, 3) := by decide +kernel
theorem dX11_look_143 : decode cX11_look 143 = .ok (.aload_n 0, 1) := by decide +kernel
theorem dX11_look_144 : decode cX11_look 144 = .ok (.getfield 289, 3) := by decide +kernel
theorem dX11_look_147 : decode cX11_look 147 = .ok (.ireturn, 1) := by decide +kernel
theorem dX11_look_148 : decode cX11_look 148 = .ok (.iload_n 1, 1) := by decide +kernel
theorem dX11_look_149 : decode cX11_look 149 = .ok (.bipush 12, 2) := by decide +kernel
theorem dX11_look_151 : decode cX11_look 151 = .ok (.if_icmp .ne 8, 3) := by decide +kernel
theorem dX11_look_154 : decode cX11_look 154 = .ok (.aload_n 0, 1) := by decide +kernel
theorem dX11_look_155 : decode cX11_look 155 = .ok (.getfield 292, 3) := by decide +kernel
theorem dX11_look_158 : decode cX11_look 158 = .ok (.ireturn, 1) := by decide +kernel
theorem dX11_look_159 : decode cX11_look 159 = .ok (.iload_n 1, 1) := by decide +kernel
theorem dX11_look_160 : decode cX11_look 160 = .ok (.bipush 13, 2) := by decide +kernel
theorem dX11_look_162 : decode cX11_look 162 = .ok (.if_icmp .ne 8, 3) := by decide +kernel
theorem dX11_look_165 : decode cX11_look 165 = .ok (.aload_n 0, 1) := by decide +kernel
theorem dX11_look_166 : decode cX11_look 166 = .ok (.getfield 135, 3) := by decide +kernel
theorem dX11_look_169 : decode cX11_look 169 = .ok (.ireturn, 1) := by decide +kernel
theorem dX11_look_170 : decode cX11_look 170 = .ok (.iload_n 1, 1) := by decide +kernel
theorem dX11_look_171 : decode cX11_look 171 = .ok (.iconst 5, 1) := by decide +kernel
theorem dX11_look_172 : decode cX11_look 172 = .ok (.if_icmp .eq 7, 3) := by decide +kernel
theorem dX11_look_175 : decode cX11_look 175 = .ok (.ldc_w 494, 3) := by decide +kernel
theorem dX11_look_178 : decode cX11_look 178 = .ok (.ireturn, 1) := by decide +kernel
theorem dX11_look_179 : decode cX11_look 179 = .ok (.iconst 0, 1) := by decide +kernel
theorem dX11_look_180 : decode cX11_look 180 = .ok (.istore_n 2, 1) := by decide +kernel
theorem dX11_look_181 : decode cX11_look 181 = .ok (.iconst 0, 1) := by decide +kernel
theorem dX11_look_182 : decode cX11_look 182 = .ok (.istore_n 3, 1) := by decide +kernel
theorem dX11_look_183 : decode cX11_look 183 = .ok (.iload_n 3, 1) := by decide +kernel
theorem dX11_look_184 : decode cX11_look 184 = .ok (.aload_n 0, 1) := by decide +kernel
theorem dX11_look_185 : decode cX11_look 185 = .ok (.getfield 144, 3) := by decide +kernel
theorem dX11_look_188 : decode cX11_look 188 = .ok (.if_icmp .ge 28, 3) := by decide +kernel
theorem dX11_look_191 : decode cX11_look 191 = .ok (.aload_n 0, 1) := by decide +kernel
theorem dX11_look_192 : decode cX11_look 192 = .ok (.getfield 7, 3) := by decide +kernel
theorem dX11_look_195 : decode cX11_look 195 = .ok (.bipush 87, 2) := by decide +kernel
theorem dX11_look_197 : decode cX11_look 197 = .ok (.iload_n 3, 1) := by decide +kernel
theorem dX11_look_198 : decode cX11_look 198 = .ok (.iadd, 1) := by decide +kernel
theorem dX11_look_199 : decode cX11_look 199 = .ok (.iaload, 1) := by decide +kernel
theorem dX11_look_200 : decode cX11_look 200 = .ok (.iconst 1, 1) := by decide +kernel
theorem dX11_look_201 : decode cX11_look 201 = .ok (.if_icmp .ne 9, 3) := by decide +kernel
theorem dX11_look_204 : decode cX11_look 204 = .ok (.iload_n 2, 1) := by decide +kernel
theorem dX11_look_205 : decode cX11_look 205 = .ok (.iconst 1, 1) := by decide +kernel
theorem dX11_look_206 : decode cX11_look 206 = .ok (.iload_n 3, 1) := by decide +kernel
theorem dX11_look_207 : decode cX11_look 207 = .ok (.ishl, 1) := by decide +kernel
theorem dX11_look_208 : decode cX11_look 208 = .ok (.ior, 1) := by decide +kernel
theorem dX11_look_209 : decode cX11_look 209 = .ok (.istore_n 2, 1) := by decide +kernel
theorem dX11_look_210 : decode cX11_look 210 = .ok (.iinc 3 1, 3) := by decide +kernel
theorem dX11_look_213 : decode cX11_look 213 = .ok (.goto (-30), 3) := by decide +kernel
theorem dX11_look_216 : decode cX11_look 216 = .ok (.iload_n 2, 1) := by decide +kernel
theorem dX11_look_217 : decode cX11_look 217 = .ok (.ireturn, 1) := by decide +kernel
