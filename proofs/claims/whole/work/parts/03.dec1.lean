theorem dX0_init_0 : decode cX0_init 0 = .ok (.aload_n 0, 1) := by decide +kernel
theorem dX0_init_1 : decode cX0_init 1 = .ok (.invokespecial 3, 3) := by decide +kernel
theorem dX0_init_4 : decode cX0_init 4 = .ok (.aload_n 0, 1) := by decide +kernel
theorem dX0_init_5 : decode cX0_init 5 = .ok (.bipush 12, 2) := by decide +kernel
theorem dX0_init_7 : decode cX0_init 7 = .ok (.newarray .int, 2) := by decide +kernel
theorem dX0_init_9 : decode cX0_init 9 = .ok (.putfield 11, 3) := by decide +kernel
theorem dX0_init_12 : decode cX0_init 12 = .ok (.aload_n 0, 1) := by decide +kernel
theorem dX0_init_13 : decode cX0_init 13 = .ok (.aload_n 1, 1) := by decide +kernel
theorem dX0_init_14 : decode cX0_init 14 = .ok (.putfield 17, 3) := by decide +kernel
theorem dX0_init_17 : decode cX0_init 17 = .ok (.return_, 1) := by decide +kernel
theorem dX0_goOn_0 : decode cX0_goOn 0 = .ok (.iconst 0, 1) := by decide +kernel
theorem dX0_goOn_1 : decode cX0_goOn 1 = .ok (.istore 4, 2) := by decide +kernel
theorem dX0_goOn_3 : decode cX0_goOn 3 = .ok (.iload 4, 2) := by decide +kernel
theorem dX0_goOn_5 : decode cX0_goOn 5 = .ok (.iload_n 3, 1) := by decide +kernel
theorem dX0_goOn_6 : decode cX0_goOn 6 = .ok (.if_icmp .ge 16, 3) := by decide +kernel
theorem dX0_goOn_9 : decode cX0_goOn 9 = .ok (.aload_n 0, 1) := by decide +kernel
theorem dX0_goOn_10 : decode cX0_goOn 10 = .ok (.aload_n 1, 1) := by decide +kernel
theorem dX0_goOn_11 : decode cX0_goOn 11 = .ok (.aload_n 2, 1) := by decide +kernel
theorem dX0_goOn_12 : decode cX0_goOn 12 = .ok (.invokevirtual 21, 3) := by decide +kernel
theorem dX0_goOn_15 : decode cX0_goOn 15 = .ok (.pop, 1) := by decide +kernel
theorem dX0_goOn_16 : decode cX0_goOn 16 = .ok (.iinc 4 1, 3) := by decide +kernel
theorem dX0_goOn_19 : decode cX0_goOn 19 = .ok (.goto (-16), 3) := by decide +kernel
theorem dX0_goOn_22 : decode cX0_goOn 22 = .ok (.return_, 1) := by decide +kernel
theorem dX0_oneDay_0 : decode cX0_oneDay 0 = .ok (.iconst 0, 1) := by decide +kernel
theorem dX0_oneDay_1 : decode cX0_oneDay 1 = .ok (.istore_n 3, 1) := by decide +kernel
theorem dX0_oneDay_2 : decode cX0_oneDay 2 = .ok (.iconst 0, 1) := by decide +kernel
theorem dX0_oneDay_3 : decode cX0_oneDay 3 = .ok (.istore 4, 2) := by decide +kernel
theorem dX0_oneDay_5 : decode cX0_oneDay 5 = .ok (.iload 4, 2) := by decide +kernel
theorem dX0_oneDay_7 : decode cX0_oneDay 7 = .ok (.aload_n 0, 1) := by decide +kernel
theorem dX0_oneDay_8 : decode cX0_oneDay 8 = .ok (.getfield 17, 3) := by decide +kernel
theorem dX0_oneDay_11 : decode cX0_oneDay 11 = .ok (.getfield 25, 3) := by decide +kernel
theorem dX0_oneDay_14 : decode cX0_oneDay 14 = .ok (.if_icmp .ge 65, 3) := by decide +kernel
theorem dX0_oneDay_17 : decode cX0_oneDay 17 = .ok (.aload_n 1, 1) := by decide +kernel
theorem dX0_oneDay_18 : decode cX0_oneDay 18 = .ok (.getfield 31, 3) := by decide +kernel
theorem dX0_oneDay_21 : decode cX0_oneDay 21 = .ok (.iload 4, 2) := by decide +kernel
theorem dX0_oneDay_23 : decode cX0_oneDay 23 = .ok (.iaload, 1) := by decide +kernel
theorem dX0_oneDay_24 : decode cX0_oneDay 24 = .ok (.aload_n 0, 1) := by decide +kernel
theorem dX0_oneDay_25 : decode cX0_oneDay 25 = .ok (.getfield 17, 3) := by decide +kernel
theorem dX0_oneDay_28 : decode cX0_oneDay 28 = .ok (.getfield 36, 3) := by decide +kernel
theorem dX0_oneDay_31 : decode cX0_oneDay 31 = .ok (.if_icmp .ge 42, 3) := by decide +kernel
theorem dX0_oneDay_34 : decode cX0_oneDay 34 = .ok (.aload_n 2, 1) := by decide +kernel
theorem dX0_oneDay_35 : decode cX0_oneDay 35 = .ok (.ifnull 21, 3) := by decide +kernel
theorem dX0_oneDay_38 : decode cX0_oneDay 38 = .ok (.aload_n 1, 1) := by decide +kernel
theorem dX0_oneDay_39 : decode cX0_oneDay 39 = .ok (.getfield 39, 3) := by decide +kernel
theorem dX0_oneDay_42 : decode cX0_oneDay 42 = .ok (.iload 4, 2) := by decide +kernel
theorem dX0_oneDay_44 : decode cX0_oneDay 44 = .ok (.iaload, 1) := by decide +kernel
theorem dX0_oneDay_45 : decode cX0_oneDay 45 = .ok (.ifCond .ne 11, 3) := by decide +kernel
theorem dX0_oneDay_48 : decode cX0_oneDay 48 = .ok (.aload_n 0, 1) := by decide +kernel
theorem dX0_oneDay_49 : decode cX0_oneDay 49 = .ok (.aload_n 1, 1) := by decide +kernel
theorem dX0_oneDay_50 : decode cX0_oneDay 50 = .ok (.aload_n 2, 1) := by decide +kernel
theorem dX0_oneDay_51 : decode cX0_oneDay 51 = .ok (.iload 4, 2) := by decide +kernel
theorem dX0_oneDay_53 : decode cX0_oneDay 53 = .ok (.invokevirtual 42, 3) := by decide +kernel
theorem dX0_oneDay_56 : decode cX0_oneDay 56 = .ok (.aload_n 0, 1) := by decide +kernel
theorem dX0_oneDay_57 : decode cX0_oneDay 57 = .ok (.aload_n 1, 1) := by decide +kernel
theorem dX0_oneDay_58 : decode cX0_oneDay 58 = .ok (.iload 4, 2) := by decide +kernel
theorem dX0_oneDay_60 : decode cX0_oneDay 60 = .ok (.invokevirtual 46, 3) := by decide +kernel
theorem dX0_oneDay_63 : decode cX0_oneDay 63 = .ok (.ifCond .eq 10, 3) := by decide +kernel
theorem dX0_oneDay_66 : decode cX0_oneDay 66 = .ok (.iload_n 3, 1) := by decide +kernel
theorem dX0_oneDay_67 : decode cX0_oneDay 67 = .ok (.iconst 1, 1) := by decide +kernel
theorem dX0_oneDay_68 : decode cX0_oneDay 68 = .ok (.iload 4, 2) := by decide +kernel
theorem dX0_oneDay_70 : decode cX0_oneDay 70 = .ok (.ishl, 1) := by decide +kernel
theorem dX0_oneDay_71 : decode cX0_oneDay 71 = .ok (.ior, 1) := by decide +kernel
theorem dX0_oneDay_72 : decode cX0_oneDay 72 = .ok (.istore_n 3, 1) := by decide +kernel
theorem dX0_oneDay_73 : decode cX0_oneDay 73 = .ok (.iinc 4 1, 3) := by decide +kernel
theorem dX0_oneDay_76 : decode cX0_oneDay 76 = .ok (.goto (-71), 3) := by decide +kernel
theorem dX0_oneDay_79 : decode cX0_oneDay 79 = .ok (.aload_n 1, 1) := by decide +kernel
theorem dX0_oneDay_80 : decode cX0_oneDay 80 = .ok (.dup, 1) := by decide +kernel
theorem dX0_oneDay_81 : decode cX0_oneDay 81 = .ok (.getfield 50, 3) := by decide +kernel
theorem dX0_oneDay_84 : decode cX0_oneDay 84 = .ok (.iconst 1, 1) := by decide +kernel
theorem dX0_oneDay_85 : decode cX0_oneDay 85 = .ok (.iadd, 1) := by decide +kernel
theorem dX0_oneDay_86 : decode cX0_oneDay 86 = .ok (.putfield 50, 3) := by decide +kernel
theorem dX0_oneDay_89 : decode cX0_oneDay 89 = .ok (.iload_n 3, 1) := by decide +kernel
theorem dX0_oneDay_90 : decode cX0_oneDay 90 = .ok (.ireturn, 1) := by decide +kernel
theorem dX0_carryByRule_0 : decode cX0_carryByRule 0 = .ok (.bipush 10, 2) := by decide +kernel
theorem dX0_carryByRule_2 : decode cX0_carryByRule 2 = .ok (.aload_n 1, 1) := by decide +kernel
theorem dX0_carryByRule_3 : decode cX0_carryByRule 3 = .ok (.getfield 31, 3) := by decide +kernel
theorem dX0_carryByRule_6 : decode cX0_carryByRule 6 = .ok (.iload_n 3, 1) := by decide +kernel
theorem dX0_carryByRule_7 : decode cX0_carryByRule 7 = .ok (.iaload, 1) := by decide +kernel
theorem dX0_carryByRule_8 : decode cX0_carryByRule 8 = .ok (.iadd, 1) := by decide +kernel
theorem dX0_carryByRule_9 : decode cX0_carryByRule 9 = .ok (.istore 4, 2) := by decide +kernel
theorem dX0_carryByRule_11 : decode cX0_carryByRule 11 = .ok (.iconst 0, 1) := by decide +kernel
theorem dX0_carryByRule_12 : decode cX0_carryByRule 12 = .ok (.istore 5, 2) := by decide +kernel
theorem dX0_carryByRule_14 : decode cX0_carryByRule 14 = .ok (.iload 5, 2) := by decide +kernel
theorem dX0_carryByRule_16 : decode cX0_carryByRule 16 = .ok (.aload_n 0, 1) := by decide +kernel
theorem dX0_carryByRule_17 : decode cX0_carryByRule 17 = .ok (.getfield 17, 3) := by decide +kernel
theorem dX0_carryByRule_20 : decode cX0_carryByRule 20 = .ok (.getfield 53, 3) := by decide +kernel
theorem dX0_carryByRule_23 : decode cX0_carryByRule 23 = .ok (.if_icmp .ge 87, 3) := by decide +kernel
theorem dX0_carryByRule_26 : decode cX0_carryByRule 26 = .ok (.aload_n 1, 1) := by decide +kernel
theorem dX0_carryByRule_27 : decode cX0_carryByRule 27 = .ok (.getfield 56, 3) := by decide +kernel
theorem dX0_carryByRule_30 : decode cX0_carryByRule 30 = .ok (.iload 5, 2) := by decide +kernel
theorem dX0_carryByRule_32 : decode cX0_carryByRule 32 = .ok (.iaload, 1) := by decide +kernel
theorem dX0_carryByRule_33 : decode cX0_carryByRule 33 = .ok (.istore 6, 2) := by decide +kernel
theorem dX0_carryByRule_35 : decode cX0_carryByRule 35 = .ok (.iload 6, 2) := by decide +kernel
theorem dX0_carryByRule_37 : decode cX0_carryByRule 37 = .ok (.iload_n 3, 1) := by decide +kernel
theorem dX0_carryByRule_38 : decode cX0_carryByRule 38 = .ok (.if_icmp .eq 10, 3) := by decide +kernel
theorem dX0_carryByRule_41 : decode cX0_carryByRule 41 = .ok (.iload 6, 2) := by decide +kernel
theorem dX0_carryByRule_43 : decode cX0_carryByRule 43 = .ok (.iload 4, 2) := by decide +kernel
theorem dX0_carryByRule_45 : decode cX0_carryByRule 45 = .ok (.if_icmp .ne 59, 3) := by decide +kernel
theorem dX0_carryByRule_48 : decode cX0_carryByRule 48 = .ok (.aload_n 0, 1) := by decide +kernel
theorem dX0_carryByRule_49 : decode cX0_carryByRule 49 = .ok (.aload_n 1, 1) := by decide +kernel
theorem dX0_carryByRule_50 : decode cX0_carryByRule 50 = .ok (.iload_n 3, 1) := by decide +kernel
theorem dX0_carryByRule_51 : decode cX0_carryByRule 51 = .ok (.iload 5, 2) := by decide +kernel
theorem dX0_carryByRule_53 : decode cX0_carryByRule 53 = .ok (.invokevirtual 59, 3) := by decide +kernel
theorem dX0_carryByRule_56 : decode cX0_carryByRule 56 = .ok (.aload_n 2, 1) := by decide +kernel
theorem dX0_carryByRule_57 : decode cX0_carryByRule 57 = .ok (.aload_n 0, 1) := by decide +kernel
theorem dX0_carryByRule_58 : decode cX0_carryByRule 58 = .ok (.getfield 11, 3) := by decide +kernel
theorem dX0_carryByRule_61 : decode cX0_carryByRule 61 = .ok (.invokevirtual 63, 3) := by decide +kernel
theorem dX0_carryByRule_64 : decode cX0_carryByRule 64 = .ok (.lconst 0, 1) := by decide +kernel
theorem dX0_carryByRule_65 : decode cX0_carryByRule 65 = .ok (.lcmp, 1) := by decide +kernel
theorem dX0_carryByRule_66 : decode cX0_carryByRule 66 = .ok (.ifCond .gt 15, 3) := by decide +kernel
theorem dX0_carryByRule_69 : decode cX0_carryByRule 69 = .ok (.aload_n 1, 1) := by decide +kernel
theorem dX0_carryByRule_70 : decode cX0_carryByRule 70 = .ok (.getfield 56, 3) := by decide +kernel
theorem dX0_carryByRule_73 : decode cX0_carryByRule 73 = .ok (.iload 5, 2) := by decide +kernel
theorem dX0_carryByRule_75 : decode cX0_carryByRule 75 = .ok (.iload 4, 2) := by decide +kernel
theorem dX0_carryByRule_77 : decode cX0_carryByRule 77 = .ok (.iastore, 1) := by decide +kernel
theorem dX0_carryByRule_78 : decode cX0_carryByRule 78 = .ok (.goto 26, 3) := by decide +kernel
theorem dX0_carryByRule_81 : decode cX0_carryByRule 81 = .ok (.aload_n 1, 1) := by decide +kernel
theorem dX0_carryByRule_82 : decode cX0_carryByRule 82 = .ok (.iload_n 3, 1) := by decide +kernel
theorem dX0_carryByRule_83 : decode cX0_carryByRule 83 = .ok (.invokevirtual 67, 3) := by decide +kernel
theorem dX0_carryByRule_86 : decode cX0_carryByRule 86 = .ok (.aload_n 0, 1) := by decide +kernel
theorem dX0_carryByRule_87 : decode cX0_carryByRule 87 = .ok (.getfield 17, 3) := by decide +kernel
theorem dX0_carryByRule_90 : decode cX0_carryByRule 90 = .ok (.getfield 71, 3) := by decide +kernel
theorem dX0_carryByRule_93 : decode cX0_carryByRule 93 = .ok (.if_icmp .ge 11, 3) := by decide +kernel
theorem dX0_carryByRule_96 : decode cX0_carryByRule 96 = .ok (.aload_n 1, 1) := by decide +kernel
theorem dX0_carryByRule_97 : decode cX0_carryByRule 97 = .ok (.getfield 56, 3) := by decide +kernel
theorem dX0_carryByRule_100 : decode cX0_carryByRule 100 = .ok (.iload 5, 2) := by decide +kernel
theorem dX0_carryByRule_102 : decode cX0_carryByRule 102 = .ok (.iload_n 3, 1) := by decide +kernel
theorem dX0_carryByRule_103 : decode cX0_carryByRule 103 = .ok (.iastore, 1) := by decide +kernel
theorem dX0_carryByRule_104 : decode cX0_carryByRule 104 = .ok (.iinc 5 1, 3) := by decide +kernel
theorem dX0_carryByRule_107 : decode cX0_carryByRule 107 = .ok (.goto (-93), 3) := by decide +kernel
theorem dX0_carryByRule_110 : decode cX0_carryByRule 110 = .ok (.return_, 1) := by decide +kernel
theorem dX0_setWords_0 : decode cX0_setWords 0 = .ok (.aload_n 1, 1) := by decide +kernel
theorem dX0_setWords_1 : decode cX0_setWords 1 = .ok (.iload_n 2, 1) := by decide +kernel
theorem dX0_setWords_2 : decode cX0_setWords 2 = .ok (.invokevirtual 74, 3) := by decide +kernel
theorem dX0_setWords_5 : decode cX0_setWords 5 = .ok (.istore 4, 2) := by decide +kernel
theorem dX0_setWords_7 : decode cX0_setWords 7 = .ok (.aload_n 1, 1) := by decide +kernel
theorem dX0_setWords_8 : decode cX0_setWords 8 = .ok (.getfield 31, 3) := by decide +kernel
theorem dX0_setWords_11 : decode cX0_setWords 11 = .ok (.iload_n 2, 1) := by decide +kernel
theorem dX0_setWords_12 : decode cX0_setWords 12 = .ok (.iaload, 1) := by decide +kernel
theorem dX0_setWords_13 : decode cX0_setWords 13 = .ok (.istore 5, 2) := by decide +kernel
theorem dX0_setWords_15 : decode cX0_setWords 15 = .ok (.aload_n 0, 1) := by decide +kernel
theorem dX0_setWords_16 : decode cX0_setWords 16 = .ok (.getfield 11, 3) := by decide +kernel
theorem dX0_setWords_19 : decode cX0_setWords 19 = .ok (.iconst 0, 1) := by decide +kernel
theorem dX0_setWords_20 : decode cX0_setWords 20 = .ok (.iload_n 2, 1) := by decide +kernel
theorem dX0_setWords_21 : decode cX0_setWords 21 = .ok (.iastore, 1) := by decide +kernel
theorem dX0_setWords_22 : decode cX0_setWords 22 = .ok (.aload_n 0, 1) := by decide +kernel
theorem dX0_setWords_23 : decode cX0_setWords 23 = .ok (.getfield 11, 3) := by decide +kernel
theorem dX0_setWords_26 : decode cX0_setWords 26 = .ok (.iconst 1, 1) := by decide +kernel
theorem dX0_setWords_27 : decode cX0_setWords 27 = .ok (.iload_n 3, 1) := by decide +kernel
theorem dX0_setWords_28 : decode cX0_setWords 28 = .ok (.iastore, 1) := by decide +kernel
theorem dX0_setWords_29 : decode cX0_setWords 29 = .ok (.aload_n 0, 1) := by decide +kernel
theorem dX0_setWords_30 : decode cX0_setWords 30 = .ok (.getfield 11, 3) := by decide +kernel
theorem dX0_setWords_33 : decode cX0_setWords 33 = .ok (.iconst 2, 1) := by decide +kernel
theorem dX0_setWords_34 : decode cX0_setWords 34 = .ok (.aload_n 0, 1) := by decide +kernel
theorem dX0_setWords_35 : decode cX0_setWords 35 = .ok (.getfield 17, 3) := by decide +kernel
theorem dX0_setWords_38 : decode cX0_setWords 38 = .ok (.getfield 77, 3) := by decide +kernel
theorem dX0_setWords_41 : decode cX0_setWords 41 = .ok (.iload_n 3, 1) := by decide +kernel
theorem dX0_setWords_42 : decode cX0_setWords 42 = .ok (.iaload, 1) := by decide +kernel
theorem dX0_setWords_43 : decode cX0_setWords 43 = .ok (.iastore, 1) := by decide +kernel
theorem dX0_setWords_44 : decode cX0_setWords 44 = .ok (.aload_n 0, 1) := by decide +kernel
theorem dX0_setWords_45 : decode cX0_setWords 45 = .ok (.getfield 11, 3) := by decide +kernel
theorem dX0_setWords_48 : decode cX0_setWords 48 = .ok (.iconst 3, 1) := by decide +kernel
theorem dX0_setWords_49 : decode cX0_setWords 49 = .ok (.aload_n 0, 1) := by decide +kernel
theorem dX0_setWords_50 : decode cX0_setWords 50 = .ok (.getfield 17, 3) := by decide +kernel
theorem dX0_setWords_53 : decode cX0_setWords 53 = .ok (.getfield 80, 3) := by decide +kernel
theorem dX0_setWords_56 : decode cX0_setWords 56 = .ok (.iload_n 3, 1) := by decide +kernel
theorem dX0_setWords_57 : decode cX0_setWords 57 = .ok (.iaload, 1) := by decide +kernel
theorem dX0_setWords_58 : decode cX0_setWords 58 = .ok (.iastore, 1) := by decide +kernel
theorem dX0_setWords_59 : decode cX0_setWords 59 = .ok (.aload_n 0, 1) := by decide +kernel
theorem dX0_setWords_60 : decode cX0_setWords 60 = .ok (.getfield 11, 3) := by decide +kernel
theorem dX0_setWords_63 : decode cX0_setWords 63 = .ok (.iconst 4, 1) := by decide +kernel
theorem dX0_setWords_64 : decode cX0_setWords 64 = .ok (.iload 4, 2) := by decide +kernel
theorem dX0_setWords_66 : decode cX0_setWords 66 = .ok (.iload_n 3, 1) := by decide +kernel
theorem dX0_setWords_67 : decode cX0_setWords 67 = .ok (.ishr, 1) := by decide +kernel
theorem dX0_setWords_68 : decode cX0_setWords 68 = .ok (.iconst 1, 1) := by decide +kernel
theorem dX0_setWords_69 : decode cX0_setWords 69 = .ok (.iand, 1) := by decide +kernel
theorem dX0_setWords_70 : decode cX0_setWords 70 = .ok (.iastore, 1) := by decide +kernel
theorem dX0_setWords_71 : decode cX0_setWords 71 = .ok (.aload_n 0, 1) := by decide +kernel
theorem dX0_setWords_72 : decode cX0_setWords 72 = .ok (.getfield 11, 3) := by decide +kernel
theorem dX0_setWords_75 : decode cX0_setWords 75 = .ok (.iconst 5, 1) := by decide +kernel
theorem dX0_setWords_76 : decode cX0_setWords 76 = .ok (.iload 4, 2) := by decide +kernel
theorem dX0_setWords_78 : decode cX0_setWords 78 = .ok (.invokestatic 83, 3) := by decide +kernel
theorem dX0_setWords_81 : decode cX0_setWords 81 = .ok (.iastore, 1) := by decide +kernel
theorem dX0_setWords_82 : decode cX0_setWords 82 = .ok (.aload_n 0, 1) := by decide +kernel
theorem dX0_setWords_83 : decode cX0_setWords 83 = .ok (.getfield 11, 3) := by decide +kernel
theorem dX0_setWords_86 : decode cX0_setWords 86 = .ok (.bipush 6, 2) := by decide +kernel
theorem dX0_setWords_88 : decode cX0_setWords 88 = .ok (.aload_n 0, 1) := by decide +kernel
theorem dX0_setWords_89 : decode cX0_setWords 89 = .ok (.getfield 17, 3) := by decide +kernel
theorem dX0_setWords_92 : decode cX0_setWords 92 = .ok (.iload 4, 2) := by decide +kernel
theorem dX0_setWords_94 : decode cX0_setWords 94 = .ok (.invokevirtual 88, 3) := by decide +kernel
theorem dX0_setWords_97 : decode cX0_setWords 97 = .ok (.iastore, 1) := by decide +kernel
theorem dX0_setWords_98 : decode cX0_setWords 98 = .ok (.aload_n 0, 1) := by decide +kernel
theorem dX0_setWords_99 : decode cX0_setWords 99 = .ok (.getfield 11, 3) := by decide +kernel
theorem dX0_setWords_102 : decode cX0_setWords 102 = .ok (.bipush 7, 2) := by decide +kernel
theorem dX0_setWords_104 : decode cX0_setWords 104 = .ok (.iload 5, 2) := by decide +kernel
theorem dX0_setWords_106 : decode cX0_setWords 106 = .ok (.iastore, 1) := by decide +kernel
theorem dX0_setWords_107 : decode cX0_setWords 107 = .ok (.aload_n 0, 1) := by decide +kernel
theorem dX0_setWords_108 : decode cX0_setWords 108 = .ok (.getfield 11, 3) := by decide +kernel
theorem dX0_setWords_111 : decode cX0_setWords 111 = .ok (.bipush 8, 2) := by decide +kernel
theorem dX0_setWords_113 : decode cX0_setWords 113 = .ok (.aload_n 0, 1) := by decide +kernel
theorem dX0_setWords_114 : decode cX0_setWords 114 = .ok (.getfield 17, 3) := by decide +kernel
theorem dX0_setWords_117 : decode cX0_setWords 117 = .ok (.getfield 36, 3) := by decide +kernel
theorem dX0_setWords_120 : decode cX0_setWords 120 = .ok (.iload 5, 2) := by decide +kernel
theorem dX0_setWords_122 : decode cX0_setWords 122 = .ok (.isub, 1) := by decide +kernel
theorem dX0_setWords_123 : decode cX0_setWords 123 = .ok (.iastore, 1) := by decide +kernel
theorem dX0_setWords_124 : decode cX0_setWords 124 = .ok (.aload_n 0, 1) := by decide +kernel
theorem dX0_setWords_125 : decode cX0_setWords 125 = .ok (.getfield 11, 3) := by decide +kernel
theorem dX0_setWords_128 : decode cX0_setWords 128 = .ok (.bipush 9, 2) := by decide +kernel
theorem dX0_setWords_130 : decode cX0_setWords 130 = .ok (.aload_n 0, 1) := by decide +kernel
theorem dX0_setWords_131 : decode cX0_setWords 131 = .ok (.getfield 17, 3) := by decide +kernel
theorem dX0_setWords_134 : decode cX0_setWords 134 = .ok (.getfield 91, 3) := by decide +kernel
theorem dX0_setWords_137 : decode cX0_setWords 137 = .ok (.iload_n 2, 1) := by decide +kernel
theorem dX0_setWords_138 : decode cX0_setWords 138 = .ok (.iaload, 1) := by decide +kernel
theorem dX0_setWords_139 : decode cX0_setWords 139 = .ok (.iastore, 1) := by decide +kernel
theorem dX0_setWords_140 : decode cX0_setWords 140 = .ok (.aload_n 0, 1) := by decide +kernel
theorem dX0_setWords_141 : decode cX0_setWords 141 = .ok (.getfield 11, 3) := by decide +kernel
theorem dX0_setWords_144 : decode cX0_setWords 144 = .ok (.bipush 10, 2) := by decide +kernel
theorem dX0_setWords_146 : decode cX0_setWords 146 = .ok (.aload_n 0, 1) := by decide +kernel
theorem dX0_setWords_147 : decode cX0_setWords 147 = .ok (.getfield 17, 3) := by decide +kernel
theorem dX0_setWords_150 : decode cX0_setWords 150 = .ok (.iload 5, 2) := by decide +kernel
theorem dX0_setWords_152 : decode cX0_setWords 152 = .ok (.invokevirtual 94, 3) := by decide +kernel
theorem dX0_setWords_155 : decode cX0_setWords 155 = .ok (.ifCond .eq 16, 3) := by decide +kernel
theorem dX0_setWords_158 : decode cX0_setWords 158 = .ok (.aload_n 0, 1) := by decide +kernel
theorem dX0_setWords_159 : decode cX0_setWords 159 = .ok (.getfield 17, 3) := by decide +kernel
theorem dX0_setWords_162 : decode cX0_setWords 162 = .ok (.getfield 98, 3) := by decide +kernel
theorem dX0_setWords_165 : decode cX0_setWords 165 = .ok (.iload 5, 2) := by decide +kernel
theorem dX0_setWords_167 : decode cX0_setWords 167 = .ok (.iaload, 1) := by decide +kernel
theorem dX0_setWords_168 : decode cX0_setWords 168 = .ok (.goto 4, 3) := by decide +kernel
theorem dX0_setWords_171 : decode cX0_setWords 171 = .ok (.iconst 0, 1) := by decide +kernel
theorem dX0_setWords_172 : decode cX0_setWords 172 = .ok (.iastore, 1) := by decide +kernel
theorem dX0_setWords_173 : decode cX0_setWords 173 = .ok (.aload_n 0, 1) := by decide +kernel
theorem dX0_setWords_174 : decode cX0_setWords 174 = .ok (.getfield 11, 3) := by decide +kernel
theorem dX0_setWords_177 : decode cX0_setWords 177 = .ok (.bipush 11, 2) := by decide +kernel
theorem dX0_setWords_179 : decode cX0_setWords 179 = .ok (.aload_n 1, 1) := by decide +kernel
theorem dX0_setWords_180 : decode cX0_setWords 180 = .ok (.getfield 50, 3) := by decide +kernel
theorem dX0_setWords_183 : decode cX0_setWords 183 = .ok (.iastore, 1) := by decide +kernel
theorem dX0_setWords_184 : decode cX0_setWords 184 = .ok (.return_, 1) := by decide +kernel
theorem dX0_walk_0 : decode cX0_walk 0 = .ok (.aload_n 1, 1) := by decide +kernel
theorem dX0_walk_1 : decode cX0_walk 1 = .ok (.getfield 31, 3) := by decide +kernel
theorem dX0_walk_4 : decode cX0_walk 4 = .ok (.iload_n 2, 1) := by decide +kernel
theorem dX0_walk_5 : decode cX0_walk 5 = .ok (.iaload, 1) := by decide +kernel
theorem dX0_walk_6 : decode cX0_walk 6 = .ok (.istore_n 3, 1) := by decide +kernel
theorem dX0_walk_7 : decode cX0_walk 7 = .ok (.aload_n 0, 1) := by decide +kernel
theorem dX0_walk_8 : decode cX0_walk 8 = .ok (.getfield 17, 3) := by decide +kernel
theorem dX0_walk_11 : decode cX0_walk 11 = .ok (.iload_n 3, 1) := by decide +kernel
theorem dX0_walk_12 : decode cX0_walk 12 = .ok (.invokevirtual 94, 3) := by decide +kernel
theorem dX0_walk_15 : decode cX0_walk 15 = .ok (.ifCond .eq 15, 3) := by decide +kernel
theorem dX0_walk_18 : decode cX0_walk 18 = .ok (.aload_n 0, 1) := by decide +kernel
theorem dX0_walk_19 : decode cX0_walk 19 = .ok (.getfield 17, 3) := by decide +kernel
theorem dX0_walk_22 : decode cX0_walk 22 = .ok (.getfield 98, 3) := by decide +kernel
theorem dX0_walk_25 : decode cX0_walk 25 = .ok (.iload_n 3, 1) := by decide +kernel
theorem dX0_walk_26 : decode cX0_walk 26 = .ok (.iaload, 1) := by decide +kernel
theorem dX0_walk_27 : decode cX0_walk 27 = .ok (.goto 4, 3) := by decide +kernel
theorem dX0_walk_30 : decode cX0_walk 30 = .ok (.iconst 0, 1) := by decide +kernel
theorem dX0_walk_31 : decode cX0_walk 31 = .ok (.istore 4, 2) := by decide +kernel
theorem dX0_walk_33 : decode cX0_walk 33 = .ok (.aload_n 1, 1) := by decide +kernel
theorem dX0_walk_34 : decode cX0_walk 34 = .ok (.getfield 39, 3) := by decide +kernel
theorem dX0_walk_37 : decode cX0_walk 37 = .ok (.iload_n 2, 1) := by decide +kernel
theorem dX0_walk_38 : decode cX0_walk 38 = .ok (.dup2, 1) := by decide +kernel
theorem dX0_walk_39 : decode cX0_walk 39 = .ok (.iaload, 1) := by decide +kernel
theorem dX0_walk_40 : decode cX0_walk 40 = .ok (.aload_n 0, 1) := by decide +kernel
theorem dX0_walk_41 : decode cX0_walk 41 = .ok (.getfield 17, 3) := by decide +kernel
theorem dX0_walk_44 : decode cX0_walk 44 = .ok (.getfield 91, 3) := by decide +kernel
theorem dX0_walk_47 : decode cX0_walk 47 = .ok (.iload_n 2, 1) := by decide +kernel
theorem dX0_walk_48 : decode cX0_walk 48 = .ok (.iaload, 1) := by decide +kernel
theorem dX0_walk_49 : decode cX0_walk 49 = .ok (.iadd, 1) := by decide +kernel
theorem dX0_walk_50 : decode cX0_walk 50 = .ok (.iastore, 1) := by decide +kernel
theorem dX0_walk_51 : decode cX0_walk 51 = .ok (.aload_n 1, 1) := by decide +kernel
theorem dX0_walk_52 : decode cX0_walk 52 = .ok (.getfield 39, 3) := by decide +kernel
theorem dX0_walk_55 : decode cX0_walk 55 = .ok (.iload_n 2, 1) := by decide +kernel
theorem dX0_walk_56 : decode cX0_walk 56 = .ok (.iaload, 1) := by decide +kernel
theorem dX0_walk_57 : decode cX0_walk 57 = .ok (.iload 4, 2) := by decide +kernel
theorem dX0_walk_59 : decode cX0_walk 59 = .ok (.aload_n 0, 1) := by decide +kernel
theorem dX0_walk_60 : decode cX0_walk 60 = .ok (.getfield 17, 3) := by decide +kernel
theorem dX0_walk_63 : decode cX0_walk 63 = .ok (.aload_n 1, 1) := by decide +kernel
theorem dX0_walk_64 : decode cX0_walk 64 = .ok (.iload_n 2, 1) := by decide +kernel
theorem dX0_walk_65 : decode cX0_walk 65 = .ok (.invokevirtual 74, 3) := by decide +kernel
theorem dX0_walk_68 : decode cX0_walk 68 = .ok (.invokevirtual 88, 3) := by decide +kernel
theorem dX0_walk_71 : decode cX0_walk 71 = .ok (.iadd, 1) := by decide +kernel
theorem dX0_walk_72 : decode cX0_walk 72 = .ok (.if_icmp .ge 5, 3) := by decide +kernel
theorem dX0_walk_75 : decode cX0_walk 75 = .ok (.iconst 0, 1) := by decide +kernel
theorem dX0_walk_76 : decode cX0_walk 76 = .ok (.ireturn, 1) := by decide +kernel
theorem dX0_walk_77 : decode cX0_walk 77 = .ok (.aload_n 1, 1) := by decide +kernel
theorem dX0_walk_78 : decode cX0_walk 78 = .ok (.getfield 31, 3) := by decide +kernel
theorem dX0_walk_81 : decode cX0_walk 81 = .ok (.iload_n 2, 1) := by decide +kernel
theorem dX0_walk_82 : decode cX0_walk 82 = .ok (.dup2, 1) := by decide +kernel
theorem dX0_walk_83 : decode cX0_walk 83 = .ok (.iaload, 1) := by decide +kernel
theorem dX0_walk_84 : decode cX0_walk 84 = .ok (.iconst 1, 1) := by decide +kernel
theorem dX0_walk_85 : decode cX0_walk 85 = .ok (.iadd, 1) := by decide +kernel
theorem dX0_walk_86 : decode cX0_walk 86 = .ok (.iastore, 1) := by decide +kernel
theorem dX0_walk_87 : decode cX0_walk 87 = .ok (.aload_n 1, 1) := by decide +kernel
theorem dX0_walk_88 : decode cX0_walk 88 = .ok (.getfield 39, 3) := by decide +kernel
theorem dX0_walk_91 : decode cX0_walk 91 = .ok (.iload_n 2, 1) := by decide +kernel
theorem dX0_walk_92 : decode cX0_walk 92 = .ok (.iconst 0, 1) := by decide +kernel
theorem dX0_walk_93 : decode cX0_walk 93 = .ok (.iastore, 1) := by decide +kernel
theorem dX0_walk_94 : decode cX0_walk 94 = .ok (.iconst 1, 1) := by decide +kernel
theorem dX0_walk_95 : decode cX0_walk 95 = .ok (.ireturn, 1) := by decide +kernel
theorem dX0_peopleInTown_0 : decode cX0_peopleInTown 0 = .ok (.iconst 0, 1) := by decide +kernel
theorem dX0_peopleInTown_1 : decode cX0_peopleInTown 1 = .ok (.istore_n 2, 1) := by decide +kernel
theorem dX0_peopleInTown_2 : decode cX0_peopleInTown 2 = .ok (.iconst 0, 1) := by decide +kernel
theorem dX0_peopleInTown_3 : decode cX0_peopleInTown 3 = .ok (.istore_n 3, 1) := by decide +kernel
theorem dX0_peopleInTown_4 : decode cX0_peopleInTown 4 = .ok (.iload_n 3, 1) := by decide +kernel
theorem dX0_peopleInTown_5 : decode cX0_peopleInTown 5 = .ok (.aload_n 0, 1) := by decide +kernel
theorem dX0_peopleInTown_6 : decode cX0_peopleInTown 6 = .ok (.getfield 17, 3) := by decide +kernel
theorem dX0_peopleInTown_9 : decode cX0_peopleInTown 9 = .ok (.getfield 25, 3) := by decide +kernel
theorem dX0_peopleInTown_12 : decode cX0_peopleInTown 12 = .ok (.if_icmp .ge 31, 3) := by decide +kernel
theorem dX0_peopleInTown_15 : decode cX0_peopleInTown 15 = .ok (.aload_n 1, 1) := by decide +kernel
theorem dX0_peopleInTown_16 : decode cX0_peopleInTown 16 = .ok (.getfield 31, 3) := by decide +kernel
theorem dX0_peopleInTown_19 : decode cX0_peopleInTown 19 = .ok (.iload_n 3, 1) := by decide +kernel
theorem dX0_peopleInTown_20 : decode cX0_peopleInTown 20 = .ok (.iaload, 1) := by decide +kernel
theorem dX0_peopleInTown_21 : decode cX0_peopleInTown 21 = .ok (.aload_n 0, 1) := by decide +kernel
theorem dX0_peopleInTown_22 : decode cX0_peopleInTown 22 = .ok (.getfield 17, 3) := by decide +kernel
theorem dX0_peopleInTown_25 : decode cX0_peopleInTown 25 = .ok (.getfield 36, 3) := by decide +kernel
theorem dX0_peopleInTown_28 : decode cX0_peopleInTown 28 = .ok (.if_icmp .ne 9, 3) := by decide +kernel
theorem dX0_peopleInTown_31 : decode cX0_peopleInTown 31 = .ok (.iload_n 2, 1) := by decide +kernel
theorem dX0_peopleInTown_32 : decode cX0_peopleInTown 32 = .ok (.iconst 1, 1) := by decide +kernel
theorem dX0_peopleInTown_33 : decode cX0_peopleInTown 33 = .ok (.iload_n 3, 1) := by decide +kernel
theorem dX0_peopleInTown_34 : decode cX0_peopleInTown 34 = .ok (.ishl, 1) := by decide +kernel
theorem dX0_peopleInTown_35 : decode cX0_peopleInTown 35 = .ok (.ior, 1) := by decide +kernel
theorem dX0_peopleInTown_36 : decode cX0_peopleInTown 36 = .ok (.istore_n 2, 1) := by decide +kernel
theorem dX0_peopleInTown_37 : decode cX0_peopleInTown 37 = .ok (.iinc 3 1, 3) := by decide +kernel
theorem dX0_peopleInTown_40 : decode cX0_peopleInTown 40 = .ok (.goto (-36), 3) := by decide +kernel
theorem dX0_peopleInTown_43 : decode cX0_peopleInTown 43 = .ok (.iload_n 2, 1) := by decide +kernel
theorem dX0_peopleInTown_44 : decode cX0_peopleInTown 44 = .ok (.ireturn, 1) := by decide +kernel
theorem dX0_worthInTown_0 : decode cX0_worthInTown 0 = .ok (.aload_n 1, 1) := by decide +kernel
theorem dX0_worthInTown_1 : decode cX0_worthInTown 1 = .ok (.bipush 10, 2) := by decide +kernel
theorem dX0_worthInTown_3 : decode cX0_worthInTown 3 = .ok (.aload_n 0, 1) := by decide +kernel
theorem dX0_worthInTown_4 : decode cX0_worthInTown 4 = .ok (.getfield 17, 3) := by decide +kernel
theorem dX0_worthInTown_7 : decode cX0_worthInTown 7 = .ok (.getfield 36, 3) := by decide +kernel
theorem dX0_worthInTown_10 : decode cX0_worthInTown 10 = .ok (.iadd, 1) := by decide +kernel
theorem dX0_worthInTown_11 : decode cX0_worthInTown 11 = .ok (.invokevirtual 101, 3) := by decide +kernel
theorem dX0_worthInTown_14 : decode cX0_worthInTown 14 = .ok (.istore_n 2, 1) := by decide +kernel
theorem dX0_worthInTown_15 : decode cX0_worthInTown 15 = .ok (.iconst 0, 1) := by decide +kernel
theorem dX0_worthInTown_16 : decode cX0_worthInTown 16 = .ok (.istore_n 3, 1) := by decide +kernel
theorem dX0_worthInTown_17 : decode cX0_worthInTown 17 = .ok (.iload_n 3, 1) := by decide +kernel
theorem dX0_worthInTown_18 : decode cX0_worthInTown 18 = .ok (.aload_n 0, 1) := by decide +kernel
theorem dX0_worthInTown_19 : decode cX0_worthInTown 19 = .ok (.getfield 17, 3) := by decide +kernel
theorem dX0_worthInTown_22 : decode cX0_worthInTown 22 = .ok (.getfield 25, 3) := by decide +kernel
theorem dX0_worthInTown_25 : decode cX0_worthInTown 25 = .ok (.if_icmp .ge 33, 3) := by decide +kernel
theorem dX0_worthInTown_28 : decode cX0_worthInTown 28 = .ok (.aload_n 1, 1) := by decide +kernel
theorem dX0_worthInTown_29 : decode cX0_worthInTown 29 = .ok (.getfield 31, 3) := by decide +kernel
theorem dX0_worthInTown_32 : decode cX0_worthInTown 32 = .ok (.iload_n 3, 1) := by decide +kernel
theorem dX0_worthInTown_33 : decode cX0_worthInTown 33 = .ok (.iaload, 1) := by decide +kernel
theorem dX0_worthInTown_34 : decode cX0_worthInTown 34 = .ok (.aload_n 0, 1) := by decide +kernel
theorem dX0_worthInTown_35 : decode cX0_worthInTown 35 = .ok (.getfield 17, 3) := by decide +kernel
theorem dX0_worthInTown_38 : decode cX0_worthInTown 38 = .ok (.getfield 36, 3) := by decide +kernel
theorem dX0_worthInTown_41 : decode cX0_worthInTown 41 = .ok (.if_icmp .ne 11, 3) := by decide +kernel
theorem dX0_worthInTown_44 : decode cX0_worthInTown 44 = .ok (.iload_n 2, 1) := by decide +kernel
theorem dX0_worthInTown_45 : decode cX0_worthInTown 45 = .ok (.aload_n 1, 1) := by decide +kernel
theorem dX0_worthInTown_46 : decode cX0_worthInTown 46 = .ok (.iload_n 3, 1) := by decide +kernel
theorem dX0_worthInTown_47 : decode cX0_worthInTown 47 = .ok (.invokevirtual 74, 3) := by decide +kernel
theorem dX0_worthInTown_50 : decode cX0_worthInTown 50 = .ok (.ior, 1) := by decide +kernel
theorem dX0_worthInTown_51 : decode cX0_worthInTown 51 = .ok (.istore_n 2, 1) := by decide +kernel
theorem dX0_worthInTown_52 : decode cX0_worthInTown 52 = .ok (.iinc 3 1, 3) := by decide +kernel
theorem dX0_worthInTown_55 : decode cX0_worthInTown 55 = .ok (.goto (-38), 3) := by decide +kernel
theorem dX0_worthInTown_58 : decode cX0_worthInTown 58 = .ok (.aload_n 0, 1) := by decide +kernel
theorem dX0_worthInTown_59 : decode cX0_worthInTown 59 = .ok (.getfield 17, 3) := by decide +kernel
theorem dX0_worthInTown_62 : decode cX0_worthInTown 62 = .ok (.iload_n 2, 1) := by decide +kernel
theorem dX0_worthInTown_63 : decode cX0_worthInTown 63 = .ok (.invokevirtual 104, 3) := by decide +kernel
theorem dX0_worthInTown_66 : decode cX0_worthInTown 66 = .ok (.ireturn, 1) := by decide +kernel
theorem dX1_init_0 : decode cX1_init 0 = .ok (.aload_n 0, 1) := by decide +kernel
theorem dX1_init_1 : decode cX1_init 1 = .ok (.invokespecial 3, 3) := by decide +kernel
theorem dX1_init_4 : decode cX1_init 4 = .ok (.aload_n 0, 1) := by decide +kernel
theorem dX1_init_5 : decode cX1_init 5 = .ok (.sipush 2916, 3) := by decide +kernel
theorem dX1_init_8 : decode cX1_init 8 = .ok (.newarray .int, 2) := by decide +kernel
theorem dX1_init_10 : decode cX1_init 10 = .ok (.putfield 11, 3) := by decide +kernel
theorem dX1_init_13 : decode cX1_init 13 = .ok (.aload_n 0, 1) := by decide +kernel
theorem dX1_init_14 : decode cX1_init 14 = .ok (.iconst 2, 1) := by decide +kernel
theorem dX1_init_15 : decode cX1_init 15 = .ok (.bipush 64, 2) := by decide +kernel
theorem dX1_init_17 : decode cX1_init 17 = .ok (.multianewarray 15 2, 4) := by decide +kernel
theorem dX1_init_21 : decode cX1_init 21 = .ok (.putfield 17, 3) := by decide +kernel
theorem dX1_init_24 : decode cX1_init 24 = .ok (.aload_n 0, 1) := by decide +kernel
theorem dX1_init_25 : decode cX1_init 25 = .ok (.bipush 6, 2) := by decide +kernel
theorem dX1_init_27 : decode cX1_init 27 = .ok (.newarray .int, 2) := by decide +kernel
theorem dX1_init_29 : decode cX1_init 29 = .ok (.putfield 20, 3) := by decide +kernel
theorem dX1_init_32 : decode cX1_init 32 = .ok (.aload_n 0, 1) := by decide +kernel
theorem dX1_init_33 : decode cX1_init 33 = .ok (.bipush 6, 2) := by decide +kernel
theorem dX1_init_35 : decode cX1_init 35 = .ok (.newarray .int, 2) := by decide +kernel
theorem dX1_init_37 : decode cX1_init 37 = .ok (.putfield 23, 3) := by decide +kernel
theorem dX1_init_40 : decode cX1_init 40 = .ok (.aload_n 0, 1) := by decide +kernel
theorem dX1_init_41 : decode cX1_init 41 = .ok (.iconst 2, 1) := by decide +kernel
theorem dX1_init_42 : decode cX1_init 42 = .ok (.newarray .int, 2) := by decide +kernel
theorem dX1_init_44 : decode cX1_init 44 = .ok (.putfield 26, 3) := by decide +kernel
theorem dX1_init_47 : decode cX1_init 47 = .ok (.aload_n 0, 1) := by decide +kernel
theorem dX1_init_48 : decode cX1_init 48 = .ok (.aload_n 1, 1) := by decide +kernel
theorem dX1_init_49 : decode cX1_init 49 = .ok (.putfield 29, 3) := by decide +kernel
theorem dX1_init_52 : decode cX1_init 52 = .ok (.aload_n 0, 1) := by decide +kernel
theorem dX1_init_53 : decode cX1_init 53 = .ok (.aload_n 2, 1) := by decide +kernel
theorem dX1_init_54 : decode cX1_init 54 = .ok (.putfield 33, 3) := by decide +kernel
theorem dX1_init_57 : decode cX1_init 57 = .ok (.return_, 1) := by decide +kernel
theorem dX1_play_0 : decode cX1_play 0 = .ok (.aload_n 0, 1) := by decide +kernel
theorem dX1_play_1 : decode cX1_play 1 = .ok (.iconst 0, 1) := by decide +kernel
theorem dX1_play_2 : decode cX1_play 2 = .ok (.iload_n 1, 1) := by decide +kernel
theorem dX1_play_3 : decode cX1_play 3 = .ok (.invokevirtual 37, 3) := by decide +kernel
theorem dX1_play_6 : decode cX1_play 6 = .ok (.aload_n 0, 1) := by decide +kernel
theorem dX1_play_7 : decode cX1_play 7 = .ok (.iconst 1, 1) := by decide +kernel
theorem dX1_play_8 : decode cX1_play 8 = .ok (.iload_n 2, 1) := by decide +kernel
theorem dX1_play_9 : decode cX1_play 9 = .ok (.invokevirtual 37, 3) := by decide +kernel
theorem dX1_play_12 : decode cX1_play 12 = .ok (.aload_n 0, 1) := by decide +kernel
theorem dX1_play_13 : decode cX1_play 13 = .ok (.iload_n 1, 1) := by decide +kernel
theorem dX1_play_14 : decode cX1_play 14 = .ok (.invokevirtual 41, 3) := by decide +kernel
theorem dX1_play_17 : decode cX1_play 17 = .ok (.istore_n 3, 1) := by decide +kernel
theorem dX1_play_18 : decode cX1_play 18 = .ok (.aload_n 0, 1) := by decide +kernel
theorem dX1_play_19 : decode cX1_play 19 = .ok (.getfield 33, 3) := by decide +kernel
theorem dX1_play_22 : decode cX1_play 22 = .ok (.iload_n 1, 1) := by decide +kernel
theorem dX1_play_23 : decode cX1_play 23 = .ok (.invokevirtual 45, 3) := by decide +kernel
theorem dX1_play_26 : decode cX1_play 26 = .ok (.istore 4, 2) := by decide +kernel
theorem dX1_play_28 : decode cX1_play 28 = .ok (.aload_n 0, 1) := by decide +kernel
theorem dX1_play_29 : decode cX1_play 29 = .ok (.getfield 33, 3) := by decide +kernel
theorem dX1_play_32 : decode cX1_play 32 = .ok (.iload_n 2, 1) := by decide +kernel
theorem dX1_play_33 : decode cX1_play 33 = .ok (.invokevirtual 45, 3) := by decide +kernel
theorem dX1_play_36 : decode cX1_play 36 = .ok (.istore 5, 2) := by decide +kernel
theorem dX1_play_38 : decode cX1_play 38 = .ok (.iload_n 3, 1) := by decide +kernel
theorem dX1_play_39 : decode cX1_play 39 = .ok (.sipush 729, 3) := by decide +kernel
theorem dX1_play_42 : decode cX1_play 42 = .ok (.invokestatic 50, 3) := by decide +kernel
theorem dX1_play_45 : decode cX1_play 45 = .ok (.iconst 1, 1) := by decide +kernel
theorem dX1_play_46 : decode cX1_play 46 = .ok (.isub, 1) := by decide +kernel
theorem dX1_play_47 : decode cX1_play 47 = .ok (.istore 6, 2) := by decide +kernel
theorem dX1_play_49 : decode cX1_play 49 = .ok (.iload 6, 2) := by decide +kernel
theorem dX1_play_51 : decode cX1_play 51 = .ok (.ifCond .lt 150, 3) := by decide +kernel
theorem dX1_play_54 : decode cX1_play 54 = .ok (.aload_n 0, 1) := by decide +kernel
theorem dX1_play_55 : decode cX1_play 55 = .ok (.getfield 26, 3) := by decide +kernel
theorem dX1_play_58 : decode cX1_play 58 = .ok (.iconst 0, 1) := by decide +kernel
theorem dX1_play_59 : decode cX1_play 59 = .ok (.iload 4, 2) := by decide +kernel
theorem dX1_play_61 : decode cX1_play 61 = .ok (.aload_n 0, 1) := by decide +kernel
theorem dX1_play_62 : decode cX1_play 62 = .ok (.iload 6, 2) := by decide +kernel
theorem dX1_play_64 : decode cX1_play 64 = .ok (.iconst 1, 1) := by decide +kernel
theorem dX1_play_65 : decode cX1_play 65 = .ok (.invokevirtual 56, 3) := by decide +kernel
theorem dX1_play_68 : decode cX1_play 68 = .ok (.ior, 1) := by decide +kernel
theorem dX1_play_69 : decode cX1_play 69 = .ok (.iastore, 1) := by decide +kernel
theorem dX1_play_70 : decode cX1_play 70 = .ok (.aload_n 0, 1) := by decide +kernel
theorem dX1_play_71 : decode cX1_play 71 = .ok (.getfield 26, 3) := by decide +kernel
theorem dX1_play_74 : decode cX1_play 74 = .ok (.iconst 1, 1) := by decide +kernel
theorem dX1_play_75 : decode cX1_play 75 = .ok (.iload 5, 2) := by decide +kernel
theorem dX1_play_77 : decode cX1_play 77 = .ok (.aload_n 0, 1) := by decide +kernel
theorem dX1_play_78 : decode cX1_play 78 = .ok (.iload 6, 2) := by decide +kernel
theorem dX1_play_80 : decode cX1_play 80 = .ok (.iconst 2, 1) := by decide +kernel
theorem dX1_play_81 : decode cX1_play 81 = .ok (.invokevirtual 56, 3) := by decide +kernel
theorem dX1_play_84 : decode cX1_play 84 = .ok (.ior, 1) := by decide +kernel
theorem dX1_play_85 : decode cX1_play 85 = .ok (.iastore, 1) := by decide +kernel
theorem dX1_play_86 : decode cX1_play 86 = .ok (.aload_n 0, 1) := by decide +kernel
theorem dX1_play_87 : decode cX1_play 87 = .ok (.iconst 0, 1) := by decide +kernel
theorem dX1_play_88 : decode cX1_play 88 = .ok (.invokevirtual 59, 3) := by decide +kernel
theorem dX1_play_91 : decode cX1_play 91 = .ok (.aload_n 0, 1) := by decide +kernel
theorem dX1_play_92 : decode cX1_play 92 = .ok (.iconst 1, 1) := by decide +kernel
theorem dX1_play_93 : decode cX1_play 93 = .ok (.invokevirtual 59, 3) := by decide +kernel
theorem dX1_play_96 : decode cX1_play 96 = .ok (.isub, 1) := by decide +kernel
theorem dX1_play_97 : decode cX1_play 97 = .ok (.istore 7, 2) := by decide +kernel
theorem dX1_play_99 : decode cX1_play 99 = .ok (.aload_n 0, 1) := by decide +kernel
theorem dX1_play_100 : decode cX1_play 100 = .ok (.getfield 11, 3) := by decide +kernel
theorem dX1_play_103 : decode cX1_play 103 = .ok (.iload 6, 2) := by decide +kernel
theorem dX1_play_105 : decode cX1_play 105 = .ok (.iconst 4, 1) := by decide +kernel
theorem dX1_play_106 : decode cX1_play 106 = .ok (.imul, 1) := by decide +kernel
theorem dX1_play_107 : decode cX1_play 107 = .ok (.iconst 1, 1) := by decide +kernel
theorem dX1_play_108 : decode cX1_play 108 = .ok (.iadd, 1) := by decide +kernel
theorem dX1_play_109 : decode cX1_play 109 = .ok (.aload_n 0, 1) := by decide +kernel
theorem dX1_play_110 : decode cX1_play 110 = .ok (.iload 6, 2) := by decide +kernel
theorem dX1_play_112 : decode cX1_play 112 = .ok (.iconst 0, 1) := by decide +kernel
theorem dX1_play_113 : decode cX1_play 113 = .ok (.iload 7, 2) := by decide +kernel
theorem dX1_play_115 : decode cX1_play 115 = .ok (.invokevirtual 62, 3) := by decide +kernel
theorem dX1_play_118 : decode cX1_play 118 = .ok (.iastore, 1) := by decide +kernel
theorem dX1_play_119 : decode cX1_play 119 = .ok (.aload_n 0, 1) := by decide +kernel
theorem dX1_play_120 : decode cX1_play 120 = .ok (.getfield 11, 3) := by decide +kernel
theorem dX1_play_123 : decode cX1_play 123 = .ok (.iload 6, 2) := by decide +kernel
theorem dX1_play_125 : decode cX1_play 125 = .ok (.iconst 4, 1) := by decide +kernel
theorem dX1_play_126 : decode cX1_play 126 = .ok (.imul, 1) := by decide +kernel
theorem dX1_play_127 : decode cX1_play 127 = .ok (.iconst 3, 1) := by decide +kernel
theorem dX1_play_128 : decode cX1_play 128 = .ok (.iadd, 1) := by decide +kernel
theorem dX1_play_129 : decode cX1_play 129 = .ok (.aload_n 0, 1) := by decide +kernel
theorem dX1_play_130 : decode cX1_play 130 = .ok (.iload 6, 2) := by decide +kernel
theorem dX1_play_132 : decode cX1_play 132 = .ok (.iconst 1, 1) := by decide +kernel
theorem dX1_play_133 : decode cX1_play 133 = .ok (.iload 7, 2) := by decide +kernel
theorem dX1_play_135 : decode cX1_play 135 = .ok (.invokevirtual 62, 3) := by decide +kernel
theorem dX1_play_138 : decode cX1_play 138 = .ok (.iastore, 1) := by decide +kernel
theorem dX1_play_139 : decode cX1_play 139 = .ok (.aload_n 0, 1) := by decide +kernel
theorem dX1_play_140 : decode cX1_play 140 = .ok (.getfield 11, 3) := by decide +kernel
theorem dX1_play_143 : decode cX1_play 143 = .ok (.iload 6, 2) := by decide +kernel
theorem dX1_play_145 : decode cX1_play 145 = .ok (.iconst 4, 1) := by decide +kernel
theorem dX1_play_146 : decode cX1_play 146 = .ok (.imul, 1) := by decide +kernel
theorem dX1_play_147 : decode cX1_play 147 = .ok (.iconst 2, 1) := by decide +kernel
theorem dX1_play_148 : decode cX1_play 148 = .ok (.iadd, 1) := by decide +kernel
theorem dX1_play_149 : decode cX1_play 149 = .ok (.aload_n 0, 1) := by decide +kernel
theorem dX1_play_150 : decode cX1_play 150 = .ok (.iload 6, 2) := by decide +kernel
theorem dX1_play_152 : decode cX1_play 152 = .ok (.iconst 1, 1) := by decide +kernel
theorem dX1_play_153 : decode cX1_play 153 = .ok (.aload_n 0, 1) := by decide +kernel
theorem dX1_play_154 : decode cX1_play 154 = .ok (.getfield 11, 3) := by decide +kernel
theorem dX1_play_157 : decode cX1_play 157 = .ok (.iload 6, 2) := by decide +kernel
theorem dX1_play_159 : decode cX1_play 159 = .ok (.iconst 4, 1) := by decide +kernel
theorem dX1_play_160 : decode cX1_play 160 = .ok (.imul, 1) := by decide +kernel
theorem dX1_play_161 : decode cX1_play 161 = .ok (.iconst 1, 1) := by decide +kernel
theorem dX1_play_162 : decode cX1_play 162 = .ok (.iadd, 1) := by decide +kernel
theorem dX1_play_163 : decode cX1_play 163 = .ok (.iaload, 1) := by decide +kernel
theorem dX1_play_164 : decode cX1_play 164 = .ok (.invokevirtual 62, 3) := by decide +kernel
theorem dX1_play_167 : decode cX1_play 167 = .ok (.iastore, 1) := by decide +kernel
theorem dX1_play_168 : decode cX1_play 168 = .ok (.aload_n 0, 1) := by decide +kernel
theorem dX1_play_169 : decode cX1_play 169 = .ok (.getfield 11, 3) := by decide +kernel
theorem dX1_play_172 : decode cX1_play 172 = .ok (.iload 6, 2) := by decide +kernel
theorem dX1_play_174 : decode cX1_play 174 = .ok (.iconst 4, 1) := by decide +kernel
theorem dX1_play_175 : decode cX1_play 175 = .ok (.imul, 1) := by decide +kernel
theorem dX1_play_176 : decode cX1_play 176 = .ok (.aload_n 0, 1) := by decide +kernel
theorem dX1_play_177 : decode cX1_play 177 = .ok (.iload 6, 2) := by decide +kernel
theorem dX1_play_179 : decode cX1_play 179 = .ok (.iconst 0, 1) := by decide +kernel
theorem dX1_play_180 : decode cX1_play 180 = .ok (.aload_n 0, 1) := by decide +kernel
theorem dX1_play_181 : decode cX1_play 181 = .ok (.getfield 11, 3) := by decide +kernel
theorem dX1_play_184 : decode cX1_play 184 = .ok (.iload 6, 2) := by decide +kernel
theorem dX1_play_186 : decode cX1_play 186 = .ok (.iconst 4, 1) := by decide +kernel
theorem dX1_play_187 : decode cX1_play 187 = .ok (.imul, 1) := by decide +kernel
theorem dX1_play_188 : decode cX1_play 188 = .ok (.iconst 3, 1) := by decide +kernel
theorem dX1_play_189 : decode cX1_play 189 = .ok (.iadd, 1) := by decide +kernel
theorem dX1_play_190 : decode cX1_play 190 = .ok (.iaload, 1) := by decide +kernel
theorem dX1_play_191 : decode cX1_play 191 = .ok (.invokevirtual 62, 3) := by decide +kernel
theorem dX1_play_194 : decode cX1_play 194 = .ok (.iastore, 1) := by decide +kernel
theorem dX1_play_195 : decode cX1_play 195 = .ok (.iinc 6 (-1), 3) := by decide +kernel
theorem dX1_play_198 : decode cX1_play 198 = .ok (.goto (-149), 3) := by decide +kernel
theorem dX1_play_201 : decode cX1_play 201 = .ok (.aload_n 0, 1) := by decide +kernel
theorem dX1_play_202 : decode cX1_play 202 = .ok (.aload_n 0, 1) := by decide +kernel
theorem dX1_play_203 : decode cX1_play 203 = .ok (.getfield 11, 3) := by decide +kernel
theorem dX1_play_206 : decode cX1_play 206 = .ok (.iconst 0, 1) := by decide +kernel
theorem dX1_play_207 : decode cX1_play 207 = .ok (.iaload, 1) := by decide +kernel
theorem dX1_play_208 : decode cX1_play 208 = .ok (.putfield 66, 3) := by decide +kernel
theorem dX1_play_211 : decode cX1_play 211 = .ok (.return_, 1) := by decide +kernel
theorem dX1_setWorth_0 : decode cX1_setWorth 0 = .ok (.iconst 0, 1) := by decide +kernel
theorem dX1_setWorth_1 : decode cX1_setWorth 1 = .ok (.istore_n 3, 1) := by decide +kernel
theorem dX1_setWorth_2 : decode cX1_setWorth 2 = .ok (.iload_n 3, 1) := by decide +kernel
theorem dX1_setWorth_3 : decode cX1_setWorth 3 = .ok (.bipush 64, 2) := by decide +kernel
theorem dX1_setWorth_5 : decode cX1_setWorth 5 = .ok (.if_icmp .ge 51, 3) := by decide +kernel
theorem dX1_setWorth_8 : decode cX1_setWorth 8 = .ok (.aload_n 0, 1) := by decide +kernel
theorem dX1_setWorth_9 : decode cX1_setWorth 9 = .ok (.getfield 17, 3) := by decide +kernel
theorem dX1_setWorth_12 : decode cX1_setWorth 12 = .ok (.iload_n 1, 1) := by decide +kernel
theorem dX1_setWorth_13 : decode cX1_setWorth 13 = .ok (.aaload, 1) := by decide +kernel
theorem dX1_setWorth_14 : decode cX1_setWorth 14 = .ok (.iload_n 3, 1) := by decide +kernel
theorem dX1_setWorth_15 : decode cX1_setWorth 15 = .ok (.aload_n 0, 1) := by decide +kernel
theorem dX1_setWorth_16 : decode cX1_setWorth 16 = .ok (.getfield 29, 3) := by decide +kernel
theorem dX1_setWorth_19 : decode cX1_setWorth 19 = .ok (.iload_n 3, 1) := by decide +kernel
theorem dX1_setWorth_20 : decode cX1_setWorth 20 = .ok (.invokevirtual 70, 3) := by decide +kernel
theorem dX1_setWorth_23 : decode cX1_setWorth 23 = .ok (.aload_n 0, 1) := by decide +kernel
theorem dX1_setWorth_24 : decode cX1_setWorth 24 = .ok (.getfield 29, 3) := by decide +kernel
theorem dX1_setWorth_27 : decode cX1_setWorth 27 = .ok (.iload_n 2, 1) := by decide +kernel
theorem dX1_setWorth_28 : decode cX1_setWorth 28 = .ok (.aload_n 0, 1) := by decide +kernel
theorem dX1_setWorth_29 : decode cX1_setWorth 29 = .ok (.getfield 33, 3) := by decide +kernel
theorem dX1_setWorth_32 : decode cX1_setWorth 32 = .ok (.getfield 75, 3) := by decide +kernel
theorem dX1_setWorth_35 : decode cX1_setWorth 35 = .ok (.iload_n 2, 1) := by decide +kernel
theorem dX1_setWorth_36 : decode cX1_setWorth 36 = .ok (.iaload, 1) := by decide +kernel
theorem dX1_setWorth_37 : decode cX1_setWorth 37 = .ok (.aload_n 0, 1) := by decide +kernel
theorem dX1_setWorth_38 : decode cX1_setWorth 38 = .ok (.getfield 29, 3) := by decide +kernel
theorem dX1_setWorth_41 : decode cX1_setWorth 41 = .ok (.getfield 78, 3) := by decide +kernel
theorem dX1_setWorth_44 : decode cX1_setWorth 44 = .ok (.iload_n 3, 1) := by decide +kernel
theorem dX1_setWorth_45 : decode cX1_setWorth 45 = .ok (.invokevirtual 81, 3) := by decide +kernel
theorem dX1_setWorth_48 : decode cX1_setWorth 48 = .ok (.isub, 1) := by decide +kernel
theorem dX1_setWorth_49 : decode cX1_setWorth 49 = .ok (.iastore, 1) := by decide +kernel
theorem dX1_setWorth_50 : decode cX1_setWorth 50 = .ok (.iinc 3 1, 3) := by decide +kernel
theorem dX1_setWorth_53 : decode cX1_setWorth 53 = .ok (.goto (-51), 3) := by decide +kernel
theorem dX1_setWorth_56 : decode cX1_setWorth 56 = .ok (.return_, 1) := by decide +kernel
theorem dX1_worthOfSet_0 : decode cX1_worthOfSet 0 = .ok (.aload_n 0, 1) := by decide +kernel
theorem dX1_worthOfSet_1 : decode cX1_worthOfSet 1 = .ok (.getfield 26, 3) := by decide +kernel
theorem dX1_worthOfSet_4 : decode cX1_worthOfSet 4 = .ok (.iload_n 1, 1) := by decide +kernel
theorem dX1_worthOfSet_5 : decode cX1_worthOfSet 5 = .ok (.iaload, 1) := by decide +kernel
theorem dX1_worthOfSet_6 : decode cX1_worthOfSet 6 = .ok (.istore_n 2, 1) := by decide +kernel
theorem dX1_worthOfSet_7 : decode cX1_worthOfSet 7 = .ok (.iload_n 2, 1) := by decide +kernel
theorem dX1_worthOfSet_8 : decode cX1_worthOfSet 8 = .ok (.ifCond .lt 20, 3) := by decide +kernel
theorem dX1_worthOfSet_11 : decode cX1_worthOfSet 11 = .ok (.iload_n 2, 1) := by decide +kernel
theorem dX1_worthOfSet_12 : decode cX1_worthOfSet 12 = .ok (.bipush 64, 2) := by decide +kernel
theorem dX1_worthOfSet_14 : decode cX1_worthOfSet 14 = .ok (.if_icmp .ge 14, 3) := by decide +kernel
theorem dX1_worthOfSet_17 : decode cX1_worthOfSet 17 = .ok (.aload_n 0, 1) := by decide +kernel
theorem dX1_worthOfSet_18 : decode cX1_worthOfSet 18 = .ok (.getfield 17, 3) := by decide +kernel
theorem dX1_worthOfSet_21 : decode cX1_worthOfSet 21 = .ok (.iload_n 1, 1) := by decide +kernel
theorem dX1_worthOfSet_22 : decode cX1_worthOfSet 22 = .ok (.aaload, 1) := by decide +kernel
theorem dX1_worthOfSet_23 : decode cX1_worthOfSet 23 = .ok (.iload_n 2, 1) := by decide +kernel
theorem dX1_worthOfSet_24 : decode cX1_worthOfSet 24 = .ok (.iaload, 1) := by decide +kernel
theorem dX1_worthOfSet_25 : decode cX1_worthOfSet 25 = .ok (.goto 4, 3) := by decide +kernel
theorem dX1_worthOfSet_28 : decode cX1_worthOfSet 28 = .ok (.iconst 0, 1) := by decide +kernel
theorem dX1_worthOfSet_29 : decode cX1_worthOfSet 29 = .ok (.ireturn, 1) := by decide +kernel
theorem dX1_layOut_0 : decode cX1_layOut 0 = .ok (.aload_n 0, 1) := by decide +kernel
theorem dX1_layOut_1 : decode cX1_layOut 1 = .ok (.getfield 33, 3) := by decide +kernel
theorem dX1_layOut_4 : decode cX1_layOut 4 = .ok (.iload_n 1, 1) := by decide +kernel
theorem dX1_layOut_5 : decode cX1_layOut 5 = .ok (.invokevirtual 85, 3) := by decide +kernel
theorem dX1_layOut_8 : decode cX1_layOut 8 = .ok (.istore_n 2, 1) := by decide +kernel
theorem dX1_layOut_9 : decode cX1_layOut 9 = .ok (.iconst 1, 1) := by decide +kernel
theorem dX1_layOut_10 : decode cX1_layOut 10 = .ok (.istore_n 3, 1) := by decide +kernel
theorem dX1_layOut_11 : decode cX1_layOut 11 = .ok (.aload_n 0, 1) := by decide +kernel
theorem dX1_layOut_12 : decode cX1_layOut 12 = .ok (.iconst 0, 1) := by decide +kernel
theorem dX1_layOut_13 : decode cX1_layOut 13 = .ok (.putfield 88, 3) := by decide +kernel
theorem dX1_layOut_16 : decode cX1_layOut 16 = .ok (.iconst 0, 1) := by decide +kernel
theorem dX1_layOut_17 : decode cX1_layOut 17 = .ok (.istore 4, 2) := by decide +kernel
theorem dX1_layOut_19 : decode cX1_layOut 19 = .ok (.iload 4, 2) := by decide +kernel
theorem dX1_layOut_21 : decode cX1_layOut 21 = .ok (.bipush 6, 2) := by decide +kernel
theorem dX1_layOut_23 : decode cX1_layOut 23 = .ok (.if_icmp .ge 54, 3) := by decide +kernel
theorem dX1_layOut_26 : decode cX1_layOut 26 = .ok (.iload_n 2, 1) := by decide +kernel
theorem dX1_layOut_27 : decode cX1_layOut 27 = .ok (.iload 4, 2) := by decide +kernel
theorem dX1_layOut_29 : decode cX1_layOut 29 = .ok (.ishr, 1) := by decide +kernel
theorem dX1_layOut_30 : decode cX1_layOut 30 = .ok (.iconst 1, 1) := by decide +kernel
theorem dX1_layOut_31 : decode cX1_layOut 31 = .ok (.iand, 1) := by decide +kernel
theorem dX1_layOut_32 : decode cX1_layOut 32 = .ok (.iconst 1, 1) := by decide +kernel
theorem dX1_layOut_33 : decode cX1_layOut 33 = .ok (.if_icmp .ne 38, 3) := by decide +kernel
theorem dX1_layOut_36 : decode cX1_layOut 36 = .ok (.aload_n 0, 1) := by decide +kernel
theorem dX1_layOut_37 : decode cX1_layOut 37 = .ok (.getfield 20, 3) := by decide +kernel
theorem dX1_layOut_40 : decode cX1_layOut 40 = .ok (.aload_n 0, 1) := by decide +kernel
theorem dX1_layOut_41 : decode cX1_layOut 41 = .ok (.getfield 88, 3) := by decide +kernel
theorem dX1_layOut_44 : decode cX1_layOut 44 = .ok (.iload 4, 2) := by decide +kernel
theorem dX1_layOut_46 : decode cX1_layOut 46 = .ok (.iastore, 1) := by decide +kernel
theorem dX1_layOut_47 : decode cX1_layOut 47 = .ok (.aload_n 0, 1) := by decide +kernel
theorem dX1_layOut_48 : decode cX1_layOut 48 = .ok (.getfield 23, 3) := by decide +kernel
theorem dX1_layOut_51 : decode cX1_layOut 51 = .ok (.aload_n 0, 1) := by decide +kernel
theorem dX1_layOut_52 : decode cX1_layOut 52 = .ok (.getfield 88, 3) := by decide +kernel
theorem dX1_layOut_55 : decode cX1_layOut 55 = .ok (.iload_n 3, 1) := by decide +kernel
theorem dX1_layOut_56 : decode cX1_layOut 56 = .ok (.iastore, 1) := by decide +kernel
theorem dX1_layOut_57 : decode cX1_layOut 57 = .ok (.aload_n 0, 1) := by decide +kernel
theorem dX1_layOut_58 : decode cX1_layOut 58 = .ok (.dup, 1) := by decide +kernel
theorem dX1_layOut_59 : decode cX1_layOut 59 = .ok (.getfield 88, 3) := by decide +kernel
theorem dX1_layOut_62 : decode cX1_layOut 62 = .ok (.iconst 1, 1) := by decide +kernel
theorem dX1_layOut_63 : decode cX1_layOut 63 = .ok (.iadd, 1) := by decide +kernel
theorem dX1_layOut_64 : decode cX1_layOut 64 = .ok (.putfield 88, 3) := by decide +kernel
theorem dX1_layOut_67 : decode cX1_layOut 67 = .ok (.iload_n 3, 1) := by decide +kernel
theorem dX1_layOut_68 : decode cX1_layOut 68 = .ok (.iconst 3, 1) := by decide +kernel
theorem dX1_layOut_69 : decode cX1_layOut 69 = .ok (.imul, 1) := by decide +kernel
theorem dX1_layOut_70 : decode cX1_layOut 70 = .ok (.istore_n 3, 1) := by decide +kernel
theorem dX1_layOut_71 : decode cX1_layOut 71 = .ok (.iinc 4 1, 3) := by decide +kernel
theorem dX1_layOut_74 : decode cX1_layOut 74 = .ok (.goto (-55), 3) := by decide +kernel
theorem dX1_layOut_77 : decode cX1_layOut 77 = .ok (.iload_n 3, 1) := by decide +kernel
theorem dX1_layOut_78 : decode cX1_layOut 78 = .ok (.ireturn, 1) := by decide +kernel
theorem dX1_isDigit_0 : decode cX1_isDigit 0 = .ok (.iload_n 1, 1) := by decide +kernel
theorem dX1_isDigit_1 : decode cX1_isDigit 1 = .ok (.ifCond .le 16, 3) := by decide +kernel
theorem dX1_isDigit_4 : decode cX1_isDigit 4 = .ok (.iload_n 0, 1) := by decide +kernel
theorem dX1_isDigit_5 : decode cX1_isDigit 5 = .ok (.iload_n 1, 1) := by decide +kernel
theorem dX1_isDigit_6 : decode cX1_isDigit 6 = .ok (.idiv, 1) := by decide +kernel
theorem dX1_isDigit_7 : decode cX1_isDigit 7 = .ok (.iconst 3, 1) := by decide +kernel
theorem dX1_isDigit_8 : decode cX1_isDigit 8 = .ok (.irem, 1) := by decide +kernel
theorem dX1_isDigit_9 : decode cX1_isDigit 9 = .ok (.iload_n 2, 1) := by decide +kernel
theorem dX1_isDigit_10 : decode cX1_isDigit 10 = .ok (.if_icmp .ne 7, 3) := by decide +kernel
theorem dX1_isDigit_13 : decode cX1_isDigit 13 = .ok (.iconst 1, 1) := by decide +kernel
theorem dX1_isDigit_14 : decode cX1_isDigit 14 = .ok (.goto 4, 3) := by decide +kernel
theorem dX1_isDigit_17 : decode cX1_isDigit 17 = .ok (.iconst 0, 1) := by decide +kernel
theorem dX1_isDigit_18 : decode cX1_isDigit 18 = .ok (.ireturn, 1) := by decide +kernel
theorem dX1_takenBy_0 : decode cX1_takenBy 0 = .ok (.iconst 0, 1) := by decide +kernel
theorem dX1_takenBy_1 : decode cX1_takenBy 1 = .ok (.istore_n 3, 1) := by decide +kernel
theorem dX1_takenBy_2 : decode cX1_takenBy 2 = .ok (.iconst 0, 1) := by decide +kernel
theorem dX1_takenBy_3 : decode cX1_takenBy 3 = .ok (.istore 4, 2) := by decide +kernel
theorem dX1_takenBy_5 : decode cX1_takenBy 5 = .ok (.iload 4, 2) := by decide +kernel
theorem dX1_takenBy_7 : decode cX1_takenBy 7 = .ok (.aload_n 0, 1) := by decide +kernel
theorem dX1_takenBy_8 : decode cX1_takenBy 8 = .ok (.getfield 88, 3) := by decide +kernel
theorem dX1_takenBy_11 : decode cX1_takenBy 11 = .ok (.if_icmp .ge 43, 3) := by decide +kernel
theorem dX1_takenBy_14 : decode cX1_takenBy 14 = .ok (.iload 4, 2) := by decide +kernel
theorem dX1_takenBy_16 : decode cX1_takenBy 16 = .ok (.bipush 6, 2) := by decide +kernel
theorem dX1_takenBy_18 : decode cX1_takenBy 18 = .ok (.if_icmp .ge 36, 3) := by decide +kernel
theorem dX1_takenBy_21 : decode cX1_takenBy 21 = .ok (.iload_n 1, 1) := by decide +kernel
theorem dX1_takenBy_22 : decode cX1_takenBy 22 = .ok (.aload_n 0, 1) := by decide +kernel
theorem dX1_takenBy_23 : decode cX1_takenBy 23 = .ok (.getfield 23, 3) := by decide +kernel
theorem dX1_takenBy_26 : decode cX1_takenBy 26 = .ok (.iload 4, 2) := by decide +kernel
theorem dX1_takenBy_28 : decode cX1_takenBy 28 = .ok (.iaload, 1) := by decide +kernel
theorem dX1_takenBy_29 : decode cX1_takenBy 29 = .ok (.iload_n 2, 1) := by decide +kernel
theorem dX1_takenBy_30 : decode cX1_takenBy 30 = .ok (.invokestatic 91, 3) := by decide +kernel
theorem dX1_takenBy_33 : decode cX1_takenBy 33 = .ok (.ifCond .eq 15, 3) := by decide +kernel
theorem dX1_takenBy_36 : decode cX1_takenBy 36 = .ok (.iload_n 3, 1) := by decide +kernel
theorem dX1_takenBy_37 : decode cX1_takenBy 37 = .ok (.iconst 1, 1) := by decide +kernel
theorem dX1_takenBy_38 : decode cX1_takenBy 38 = .ok (.aload_n 0, 1) := by decide +kernel
theorem dX1_takenBy_39 : decode cX1_takenBy 39 = .ok (.getfield 20, 3) := by decide +kernel
theorem dX1_takenBy_42 : decode cX1_takenBy 42 = .ok (.iload 4, 2) := by decide +kernel
theorem dX1_takenBy_44 : decode cX1_takenBy 44 = .ok (.iaload, 1) := by decide +kernel
theorem dX1_takenBy_45 : decode cX1_takenBy 45 = .ok (.ishl, 1) := by decide +kernel
theorem dX1_takenBy_46 : decode cX1_takenBy 46 = .ok (.ior, 1) := by decide +kernel
theorem dX1_takenBy_47 : decode cX1_takenBy 47 = .ok (.istore_n 3, 1) := by decide +kernel
theorem dX1_takenBy_48 : decode cX1_takenBy 48 = .ok (.iinc 4 1, 3) := by decide +kernel
theorem dX1_takenBy_51 : decode cX1_takenBy 51 = .ok (.goto (-46), 3) := by decide +kernel
theorem dX1_takenBy_54 : decode cX1_takenBy 54 = .ok (.iload_n 3, 1) := by decide +kernel
theorem dX1_takenBy_55 : decode cX1_takenBy 55 = .ok (.ireturn, 1) := by decide +kernel
theorem dX1_best_0 : decode cX1_best 0 = .ok (.iload_n 3, 1) := by decide +kernel
theorem dX1_best_1 : decode cX1_best 1 = .ok (.istore 4, 2) := by decide +kernel
theorem dX1_best_3 : decode cX1_best 3 = .ok (.aload_n 0, 1) := by decide +kernel
theorem dX1_best_4 : decode cX1_best 4 = .ok (.iconst (-1), 1) := by decide +kernel
theorem dX1_best_5 : decode cX1_best 5 = .ok (.putfield 95, 3) := by decide +kernel
theorem dX1_best_8 : decode cX1_best 8 = .ok (.aload_n 0, 1) := by decide +kernel
theorem dX1_best_9 : decode cX1_best 9 = .ok (.getfield 26, 3) := by decide +kernel
theorem dX1_best_12 : decode cX1_best 12 = .ok (.iload_n 2, 1) := by decide +kernel
theorem dX1_best_13 : decode cX1_best 13 = .ok (.iaload, 1) := by decide +kernel
theorem dX1_best_14 : decode cX1_best 14 = .ok (.invokestatic 98, 3) := by decide +kernel
theorem dX1_best_17 : decode cX1_best 17 = .ok (.aload_n 0, 1) := by decide +kernel
theorem dX1_best_18 : decode cX1_best 18 = .ok (.getfield 29, 3) := by decide +kernel
theorem dX1_best_21 : decode cX1_best 21 = .ok (.getfield 103, 3) := by decide +kernel
theorem dX1_best_24 : decode cX1_best 24 = .ok (.if_icmp .lt 6, 3) := by decide +kernel
theorem dX1_best_27 : decode cX1_best 27 = .ok (.iload 4, 2) := by decide +kernel
theorem dX1_best_29 : decode cX1_best 29 = .ok (.ireturn, 1) := by decide +kernel
theorem dX1_best_30 : decode cX1_best 30 = .ok (.iconst 0, 1) := by decide +kernel
theorem dX1_best_31 : decode cX1_best 31 = .ok (.istore 5, 2) := by decide +kernel
theorem dX1_best_33 : decode cX1_best 33 = .ok (.iload 5, 2) := by decide +kernel
theorem dX1_best_35 : decode cX1_best 35 = .ok (.aload_n 0, 1) := by decide +kernel
theorem dX1_best_36 : decode cX1_best 36 = .ok (.getfield 88, 3) := by decide +kernel
theorem dX1_best_39 : decode cX1_best 39 = .ok (.if_icmp .ge 109, 3) := by decide +kernel
theorem dX1_best_42 : decode cX1_best 42 = .ok (.iload 5, 2) := by decide +kernel
theorem dX1_best_44 : decode cX1_best 44 = .ok (.bipush 6, 2) := by decide +kernel
theorem dX1_best_46 : decode cX1_best 46 = .ok (.if_icmp .ge 102, 3) := by decide +kernel
theorem dX1_best_49 : decode cX1_best 49 = .ok (.iload_n 1, 1) := by decide +kernel
theorem dX1_best_50 : decode cX1_best 50 = .ok (.iload_n 2, 1) := by decide +kernel
theorem dX1_best_51 : decode cX1_best 51 = .ok (.iconst 1, 1) := by decide +kernel
theorem dX1_best_52 : decode cX1_best 52 = .ok (.iadd, 1) := by decide +kernel
theorem dX1_best_53 : decode cX1_best 53 = .ok (.aload_n 0, 1) := by decide +kernel
theorem dX1_best_54 : decode cX1_best 54 = .ok (.getfield 23, 3) := by decide +kernel
theorem dX1_best_57 : decode cX1_best 57 = .ok (.iload 5, 2) := by decide +kernel
theorem dX1_best_59 : decode cX1_best 59 = .ok (.iaload, 1) := by decide +kernel
theorem dX1_best_60 : decode cX1_best 60 = .ok (.imul, 1) := by decide +kernel
theorem dX1_best_61 : decode cX1_best 61 = .ok (.iadd, 1) := by decide +kernel
theorem dX1_best_62 : decode cX1_best 62 = .ok (.iconst 4, 1) := by decide +kernel
theorem dX1_best_63 : decode cX1_best 63 = .ok (.imul, 1) := by decide +kernel
theorem dX1_best_64 : decode cX1_best 64 = .ok (.iconst 1, 1) := by decide +kernel
theorem dX1_best_65 : decode cX1_best 65 = .ok (.iload_n 2, 1) := by decide +kernel
theorem dX1_best_66 : decode cX1_best 66 = .ok (.isub, 1) := by decide +kernel
theorem dX1_best_67 : decode cX1_best 67 = .ok (.iconst 2, 1) := by decide +kernel
theorem dX1_best_68 : decode cX1_best 68 = .ok (.imul, 1) := by decide +kernel
theorem dX1_best_69 : decode cX1_best 69 = .ok (.iadd, 1) := by decide +kernel
theorem dX1_best_70 : decode cX1_best 70 = .ok (.istore 6, 2) := by decide +kernel
theorem dX1_best_72 : decode cX1_best 72 = .ok (.iload_n 1, 1) := by decide +kernel
theorem dX1_best_73 : decode cX1_best 73 = .ok (.aload_n 0, 1) := by decide +kernel
theorem dX1_best_74 : decode cX1_best 74 = .ok (.getfield 23, 3) := by decide +kernel
theorem dX1_best_77 : decode cX1_best 77 = .ok (.iload 5, 2) := by decide +kernel
theorem dX1_best_79 : decode cX1_best 79 = .ok (.iaload, 1) := by decide +kernel
theorem dX1_best_80 : decode cX1_best 80 = .ok (.iconst 0, 1) := by decide +kernel
theorem dX1_best_81 : decode cX1_best 81 = .ok (.invokestatic 91, 3) := by decide +kernel
theorem dX1_best_84 : decode cX1_best 84 = .ok (.ifCond .eq 58, 3) := by decide +kernel
theorem dX1_best_87 : decode cX1_best 87 = .ok (.iload 6, 2) := by decide +kernel
theorem dX1_best_89 : decode cX1_best 89 = .ok (.aload_n 0, 1) := by decide +kernel
theorem dX1_best_90 : decode cX1_best 90 = .ok (.getfield 11, 3) := by decide +kernel
theorem dX1_best_93 : decode cX1_best 93 = .ok (.arraylength, 1) := by decide +kernel
theorem dX1_best_94 : decode cX1_best 94 = .ok (.if_icmp .ge 48, 3) := by decide +kernel
theorem dX1_best_97 : decode cX1_best 97 = .ok (.aload_n 0, 1) := by decide +kernel
theorem dX1_best_98 : decode cX1_best 98 = .ok (.getfield 11, 3) := by decide +kernel
theorem dX1_best_101 : decode cX1_best 101 = .ok (.iload 6, 2) := by decide +kernel
theorem dX1_best_103 : decode cX1_best 103 = .ok (.iaload, 1) := by decide +kernel
theorem dX1_best_104 : decode cX1_best 104 = .ok (.istore 7, 2) := by decide +kernel
theorem dX1_best_106 : decode cX1_best 106 = .ok (.iload_n 2, 1) := by decide +kernel
theorem dX1_best_107 : decode cX1_best 107 = .ok (.ifCond .ne 13, 3) := by decide +kernel
theorem dX1_best_110 : decode cX1_best 110 = .ok (.iload 7, 2) := by decide +kernel
theorem dX1_best_112 : decode cX1_best 112 = .ok (.iload 4, 2) := by decide +kernel
theorem dX1_best_114 : decode cX1_best 114 = .ok (.if_icmp .le 28, 3) := by decide +kernel
theorem dX1_best_117 : decode cX1_best 117 = .ok (.goto 10, 3) := by decide +kernel
theorem dX1_best_120 : decode cX1_best 120 = .ok (.iload 7, 2) := by decide +kernel
theorem dX1_best_122 : decode cX1_best 122 = .ok (.iload 4, 2) := by decide +kernel
theorem dX1_best_124 : decode cX1_best 124 = .ok (.if_icmp .ge 18, 3) := by decide +kernel
theorem dX1_best_127 : decode cX1_best 127 = .ok (.iload 7, 2) := by decide +kernel
theorem dX1_best_129 : decode cX1_best 129 = .ok (.istore 4, 2) := by decide +kernel
theorem dX1_best_131 : decode cX1_best 131 = .ok (.aload_n 0, 1) := by decide +kernel
theorem dX1_best_132 : decode cX1_best 132 = .ok (.aload_n 0, 1) := by decide +kernel
theorem dX1_best_133 : decode cX1_best 133 = .ok (.getfield 20, 3) := by decide +kernel
theorem dX1_best_136 : decode cX1_best 136 = .ok (.iload 5, 2) := by decide +kernel
theorem dX1_best_138 : decode cX1_best 138 = .ok (.iaload, 1) := by decide +kernel
theorem dX1_best_139 : decode cX1_best 139 = .ok (.putfield 95, 3) := by decide +kernel
theorem dX1_best_142 : decode cX1_best 142 = .ok (.iinc 5 1, 3) := by decide +kernel
theorem dX1_best_145 : decode cX1_best 145 = .ok (.goto (-112), 3) := by decide +kernel
theorem dX1_best_148 : decode cX1_best 148 = .ok (.iload 4, 2) := by decide +kernel
theorem dX1_best_150 : decode cX1_best 150 = .ok (.ireturn, 1) := by decide +kernel
theorem dX2_init_0 : decode cX2_init 0 = .ok (.aload_n 0, 1) := by decide +kernel
theorem dX2_init_1 : decode cX2_init 1 = .ok (.invokespecial 1, 3) := by decide +kernel
theorem dX2_init_4 : decode cX2_init 4 = .ok (.aload_n 0, 1) := by decide +kernel
theorem dX2_init_5 : decode cX2_init 5 = .ok (.bipush 20, 2) := by decide +kernel
theorem dX2_init_7 : decode cX2_init 7 = .ok (.anewarray 9, 3) := by decide +kernel
theorem dX2_init_10 : decode cX2_init 10 = .ok (.putfield 11, 3) := by decide +kernel
theorem dX2_init_13 : decode cX2_init 13 = .ok (.iconst 0, 1) := by decide +kernel
theorem dX2_init_14 : decode cX2_init 14 = .ok (.istore_n 1, 1) := by decide +kernel
theorem dX2_init_15 : decode cX2_init 15 = .ok (.iload_n 1, 1) := by decide +kernel
theorem dX2_init_16 : decode cX2_init 16 = .ok (.bipush 20, 2) := by decide +kernel
theorem dX2_init_18 : decode cX2_init 18 = .ok (.if_icmp .ge 22, 3) := by decide +kernel
theorem dX2_init_21 : decode cX2_init 21 = .ok (.aload_n 0, 1) := by decide +kernel
theorem dX2_init_22 : decode cX2_init 22 = .ok (.getfield 11, 3) := by decide +kernel
theorem dX2_init_25 : decode cX2_init 25 = .ok (.iload_n 1, 1) := by decide +kernel
theorem dX2_init_26 : decode cX2_init 26 = .ok (.new 9, 3) := by decide +kernel
theorem dX2_init_29 : decode cX2_init 29 = .ok (.dup, 1) := by decide +kernel
theorem dX2_init_30 : decode cX2_init 30 = .ok (.invokespecial 15, 3) := by decide +kernel
theorem dX2_init_33 : decode cX2_init 33 = .ok (.aastore, 1) := by decide +kernel
theorem dX2_init_34 : decode cX2_init 34 = .ok (.iinc 1 1, 3) := by decide +kernel
theorem dX2_init_37 : decode cX2_init 37 = .ok (.goto (-22), 3) := by decide +kernel
theorem dX2_init_40 : decode cX2_init 40 = .ok (.return_, 1) := by decide +kernel
theorem dX2_clear_0 : decode cX2_clear 0 = .ok (.aload_n 0, 1) := by decide +kernel
theorem dX2_clear_1 : decode cX2_clear 1 = .ok (.iconst 0, 1) := by decide +kernel
theorem dX2_clear_2 : decode cX2_clear 2 = .ok (.putfield 16, 3) := by decide +kernel
theorem dX2_clear_5 : decode cX2_clear 5 = .ok (.aload_n 0, 1) := by decide +kernel
theorem dX2_clear_6 : decode cX2_clear 6 = .ok (.iconst 0, 1) := by decide +kernel
theorem dX2_clear_7 : decode cX2_clear 7 = .ok (.putfield 20, 3) := by decide +kernel
theorem dX2_clear_10 : decode cX2_clear 10 = .ok (.return_, 1) := by decide +kernel
theorem dX2_copy_0 : decode cX2_copy 0 = .ok (.aload_n 0, 1) := by decide +kernel
theorem dX2_copy_1 : decode cX2_copy 1 = .ok (.aload_n 1, 1) := by decide +kernel
theorem dX2_copy_2 : decode cX2_copy 2 = .ok (.getfield 16, 3) := by decide +kernel
theorem dX2_copy_5 : decode cX2_copy 5 = .ok (.putfield 16, 3) := by decide +kernel
theorem dX2_copy_8 : decode cX2_copy 8 = .ok (.aload_n 0, 1) := by decide +kernel
theorem dX2_copy_9 : decode cX2_copy 9 = .ok (.aload_n 1, 1) := by decide +kernel
theorem dX2_copy_10 : decode cX2_copy 10 = .ok (.getfield 20, 3) := by decide +kernel
theorem dX2_copy_13 : decode cX2_copy 13 = .ok (.putfield 20, 3) := by decide +kernel
theorem dX2_copy_16 : decode cX2_copy 16 = .ok (.iconst 0, 1) := by decide +kernel
theorem dX2_copy_17 : decode cX2_copy 17 = .ok (.istore_n 2, 1) := by decide +kernel
theorem dX2_copy_18 : decode cX2_copy 18 = .ok (.iload_n 2, 1) := by decide +kernel
theorem dX2_copy_19 : decode cX2_copy 19 = .ok (.bipush 20, 2) := by decide +kernel
theorem dX2_copy_21 : decode cX2_copy 21 = .ok (.if_icmp .ge 24, 3) := by decide +kernel
theorem dX2_copy_24 : decode cX2_copy 24 = .ok (.aload_n 0, 1) := by decide +kernel
theorem dX2_copy_25 : decode cX2_copy 25 = .ok (.getfield 11, 3) := by decide +kernel
theorem dX2_copy_28 : decode cX2_copy 28 = .ok (.iload_n 2, 1) := by decide +kernel
theorem dX2_copy_29 : decode cX2_copy 29 = .ok (.aaload, 1) := by decide +kernel
theorem dX2_copy_30 : decode cX2_copy 30 = .ok (.aload_n 1, 1) := by decide +kernel
theorem dX2_copy_31 : decode cX2_copy 31 = .ok (.getfield 11, 3) := by decide +kernel
theorem dX2_copy_34 : decode cX2_copy 34 = .ok (.iload_n 2, 1) := by decide +kernel
theorem dX2_copy_35 : decode cX2_copy 35 = .ok (.aaload, 1) := by decide +kernel
theorem dX2_copy_36 : decode cX2_copy 36 = .ok (.invokevirtual 23, 3) := by decide +kernel
theorem dX2_copy_39 : decode cX2_copy 39 = .ok (.iinc 2 1, 3) := by decide +kernel
theorem dX2_copy_42 : decode cX2_copy 42 = .ok (.goto (-24), 3) := by decide +kernel
theorem dX2_copy_45 : decode cX2_copy 45 = .ok (.return_, 1) := by decide +kernel
theorem dX2_keep_0 : decode cX2_keep 0 = .ok (.aload_n 0, 1) := by decide +kernel
theorem dX2_keep_1 : decode cX2_keep 1 = .ok (.getfield 11, 3) := by decide +kernel
theorem dX2_keep_4 : decode cX2_keep 4 = .ok (.aload_n 0, 1) := by decide +kernel
theorem dX2_keep_5 : decode cX2_keep 5 = .ok (.getfield 16, 3) := by decide +kernel
theorem dX2_keep_8 : decode cX2_keep 8 = .ok (.aload_n 0, 1) := by decide +kernel
theorem dX2_keep_9 : decode cX2_keep 9 = .ok (.getfield 20, 3) := by decide +kernel
theorem dX2_keep_12 : decode cX2_keep 12 = .ok (.iadd, 1) := by decide +kernel
theorem dX2_keep_13 : decode cX2_keep 13 = .ok (.bipush 20, 2) := by decide +kernel
theorem dX2_keep_15 : decode cX2_keep 15 = .ok (.irem, 1) := by decide +kernel
theorem dX2_keep_16 : decode cX2_keep 16 = .ok (.aaload, 1) := by decide +kernel
theorem dX2_keep_17 : decode cX2_keep 17 = .ok (.aload_n 1, 1) := by decide +kernel
theorem dX2_keep_18 : decode cX2_keep 18 = .ok (.invokevirtual 23, 3) := by decide +kernel
theorem dX2_keep_21 : decode cX2_keep 21 = .ok (.aload_n 0, 1) := by decide +kernel
theorem dX2_keep_22 : decode cX2_keep 22 = .ok (.getfield 20, 3) := by decide +kernel
theorem dX2_keep_25 : decode cX2_keep 25 = .ok (.bipush 20, 2) := by decide +kernel
theorem dX2_keep_27 : decode cX2_keep 27 = .ok (.if_icmp .ge 16, 3) := by decide +kernel
theorem dX2_keep_30 : decode cX2_keep 30 = .ok (.aload_n 0, 1) := by decide +kernel
theorem dX2_keep_31 : decode cX2_keep 31 = .ok (.dup, 1) := by decide +kernel
theorem dX2_keep_32 : decode cX2_keep 32 = .ok (.getfield 20, 3) := by decide +kernel
theorem dX2_keep_35 : decode cX2_keep 35 = .ok (.iconst 1, 1) := by decide +kernel
theorem dX2_keep_36 : decode cX2_keep 36 = .ok (.iadd, 1) := by decide +kernel
theorem dX2_keep_37 : decode cX2_keep 37 = .ok (.putfield 20, 3) := by decide +kernel
theorem dX2_keep_40 : decode cX2_keep 40 = .ok (.goto 16, 3) := by decide +kernel
theorem dX2_keep_43 : decode cX2_keep 43 = .ok (.aload_n 0, 1) := by decide +kernel
theorem dX2_keep_44 : decode cX2_keep 44 = .ok (.aload_n 0, 1) := by decide +kernel
theorem dX2_keep_45 : decode cX2_keep 45 = .ok (.getfield 16, 3) := by decide +kernel
theorem dX2_keep_48 : decode cX2_keep 48 = .ok (.iconst 1, 1) := by decide +kernel
theorem dX2_keep_49 : decode cX2_keep 49 = .ok (.iadd, 1) := by decide +kernel
theorem dX2_keep_50 : decode cX2_keep 50 = .ok (.bipush 20, 2) := by decide +kernel
theorem dX2_keep_52 : decode cX2_keep 52 = .ok (.irem, 1) := by decide +kernel
theorem dX2_keep_53 : decode cX2_keep 53 = .ok (.putfield 16, 3) := by decide +kernel
theorem dX2_keep_56 : decode cX2_keep 56 = .ok (.return_, 1) := by decide +kernel
theorem dX2_bringBack_0 : decode cX2_bringBack 0 = .ok (.aload_n 0, 1) := by decide +kernel
theorem dX2_bringBack_1 : decode cX2_bringBack 1 = .ok (.getfield 20, 3) := by decide +kernel
theorem dX2_bringBack_4 : decode cX2_bringBack 4 = .ok (.ifCond .le 34, 3) := by decide +kernel
theorem dX2_bringBack_7 : decode cX2_bringBack 7 = .ok (.aload_n 0, 1) := by decide +kernel
theorem dX2_bringBack_8 : decode cX2_bringBack 8 = .ok (.dup, 1) := by decide +kernel
theorem dX2_bringBack_9 : decode cX2_bringBack 9 = .ok (.getfield 20, 3) := by decide +kernel
theorem dX2_bringBack_12 : decode cX2_bringBack 12 = .ok (.iconst 1, 1) := by decide +kernel
theorem dX2_bringBack_13 : decode cX2_bringBack 13 = .ok (.isub, 1) := by decide +kernel
theorem dX2_bringBack_14 : decode cX2_bringBack 14 = .ok (.putfield 20, 3) := by decide +kernel
theorem dX2_bringBack_17 : decode cX2_bringBack 17 = .ok (.aload_n 1, 1) := by decide +kernel
theorem dX2_bringBack_18 : decode cX2_bringBack 18 = .ok (.aload_n 0, 1) := by decide +kernel
theorem dX2_bringBack_19 : decode cX2_bringBack 19 = .ok (.getfield 11, 3) := by decide +kernel
theorem dX2_bringBack_22 : decode cX2_bringBack 22 = .ok (.aload_n 0, 1) := by decide +kernel
theorem dX2_bringBack_23 : decode cX2_bringBack 23 = .ok (.getfield 16, 3) := by decide +kernel
theorem dX2_bringBack_26 : decode cX2_bringBack 26 = .ok (.aload_n 0, 1) := by decide +kernel
theorem dX2_bringBack_27 : decode cX2_bringBack 27 = .ok (.getfield 20, 3) := by decide +kernel
theorem dX2_bringBack_30 : decode cX2_bringBack 30 = .ok (.iadd, 1) := by decide +kernel
theorem dX2_bringBack_31 : decode cX2_bringBack 31 = .ok (.bipush 20, 2) := by decide +kernel
theorem dX2_bringBack_33 : decode cX2_bringBack 33 = .ok (.irem, 1) := by decide +kernel
theorem dX2_bringBack_34 : decode cX2_bringBack 34 = .ok (.aaload, 1) := by decide +kernel
theorem dX2_bringBack_35 : decode cX2_bringBack 35 = .ok (.invokevirtual 23, 3) := by decide +kernel
theorem dX2_bringBack_38 : decode cX2_bringBack 38 = .ok (.return_, 1) := by decide +kernel
theorem dX3_init_0 : decode cX3_init 0 = .ok (.aload_n 0, 1) := by decide +kernel
theorem dX3_init_1 : decode cX3_init 1 = .ok (.invokespecial 3, 3) := by decide +kernel
theorem dX3_init_4 : decode cX3_init 4 = .ok (.aload_n 0, 1) := by decide +kernel
theorem dX3_init_5 : decode cX3_init 5 = .ok (.aload_n 1, 1) := by decide +kernel
theorem dX3_init_6 : decode cX3_init 6 = .ok (.putfield 9, 3) := by decide +kernel
theorem dX3_init_9 : decode cX3_init 9 = .ok (.aload_n 0, 1) := by decide +kernel
theorem dX3_init_10 : decode cX3_init 10 = .ok (.aload_n 2, 1) := by decide +kernel
theorem dX3_init_11 : decode cX3_init 11 = .ok (.putfield 15, 3) := by decide +kernel
theorem dX3_init_14 : decode cX3_init 14 = .ok (.return_, 1) := by decide +kernel
theorem dX3_canBeCarried_0 : decode cX3_canBeCarried 0 = .ok (.iload_n 1, 1) := by decide +kernel
theorem dX3_canBeCarried_1 : decode cX3_canBeCarried 1 = .ok (.ifCond .lt 32, 3) := by decide +kernel
theorem dX3_canBeCarried_4 : decode cX3_canBeCarried 4 = .ok (.iload_n 1, 1) := by decide +kernel
theorem dX3_canBeCarried_5 : decode cX3_canBeCarried 5 = .ok (.aload_n 0, 1) := by decide +kernel
theorem dX3_canBeCarried_6 : decode cX3_canBeCarried 6 = .ok (.getfield 9, 3) := by decide +kernel
theorem dX3_canBeCarried_9 : decode cX3_canBeCarried 9 = .ok (.invokevirtual 19, 3) := by decide +kernel
theorem dX3_canBeCarried_12 : decode cX3_canBeCarried 12 = .ok (.if_icmp .gt 21, 3) := by decide +kernel
theorem dX3_canBeCarried_15 : decode cX3_canBeCarried 15 = .ok (.iload_n 1, 1) := by decide +kernel
theorem dX3_canBeCarried_16 : decode cX3_canBeCarried 16 = .ok (.invokestatic 25, 3) := by decide +kernel
theorem dX3_canBeCarried_19 : decode cX3_canBeCarried 19 = .ok (.aload_n 0, 1) := by decide +kernel
theorem dX3_canBeCarried_20 : decode cX3_canBeCarried 20 = .ok (.getfield 9, 3) := by decide +kernel
theorem dX3_canBeCarried_23 : decode cX3_canBeCarried 23 = .ok (.getfield 31, 3) := by decide +kernel
theorem dX3_canBeCarried_26 : decode cX3_canBeCarried 26 = .ok (.if_icmp .gt 7, 3) := by decide +kernel
theorem dX3_canBeCarried_29 : decode cX3_canBeCarried 29 = .ok (.iconst 1, 1) := by decide +kernel
theorem dX3_canBeCarried_30 : decode cX3_canBeCarried 30 = .ok (.goto 4, 3) := by decide +kernel
theorem dX3_canBeCarried_33 : decode cX3_canBeCarried 33 = .ok (.iconst 0, 1) := by decide +kernel
theorem dX3_canBeCarried_34 : decode cX3_canBeCarried 34 = .ok (.ireturn, 1) := by decide +kernel
theorem dX3_daysToTown_0 : decode cX3_daysToTown 0 = .ok (.aload_n 0, 1) := by decide +kernel
theorem dX3_daysToTown_1 : decode cX3_daysToTown 1 = .ok (.getfield 9, 3) := by decide +kernel
theorem dX3_daysToTown_4 : decode cX3_daysToTown 4 = .ok (.iload_n 1, 1) := by decide +kernel
theorem dX3_daysToTown_5 : decode cX3_daysToTown 5 = .ok (.aload_n 0, 1) := by decide +kernel
theorem dX3_daysToTown_6 : decode cX3_daysToTown 6 = .ok (.getfield 15, 3) := by decide +kernel
theorem dX3_daysToTown_9 : decode cX3_daysToTown 9 = .ok (.getfield 35, 3) := by decide +kernel
theorem dX3_daysToTown_12 : decode cX3_daysToTown 12 = .ok (.iload_n 1, 1) := by decide +kernel
theorem dX3_daysToTown_13 : decode cX3_daysToTown 13 = .ok (.iaload, 1) := by decide +kernel
theorem dX3_daysToTown_14 : decode cX3_daysToTown 14 = .ok (.aload_n 0, 1) := by decide +kernel
theorem dX3_daysToTown_15 : decode cX3_daysToTown 15 = .ok (.getfield 9, 3) := by decide +kernel
theorem dX3_daysToTown_18 : decode cX3_daysToTown 18 = .ok (.getfield 41, 3) := by decide +kernel
theorem dX3_daysToTown_21 : decode cX3_daysToTown 21 = .ok (.iload_n 2, 1) := by decide +kernel
theorem dX3_daysToTown_22 : decode cX3_daysToTown 22 = .ok (.invokevirtual 44, 3) := by decide +kernel
theorem dX3_daysToTown_25 : decode cX3_daysToTown 25 = .ok (.ireturn, 1) := by decide +kernel
theorem dX3_bestLoad_0 : decode cX3_bestLoad 0 = .ok (.aload_n 0, 1) := by decide +kernel
theorem dX3_bestLoad_1 : decode cX3_bestLoad 1 = .ok (.getfield 15, 3) := by decide +kernel
theorem dX3_bestLoad_4 : decode cX3_bestLoad 4 = .ok (.iload_n 1, 1) := by decide +kernel
theorem dX3_bestLoad_5 : decode cX3_bestLoad 5 = .ok (.invokevirtual 48, 3) := by decide +kernel
theorem dX3_bestLoad_8 : decode cX3_bestLoad 8 = .ok (.aload_n 0, 1) := by decide +kernel
theorem dX3_bestLoad_9 : decode cX3_bestLoad 9 = .ok (.getfield 15, 3) := by decide +kernel
theorem dX3_bestLoad_12 : decode cX3_bestLoad 12 = .ok (.iload_n 1, 1) := by decide +kernel
theorem dX3_bestLoad_13 : decode cX3_bestLoad 13 = .ok (.invokevirtual 51, 3) := by decide +kernel
theorem dX3_bestLoad_16 : decode cX3_bestLoad 16 = .ok (.ior, 1) := by decide +kernel
theorem dX3_bestLoad_17 : decode cX3_bestLoad 17 = .ok (.istore_n 3, 1) := by decide +kernel
theorem dX3_bestLoad_18 : decode cX3_bestLoad 18 = .ok (.iconst (-1), 1) := by decide +kernel
theorem dX3_bestLoad_19 : decode cX3_bestLoad 19 = .ok (.istore 4, 2) := by decide +kernel
theorem dX3_bestLoad_21 : decode cX3_bestLoad 21 = .ok (.iconst 0, 1) := by decide +kernel
theorem dX3_bestLoad_22 : decode cX3_bestLoad 22 = .ok (.istore 5, 2) := by decide +kernel
theorem dX3_bestLoad_24 : decode cX3_bestLoad 24 = .ok (.iconst 0, 1) := by decide +kernel
theorem dX3_bestLoad_25 : decode cX3_bestLoad 25 = .ok (.istore 6, 2) := by decide +kernel
theorem dX3_bestLoad_27 : decode cX3_bestLoad 27 = .ok (.iconst 0, 1) := by decide +kernel
theorem dX3_bestLoad_28 : decode cX3_bestLoad 28 = .ok (.istore 7, 2) := by decide +kernel
theorem dX3_bestLoad_30 : decode cX3_bestLoad 30 = .ok (.iload 7, 2) := by decide +kernel
theorem dX3_bestLoad_32 : decode cX3_bestLoad 32 = .ok (.aload_n 0, 1) := by decide +kernel
theorem dX3_bestLoad_33 : decode cX3_bestLoad 33 = .ok (.getfield 9, 3) := by decide +kernel
theorem dX3_bestLoad_36 : decode cX3_bestLoad 36 = .ok (.invokevirtual 19, 3) := by decide +kernel
theorem dX3_bestLoad_39 : decode cX3_bestLoad 39 = .ok (.if_icmp .gt 104, 3) := by decide +kernel
theorem dX3_bestLoad_42 : decode cX3_bestLoad 42 = .ok (.iload 7, 2) := by decide +kernel
theorem dX3_bestLoad_44 : decode cX3_bestLoad 44 = .ok (.iload_n 3, 1) := by decide +kernel
theorem dX3_bestLoad_45 : decode cX3_bestLoad 45 = .ok (.iconst (-1), 1) := by decide +kernel
theorem dX3_bestLoad_46 : decode cX3_bestLoad 46 = .ok (.ixor, 1) := by decide +kernel
theorem dX3_bestLoad_47 : decode cX3_bestLoad 47 = .ok (.iand, 1) := by decide +kernel
theorem dX3_bestLoad_48 : decode cX3_bestLoad 48 = .ok (.ifCond .ne 89, 3) := by decide +kernel
theorem dX3_bestLoad_51 : decode cX3_bestLoad 51 = .ok (.aload_n 0, 1) := by decide +kernel
theorem dX3_bestLoad_52 : decode cX3_bestLoad 52 = .ok (.iload 7, 2) := by decide +kernel
theorem dX3_bestLoad_54 : decode cX3_bestLoad 54 = .ok (.invokevirtual 54, 3) := by decide +kernel
theorem dX3_bestLoad_57 : decode cX3_bestLoad 57 = .ok (.ifCond .eq 80, 3) := by decide +kernel
theorem dX3_bestLoad_60 : decode cX3_bestLoad 60 = .ok (.aload_n 0, 1) := by decide +kernel
theorem dX3_bestLoad_61 : decode cX3_bestLoad 61 = .ok (.getfield 9, 3) := by decide +kernel
theorem dX3_bestLoad_64 : decode cX3_bestLoad 64 = .ok (.iload 7, 2) := by decide +kernel
theorem dX3_bestLoad_66 : decode cX3_bestLoad 66 = .ok (.invokevirtual 58, 3) := by decide +kernel
theorem dX3_bestLoad_69 : decode cX3_bestLoad 69 = .ok (.istore 8, 2) := by decide +kernel
theorem dX3_bestLoad_71 : decode cX3_bestLoad 71 = .ok (.aload_n 0, 1) := by decide +kernel
theorem dX3_bestLoad_72 : decode cX3_bestLoad 72 = .ok (.iload_n 1, 1) := by decide +kernel
theorem dX3_bestLoad_73 : decode cX3_bestLoad 73 = .ok (.iload 7, 2) := by decide +kernel
theorem dX3_bestLoad_75 : decode cX3_bestLoad 75 = .ok (.invokevirtual 61, 3) := by decide +kernel
theorem dX3_bestLoad_78 : decode cX3_bestLoad 78 = .ok (.istore 9, 2) := by decide +kernel
theorem dX3_bestLoad_80 : decode cX3_bestLoad 80 = .ok (.iload 4, 2) := by decide +kernel
theorem dX3_bestLoad_82 : decode cX3_bestLoad 82 = .ok (.iconst (-1), 1) := by decide +kernel
theorem dX3_bestLoad_83 : decode cX3_bestLoad 83 = .ok (.if_icmp .eq 24, 3) := by decide +kernel
theorem dX3_bestLoad_86 : decode cX3_bestLoad 86 = .ok (.iload 8, 2) := by decide +kernel
theorem dX3_bestLoad_88 : decode cX3_bestLoad 88 = .ok (.iload 5, 2) := by decide +kernel
theorem dX3_bestLoad_90 : decode cX3_bestLoad 90 = .ok (.if_icmp .gt 17, 3) := by decide +kernel
theorem dX3_bestLoad_93 : decode cX3_bestLoad 93 = .ok (.iload 8, 2) := by decide +kernel
theorem dX3_bestLoad_95 : decode cX3_bestLoad 95 = .ok (.iload 5, 2) := by decide +kernel
theorem dX3_bestLoad_97 : decode cX3_bestLoad 97 = .ok (.if_icmp .ne 14, 3) := by decide +kernel
theorem dX3_bestLoad_100 : decode cX3_bestLoad 100 = .ok (.iload 9, 2) := by decide +kernel
theorem dX3_bestLoad_102 : decode cX3_bestLoad 102 = .ok (.iload 6, 2) := by decide +kernel
theorem dX3_bestLoad_104 : decode cX3_bestLoad 104 = .ok (.if_icmp .ge 7, 3) := by decide +kernel
theorem dX3_bestLoad_107 : decode cX3_bestLoad 107 = .ok (.iconst 1, 1) := by decide +kernel
theorem dX3_bestLoad_108 : decode cX3_bestLoad 108 = .ok (.goto 4, 3) := by decide +kernel
theorem dX3_bestLoad_111 : decode cX3_bestLoad 111 = .ok (.iconst 0, 1) := by decide +kernel
theorem dX3_bestLoad_112 : decode cX3_bestLoad 112 = .ok (.istore 10, 2) := by decide +kernel
theorem dX3_bestLoad_114 : decode cX3_bestLoad 114 = .ok (.iload 9, 2) := by decide +kernel
theorem dX3_bestLoad_116 : decode cX3_bestLoad 116 = .ok (.iload_n 2, 1) := by decide +kernel
theorem dX3_bestLoad_117 : decode cX3_bestLoad 117 = .ok (.if_icmp .gt 20, 3) := by decide +kernel
theorem dX3_bestLoad_120 : decode cX3_bestLoad 120 = .ok (.iload 10, 2) := by decide +kernel
theorem dX3_bestLoad_122 : decode cX3_bestLoad 122 = .ok (.ifCond .eq 15, 3) := by decide +kernel
theorem dX3_bestLoad_125 : decode cX3_bestLoad 125 = .ok (.iload 7, 2) := by decide +kernel
theorem dX3_bestLoad_127 : decode cX3_bestLoad 127 = .ok (.istore 4, 2) := by decide +kernel
theorem dX3_bestLoad_129 : decode cX3_bestLoad 129 = .ok (.iload 8, 2) := by decide +kernel
theorem dX3_bestLoad_131 : decode cX3_bestLoad 131 = .ok (.istore 5, 2) := by decide +kernel
theorem dX3_bestLoad_133 : decode cX3_bestLoad 133 = .ok (.iload 9, 2) := by decide +kernel
theorem dX3_bestLoad_135 : decode cX3_bestLoad 135 = .ok (.istore 6, 2) := by decide +kernel
theorem dX3_bestLoad_137 : decode cX3_bestLoad 137 = .ok (.iinc 7 1, 3) := by decide +kernel
theorem dX3_bestLoad_140 : decode cX3_bestLoad 140 = .ok (.goto (-110), 3) := by decide +kernel
theorem dX3_bestLoad_143 : decode cX3_bestLoad 143 = .ok (.iload 4, 2) := by decide +kernel
theorem dX3_bestLoad_145 : decode cX3_bestLoad 145 = .ok (.ireturn, 1) := by decide +kernel
theorem dX3_thatTook_0 : decode cX3_thatTook 0 = .ok (.iconst 0, 1) := by decide +kernel
theorem dX3_thatTook_1 : decode cX3_thatTook 1 = .ok (.istore 6, 2) := by decide +kernel
theorem dX3_thatTook_3 : decode cX3_thatTook 3 = .ok (.bipush (-2), 2) := by decide +kernel
theorem dX3_thatTook_5 : decode cX3_thatTook 5 = .ok (.istore 7, 2) := by decide +kernel
theorem dX3_thatTook_7 : decode cX3_thatTook 7 = .ok (.aload_n 0, 1) := by decide +kernel
theorem dX3_thatTook_8 : decode cX3_thatTook 8 = .ok (.getfield 9, 3) := by decide +kernel
theorem dX3_thatTook_11 : decode cX3_thatTook 11 = .ok (.invokevirtual 19, 3) := by decide +kernel
theorem dX3_thatTook_14 : decode cX3_thatTook 14 = .ok (.istore 8, 2) := by decide +kernel
theorem dX3_thatTook_16 : decode cX3_thatTook 16 = .ok (.iconst 0, 1) := by decide +kernel
theorem dX3_thatTook_17 : decode cX3_thatTook 17 = .ok (.istore 9, 2) := by decide +kernel
theorem dX3_thatTook_19 : decode cX3_thatTook 19 = .ok (.iload 9, 2) := by decide +kernel
theorem dX3_thatTook_21 : decode cX3_thatTook 21 = .ok (.aload_n 0, 1) := by decide +kernel
theorem dX3_thatTook_22 : decode cX3_thatTook 22 = .ok (.getfield 9, 3) := by decide +kernel
theorem dX3_thatTook_25 : decode cX3_thatTook 25 = .ok (.invokevirtual 19, 3) := by decide +kernel
theorem dX3_thatTook_28 : decode cX3_thatTook 28 = .ok (.if_icmp .gt 54, 3) := by decide +kernel
theorem dX3_thatTook_31 : decode cX3_thatTook 31 = .ok (.aload_n 0, 1) := by decide +kernel
theorem dX3_thatTook_32 : decode cX3_thatTook 32 = .ok (.iload 9, 2) := by decide +kernel
theorem dX3_thatTook_34 : decode cX3_thatTook 34 = .ok (.invokevirtual 54, 3) := by decide +kernel
theorem dX3_thatTook_37 : decode cX3_thatTook 37 = .ok (.ifCond .eq 39, 3) := by decide +kernel
theorem dX3_thatTook_40 : decode cX3_thatTook 40 = .ok (.aload_n 0, 1) := by decide +kernel
theorem dX3_thatTook_41 : decode cX3_thatTook 41 = .ok (.getfield 9, 3) := by decide +kernel
theorem dX3_thatTook_44 : decode cX3_thatTook 44 = .ok (.iload_n 1, 1) := by decide +kernel
theorem dX3_thatTook_45 : decode cX3_thatTook 45 = .ok (.iload_n 2, 1) := by decide +kernel
theorem dX3_thatTook_46 : decode cX3_thatTook 46 = .ok (.iload_n 3, 1) := by decide +kernel
theorem dX3_thatTook_47 : decode cX3_thatTook 47 = .ok (.iload 9, 2) := by decide +kernel
theorem dX3_thatTook_49 : decode cX3_thatTook 49 = .ok (.invokevirtual 44, 3) := by decide +kernel
theorem dX3_thatTook_52 : decode cX3_thatTook 52 = .ok (.iload 4, 2) := by decide +kernel
theorem dX3_thatTook_54 : decode cX3_thatTook 54 = .ok (.if_icmp .ne 22, 3) := by decide +kernel
theorem dX3_thatTook_57 : decode cX3_thatTook 57 = .ok (.iload 6, 2) := by decide +kernel
theorem dX3_thatTook_59 : decode cX3_thatTook 59 = .ok (.ifCond .ne 7, 3) := by decide +kernel
theorem dX3_thatTook_62 : decode cX3_thatTook 62 = .ok (.iload 9, 2) := by decide +kernel
theorem dX3_thatTook_64 : decode cX3_thatTook 64 = .ok (.istore 7, 2) := by decide +kernel
theorem dX3_thatTook_66 : decode cX3_thatTook 66 = .ok (.iload 8, 2) := by decide +kernel
theorem dX3_thatTook_68 : decode cX3_thatTook 68 = .ok (.iload 9, 2) := by decide +kernel
theorem dX3_thatTook_70 : decode cX3_thatTook 70 = .ok (.iand, 1) := by decide +kernel
theorem dX3_thatTook_71 : decode cX3_thatTook 71 = .ok (.istore 8, 2) := by decide +kernel
theorem dX3_thatTook_73 : decode cX3_thatTook 73 = .ok (.iinc 6 1, 3) := by decide +kernel
theorem dX3_thatTook_76 : decode cX3_thatTook 76 = .ok (.iinc 9 1, 3) := by decide +kernel
theorem dX3_thatTook_79 : decode cX3_thatTook 79 = .ok (.goto (-60), 3) := by decide +kernel
theorem dX3_thatTook_82 : decode cX3_thatTook 82 = .ok (.iload 5, 2) := by decide +kernel
theorem dX3_thatTook_84 : decode cX3_thatTook 84 = .ok (.ifCond .ne 6, 3) := by decide +kernel
theorem dX3_thatTook_87 : decode cX3_thatTook 87 = .ok (.iload 6, 2) := by decide +kernel
theorem dX3_thatTook_89 : decode cX3_thatTook 89 = .ok (.ireturn, 1) := by decide +kernel
theorem dX3_thatTook_90 : decode cX3_thatTook 90 = .ok (.iload 5, 2) := by decide +kernel
theorem dX3_thatTook_92 : decode cX3_thatTook 92 = .ok (.iconst 1, 1) := by decide +kernel
theorem dX3_thatTook_93 : decode cX3_thatTook 93 = .ok (.if_icmp .ne 6, 3) := by decide +kernel
theorem dX3_thatTook_96 : decode cX3_thatTook 96 = .ok (.iload 7, 2) := by decide +kernel
theorem dX3_thatTook_98 : decode cX3_thatTook 98 = .ok (.ireturn, 1) := by decide +kernel
theorem dX3_thatTook_99 : decode cX3_thatTook 99 = .ok (.iload 6, 2) := by decide +kernel
theorem dX3_thatTook_101 : decode cX3_thatTook 101 = .ok (.ifCond .ne 7, 3) := by decide +kernel
theorem dX3_thatTook_104 : decode cX3_thatTook 104 = .ok (.iconst 0, 1) := by decide +kernel
theorem dX3_thatTook_105 : decode cX3_thatTook 105 = .ok (.goto 5, 3) := by decide +kernel
theorem dX3_thatTook_108 : decode cX3_thatTook 108 = .ok (.iload 8, 2) := by decide +kernel
theorem dX3_thatTook_110 : decode cX3_thatTook 110 = .ok (.ireturn, 1) := by decide +kernel
theorem dX3_bestExchange_0 : decode cX3_bestExchange 0 = .ok (.aload_n 0, 1) := by decide +kernel
theorem dX3_bestExchange_1 : decode cX3_bestExchange 1 = .ok (.getfield 15, 3) := by decide +kernel
theorem dX3_bestExchange_4 : decode cX3_bestExchange 4 = .ok (.iload_n 1, 1) := by decide +kernel
theorem dX3_bestExchange_5 : decode cX3_bestExchange 5 = .ok (.invokevirtual 48, 3) := by decide +kernel
theorem dX3_bestExchange_8 : decode cX3_bestExchange 8 = .ok (.istore_n 3, 1) := by decide +kernel
theorem dX3_bestExchange_9 : decode cX3_bestExchange 9 = .ok (.aload_n 0, 1) := by decide +kernel
theorem dX3_bestExchange_10 : decode cX3_bestExchange 10 = .ok (.getfield 15, 3) := by decide +kernel
theorem dX3_bestExchange_13 : decode cX3_bestExchange 13 = .ok (.iload_n 2, 1) := by decide +kernel
theorem dX3_bestExchange_14 : decode cX3_bestExchange 14 = .ok (.invokevirtual 48, 3) := by decide +kernel
theorem dX3_bestExchange_17 : decode cX3_bestExchange 17 = .ok (.istore 4, 2) := by decide +kernel
theorem dX3_bestExchange_19 : decode cX3_bestExchange 19 = .ok (.iconst (-1), 1) := by decide +kernel
theorem dX3_bestExchange_20 : decode cX3_bestExchange 20 = .ok (.istore 5, 2) := by decide +kernel
theorem dX3_bestExchange_22 : decode cX3_bestExchange 22 = .ok (.aload_n 0, 1) := by decide +kernel
theorem dX3_bestExchange_23 : decode cX3_bestExchange 23 = .ok (.iload_n 1, 1) := by decide +kernel
theorem dX3_bestExchange_24 : decode cX3_bestExchange 24 = .ok (.iload_n 2, 1) := by decide +kernel
theorem dX3_bestExchange_25 : decode cX3_bestExchange 25 = .ok (.iconst (-1), 1) := by decide +kernel
theorem dX3_bestExchange_26 : decode cX3_bestExchange 26 = .ok (.invokevirtual 65, 3) := by decide +kernel
theorem dX3_bestExchange_29 : decode cX3_bestExchange 29 = .ok (.istore 6, 2) := by decide +kernel
theorem dX3_bestExchange_31 : decode cX3_bestExchange 31 = .ok (.iconst 0, 1) := by decide +kernel
theorem dX3_bestExchange_32 : decode cX3_bestExchange 32 = .ok (.istore 7, 2) := by decide +kernel
theorem dX3_bestExchange_34 : decode cX3_bestExchange 34 = .ok (.iload 7, 2) := by decide +kernel
theorem dX3_bestExchange_36 : decode cX3_bestExchange 36 = .ok (.bipush 36, 2) := by decide +kernel
theorem dX3_bestExchange_38 : decode cX3_bestExchange 38 = .ok (.if_icmp .ge 73, 3) := by decide +kernel
theorem dX3_bestExchange_41 : decode cX3_bestExchange 41 = .ok (.iload_n 3, 1) := by decide +kernel
theorem dX3_bestExchange_42 : decode cX3_bestExchange 42 = .ok (.iload 7, 2) := by decide +kernel
theorem dX3_bestExchange_44 : decode cX3_bestExchange 44 = .ok (.bipush 6, 2) := by decide +kernel
theorem dX3_bestExchange_46 : decode cX3_bestExchange 46 = .ok (.idiv, 1) := by decide +kernel
theorem dX3_bestExchange_47 : decode cX3_bestExchange 47 = .ok (.ishr, 1) := by decide +kernel
theorem dX3_bestExchange_48 : decode cX3_bestExchange 48 = .ok (.iconst 1, 1) := by decide +kernel
theorem dX3_bestExchange_49 : decode cX3_bestExchange 49 = .ok (.iand, 1) := by decide +kernel
theorem dX3_bestExchange_50 : decode cX3_bestExchange 50 = .ok (.iconst 1, 1) := by decide +kernel
theorem dX3_bestExchange_51 : decode cX3_bestExchange 51 = .ok (.if_icmp .ne 21, 3) := by decide +kernel
theorem dX3_bestExchange_54 : decode cX3_bestExchange 54 = .ok (.iload 4, 2) := by decide +kernel
theorem dX3_bestExchange_56 : decode cX3_bestExchange 56 = .ok (.iload 7, 2) := by decide +kernel
theorem dX3_bestExchange_58 : decode cX3_bestExchange 58 = .ok (.bipush 6, 2) := by decide +kernel
theorem dX3_bestExchange_60 : decode cX3_bestExchange 60 = .ok (.irem, 1) := by decide +kernel
theorem dX3_bestExchange_61 : decode cX3_bestExchange 61 = .ok (.ishr, 1) := by decide +kernel
theorem dX3_bestExchange_62 : decode cX3_bestExchange 62 = .ok (.iconst 1, 1) := by decide +kernel
theorem dX3_bestExchange_63 : decode cX3_bestExchange 63 = .ok (.iand, 1) := by decide +kernel
theorem dX3_bestExchange_64 : decode cX3_bestExchange 64 = .ok (.iconst 1, 1) := by decide +kernel
theorem dX3_bestExchange_65 : decode cX3_bestExchange 65 = .ok (.if_icmp .ne 7, 3) := by decide +kernel
theorem dX3_bestExchange_68 : decode cX3_bestExchange 68 = .ok (.iconst 1, 1) := by decide +kernel
theorem dX3_bestExchange_69 : decode cX3_bestExchange 69 = .ok (.goto 4, 3) := by decide +kernel
theorem dX3_bestExchange_72 : decode cX3_bestExchange 72 = .ok (.iconst 0, 1) := by decide +kernel
theorem dX3_bestExchange_73 : decode cX3_bestExchange 73 = .ok (.istore 8, 2) := by decide +kernel
theorem dX3_bestExchange_75 : decode cX3_bestExchange 75 = .ok (.iload 8, 2) := by decide +kernel
theorem dX3_bestExchange_77 : decode cX3_bestExchange 77 = .ok (.ifCond .eq 28, 3) := by decide +kernel
theorem dX3_bestExchange_80 : decode cX3_bestExchange 80 = .ok (.aload_n 0, 1) := by decide +kernel
theorem dX3_bestExchange_81 : decode cX3_bestExchange 81 = .ok (.iload_n 1, 1) := by decide +kernel
theorem dX3_bestExchange_82 : decode cX3_bestExchange 82 = .ok (.iload_n 2, 1) := by decide +kernel
theorem dX3_bestExchange_83 : decode cX3_bestExchange 83 = .ok (.iload 7, 2) := by decide +kernel
theorem dX3_bestExchange_85 : decode cX3_bestExchange 85 = .ok (.invokevirtual 65, 3) := by decide +kernel
theorem dX3_bestExchange_88 : decode cX3_bestExchange 88 = .ok (.istore 9, 2) := by decide +kernel
theorem dX3_bestExchange_90 : decode cX3_bestExchange 90 = .ok (.iload 9, 2) := by decide +kernel
theorem dX3_bestExchange_92 : decode cX3_bestExchange 92 = .ok (.iload 6, 2) := by decide +kernel
theorem dX3_bestExchange_94 : decode cX3_bestExchange 94 = .ok (.if_icmp .ge 11, 3) := by decide +kernel
theorem dX3_bestExchange_97 : decode cX3_bestExchange 97 = .ok (.iload 7, 2) := by decide +kernel
theorem dX3_bestExchange_99 : decode cX3_bestExchange 99 = .ok (.istore 5, 2) := by decide +kernel
theorem dX3_bestExchange_101 : decode cX3_bestExchange 101 = .ok (.iload 9, 2) := by decide +kernel
theorem dX3_bestExchange_103 : decode cX3_bestExchange 103 = .ok (.istore 6, 2) := by decide +kernel
theorem dX3_bestExchange_105 : decode cX3_bestExchange 105 = .ok (.iinc 7 1, 3) := by decide +kernel
theorem dX3_bestExchange_108 : decode cX3_bestExchange 108 = .ok (.goto (-74), 3) := by decide +kernel
theorem dX3_bestExchange_111 : decode cX3_bestExchange 111 = .ok (.iload 5, 2) := by decide +kernel
theorem dX3_bestExchange_113 : decode cX3_bestExchange 113 = .ok (.ireturn, 1) := by decide +kernel
theorem dX3_daysOfBoth_0 : decode cX3_daysOfBoth 0 = .ok (.iload_n 3, 1) := by decide +kernel
theorem dX3_daysOfBoth_1 : decode cX3_daysOfBoth 1 = .ok (.iconst (-1), 1) := by decide +kernel
theorem dX3_daysOfBoth_2 : decode cX3_daysOfBoth 2 = .ok (.if_icmp .ne 7, 3) := by decide +kernel
theorem dX3_daysOfBoth_5 : decode cX3_daysOfBoth 5 = .ok (.iconst 0, 1) := by decide +kernel
theorem dX3_daysOfBoth_6 : decode cX3_daysOfBoth 6 = .ok (.goto 16, 3) := by decide +kernel
theorem dX3_daysOfBoth_9 : decode cX3_daysOfBoth 9 = .ok (.iconst 1, 1) := by decide +kernel
theorem dX3_daysOfBoth_10 : decode cX3_daysOfBoth 10 = .ok (.iload_n 3, 1) := by decide +kernel
theorem dX3_daysOfBoth_11 : decode cX3_daysOfBoth 11 = .ok (.bipush 6, 2) := by decide +kernel
theorem dX3_daysOfBoth_13 : decode cX3_daysOfBoth 13 = .ok (.idiv, 1) := by decide +kernel
theorem dX3_daysOfBoth_14 : decode cX3_daysOfBoth 14 = .ok (.ishl, 1) := by decide +kernel
theorem dX3_daysOfBoth_15 : decode cX3_daysOfBoth 15 = .ok (.iconst 1, 1) := by decide +kernel
theorem dX3_daysOfBoth_16 : decode cX3_daysOfBoth 16 = .ok (.iload_n 3, 1) := by decide +kernel
theorem dX3_daysOfBoth_17 : decode cX3_daysOfBoth 17 = .ok (.bipush 6, 2) := by decide +kernel
theorem dX3_daysOfBoth_19 : decode cX3_daysOfBoth 19 = .ok (.irem, 1) := by decide +kernel
theorem dX3_daysOfBoth_20 : decode cX3_daysOfBoth 20 = .ok (.ishl, 1) := by decide +kernel
theorem dX3_daysOfBoth_21 : decode cX3_daysOfBoth 21 = .ok (.ior, 1) := by decide +kernel
theorem dX3_daysOfBoth_22 : decode cX3_daysOfBoth 22 = .ok (.istore 4, 2) := by decide +kernel
theorem dX3_daysOfBoth_24 : decode cX3_daysOfBoth 24 = .ok (.aload_n 0, 1) := by decide +kernel
theorem dX3_daysOfBoth_25 : decode cX3_daysOfBoth 25 = .ok (.iload_n 1, 1) := by decide +kernel
theorem dX3_daysOfBoth_26 : decode cX3_daysOfBoth 26 = .ok (.aload_n 0, 1) := by decide +kernel
theorem dX3_daysOfBoth_27 : decode cX3_daysOfBoth 27 = .ok (.getfield 15, 3) := by decide +kernel
theorem dX3_daysOfBoth_30 : decode cX3_daysOfBoth 30 = .ok (.iload_n 1, 1) := by decide +kernel
theorem dX3_daysOfBoth_31 : decode cX3_daysOfBoth 31 = .ok (.invokevirtual 48, 3) := by decide +kernel
theorem dX3_daysOfBoth_34 : decode cX3_daysOfBoth 34 = .ok (.iload 4, 2) := by decide +kernel
theorem dX3_daysOfBoth_36 : decode cX3_daysOfBoth 36 = .ok (.ixor, 1) := by decide +kernel
theorem dX3_daysOfBoth_37 : decode cX3_daysOfBoth 37 = .ok (.invokevirtual 61, 3) := by decide +kernel
theorem dX3_daysOfBoth_40 : decode cX3_daysOfBoth 40 = .ok (.aload_n 0, 1) := by decide +kernel
theorem dX3_daysOfBoth_41 : decode cX3_daysOfBoth 41 = .ok (.iload_n 2, 1) := by decide +kernel
theorem dX3_daysOfBoth_42 : decode cX3_daysOfBoth 42 = .ok (.aload_n 0, 1) := by decide +kernel
theorem dX3_daysOfBoth_43 : decode cX3_daysOfBoth 43 = .ok (.getfield 15, 3) := by decide +kernel
theorem dX3_daysOfBoth_46 : decode cX3_daysOfBoth 46 = .ok (.iload_n 2, 1) := by decide +kernel
theorem dX3_daysOfBoth_47 : decode cX3_daysOfBoth 47 = .ok (.invokevirtual 48, 3) := by decide +kernel
theorem dX3_daysOfBoth_50 : decode cX3_daysOfBoth 50 = .ok (.iload 4, 2) := by decide +kernel
theorem dX3_daysOfBoth_52 : decode cX3_daysOfBoth 52 = .ok (.ixor, 1) := by decide +kernel
theorem dX3_daysOfBoth_53 : decode cX3_daysOfBoth 53 = .ok (.invokevirtual 61, 3) := by decide +kernel
theorem dX3_daysOfBoth_56 : decode cX3_daysOfBoth 56 = .ok (.iadd, 1) := by decide +kernel
theorem dX3_daysOfBoth_57 : decode cX3_daysOfBoth 57 = .ok (.ireturn, 1) := by decide +kernel
theorem dX3_penceOf_0 : decode cX3_penceOf 0 = .ok (.iconst 0, 1) := by decide +kernel
theorem dX3_penceOf_1 : decode cX3_penceOf 1 = .ok (.istore_n 3, 1) := by decide +kernel
theorem dX3_penceOf_2 : decode cX3_penceOf 2 = .ok (.iconst 0, 1) := by decide +kernel
theorem dX3_penceOf_3 : decode cX3_penceOf 3 = .ok (.istore 4, 2) := by decide +kernel
theorem dX3_penceOf_5 : decode cX3_penceOf 5 = .ok (.iload 4, 2) := by decide +kernel
theorem dX3_penceOf_7 : decode cX3_penceOf 7 = .ok (.aload_n 0, 1) := by decide +kernel
theorem dX3_penceOf_8 : decode cX3_penceOf 8 = .ok (.getfield 9, 3) := by decide +kernel
theorem dX3_penceOf_11 : decode cX3_penceOf 11 = .ok (.getfield 69, 3) := by decide +kernel
theorem dX3_penceOf_14 : decode cX3_penceOf 14 = .ok (.if_icmp .ge 18, 3) := by decide +kernel
theorem dX3_penceOf_17 : decode cX3_penceOf 17 = .ok (.iload_n 3, 1) := by decide +kernel
theorem dX3_penceOf_18 : decode cX3_penceOf 18 = .ok (.aload_n 0, 1) := by decide +kernel
theorem dX3_penceOf_19 : decode cX3_penceOf 19 = .ok (.iload 4, 2) := by decide +kernel
theorem dX3_penceOf_21 : decode cX3_penceOf 21 = .ok (.invokevirtual 72, 3) := by decide +kernel
theorem dX3_penceOf_24 : decode cX3_penceOf 24 = .ok (.iadd, 1) := by decide +kernel
theorem dX3_penceOf_25 : decode cX3_penceOf 25 = .ok (.istore_n 3, 1) := by decide +kernel
theorem dX3_penceOf_26 : decode cX3_penceOf 26 = .ok (.iinc 4 1, 3) := by decide +kernel
theorem dX3_penceOf_29 : decode cX3_penceOf 29 = .ok (.goto (-24), 3) := by decide +kernel
theorem dX3_penceOf_32 : decode cX3_penceOf 32 = .ok (.iload_n 3, 1) := by decide +kernel
theorem dX3_penceOf_33 : decode cX3_penceOf 33 = .ok (.ifCond .ne 5, 3) := by decide +kernel
theorem dX3_penceOf_36 : decode cX3_penceOf 36 = .ok (.iconst 0, 1) := by decide +kernel
theorem dX3_penceOf_37 : decode cX3_penceOf 37 = .ok (.ireturn, 1) := by decide +kernel
theorem dX3_penceOf_38 : decode cX3_penceOf 38 = .ok (.iload_n 1, 1) := by decide +kernel
theorem dX3_penceOf_39 : decode cX3_penceOf 39 = .ok (.istore 4, 2) := by decide +kernel
theorem dX3_penceOf_41 : decode cX3_penceOf 41 = .ok (.iconst 0, 1) := by decide +kernel
theorem dX3_penceOf_42 : decode cX3_penceOf 42 = .ok (.istore 5, 2) := by decide +kernel
theorem dX3_penceOf_44 : decode cX3_penceOf 44 = .ok (.iload_n 1, 1) := by decide +kernel
theorem dX3_penceOf_45 : decode cX3_penceOf 45 = .ok (.aload_n 0, 1) := by decide +kernel
theorem dX3_penceOf_46 : decode cX3_penceOf 46 = .ok (.iload_n 2, 1) := by decide +kernel
theorem dX3_penceOf_47 : decode cX3_penceOf 47 = .ok (.invokevirtual 72, 3) := by decide +kernel
theorem dX3_penceOf_50 : decode cX3_penceOf 50 = .ok (.imul, 1) := by decide +kernel
theorem dX3_penceOf_51 : decode cX3_penceOf 51 = .ok (.iload_n 3, 1) := by decide +kernel
theorem dX3_penceOf_52 : decode cX3_penceOf 52 = .ok (.irem, 1) := by decide +kernel
theorem dX3_penceOf_53 : decode cX3_penceOf 53 = .ok (.istore 6, 2) := by decide +kernel
theorem dX3_penceOf_55 : decode cX3_penceOf 55 = .ok (.iconst 0, 1) := by decide +kernel
theorem dX3_penceOf_56 : decode cX3_penceOf 56 = .ok (.istore 7, 2) := by decide +kernel
theorem dX3_penceOf_58 : decode cX3_penceOf 58 = .ok (.iload 7, 2) := by decide +kernel
theorem dX3_penceOf_60 : decode cX3_penceOf 60 = .ok (.aload_n 0, 1) := by decide +kernel
theorem dX3_penceOf_61 : decode cX3_penceOf 61 = .ok (.getfield 9, 3) := by decide +kernel
theorem dX3_penceOf_64 : decode cX3_penceOf 64 = .ok (.getfield 69, 3) := by decide +kernel
theorem dX3_penceOf_67 : decode cX3_penceOf 67 = .ok (.if_icmp .ge 57, 3) := by decide +kernel
theorem dX3_penceOf_70 : decode cX3_penceOf 70 = .ok (.iload_n 1, 1) := by decide +kernel
theorem dX3_penceOf_71 : decode cX3_penceOf 71 = .ok (.aload_n 0, 1) := by decide +kernel
theorem dX3_penceOf_72 : decode cX3_penceOf 72 = .ok (.iload 7, 2) := by decide +kernel
theorem dX3_penceOf_74 : decode cX3_penceOf 74 = .ok (.invokevirtual 72, 3) := by decide +kernel
theorem dX3_penceOf_77 : decode cX3_penceOf 77 = .ok (.imul, 1) := by decide +kernel
theorem dX3_penceOf_78 : decode cX3_penceOf 78 = .ok (.istore 8, 2) := by decide +kernel
theorem dX3_penceOf_80 : decode cX3_penceOf 80 = .ok (.iload 4, 2) := by decide +kernel
theorem dX3_penceOf_82 : decode cX3_penceOf 82 = .ok (.iload 8, 2) := by decide +kernel
theorem dX3_penceOf_84 : decode cX3_penceOf 84 = .ok (.iload_n 3, 1) := by decide +kernel
theorem dX3_penceOf_85 : decode cX3_penceOf 85 = .ok (.idiv, 1) := by decide +kernel
theorem dX3_penceOf_86 : decode cX3_penceOf 86 = .ok (.isub, 1) := by decide +kernel
theorem dX3_penceOf_87 : decode cX3_penceOf 87 = .ok (.istore 4, 2) := by decide +kernel
theorem dX3_penceOf_89 : decode cX3_penceOf 89 = .ok (.iload 8, 2) := by decide +kernel
theorem dX3_penceOf_91 : decode cX3_penceOf 91 = .ok (.iload_n 3, 1) := by decide +kernel
theorem dX3_penceOf_92 : decode cX3_penceOf 92 = .ok (.irem, 1) := by decide +kernel
theorem dX3_penceOf_93 : decode cX3_penceOf 93 = .ok (.istore 9, 2) := by decide +kernel
theorem dX3_penceOf_95 : decode cX3_penceOf 95 = .ok (.iload 9, 2) := by decide +kernel
theorem dX3_penceOf_97 : decode cX3_penceOf 97 = .ok (.iload 6, 2) := by decide +kernel
theorem dX3_penceOf_99 : decode cX3_penceOf 99 = .ok (.if_icmp .gt 16, 3) := by decide +kernel
theorem dX3_penceOf_102 : decode cX3_penceOf 102 = .ok (.iload 9, 2) := by decide +kernel
theorem dX3_penceOf_104 : decode cX3_penceOf 104 = .ok (.iload 6, 2) := by decide +kernel
theorem dX3_penceOf_106 : decode cX3_penceOf 106 = .ok (.if_icmp .ne 12, 3) := by decide +kernel
theorem dX3_penceOf_109 : decode cX3_penceOf 109 = .ok (.iload 7, 2) := by decide +kernel
theorem dX3_penceOf_111 : decode cX3_penceOf 111 = .ok (.iload_n 2, 1) := by decide +kernel
theorem dX3_penceOf_112 : decode cX3_penceOf 112 = .ok (.if_icmp .ge 6, 3) := by decide +kernel
theorem dX3_penceOf_115 : decode cX3_penceOf 115 = .ok (.iinc 5 1, 3) := by decide +kernel
theorem dX3_penceOf_118 : decode cX3_penceOf 118 = .ok (.iinc 7 1, 3) := by decide +kernel
theorem dX3_penceOf_121 : decode cX3_penceOf 121 = .ok (.goto (-63), 3) := by decide +kernel
theorem dX3_penceOf_124 : decode cX3_penceOf 124 = .ok (.iload_n 1, 1) := by decide +kernel
theorem dX3_penceOf_125 : decode cX3_penceOf 125 = .ok (.aload_n 0, 1) := by decide +kernel
theorem dX3_penceOf_126 : decode cX3_penceOf 126 = .ok (.iload_n 2, 1) := by decide +kernel
theorem dX3_penceOf_127 : decode cX3_penceOf 127 = .ok (.invokevirtual 72, 3) := by decide +kernel
theorem dX3_penceOf_130 : decode cX3_penceOf 130 = .ok (.imul, 1) := by decide +kernel
theorem dX3_penceOf_131 : decode cX3_penceOf 131 = .ok (.iload_n 3, 1) := by decide +kernel
theorem dX3_penceOf_132 : decode cX3_penceOf 132 = .ok (.idiv, 1) := by decide +kernel
theorem dX3_penceOf_133 : decode cX3_penceOf 133 = .ok (.iload 5, 2) := by decide +kernel
theorem dX3_penceOf_135 : decode cX3_penceOf 135 = .ok (.iload 4, 2) := by decide +kernel
theorem dX3_penceOf_137 : decode cX3_penceOf 137 = .ok (.if_icmp .ge 7, 3) := by decide +kernel
theorem dX3_penceOf_140 : decode cX3_penceOf 140 = .ok (.iconst 1, 1) := by decide +kernel
theorem dX3_penceOf_141 : decode cX3_penceOf 141 = .ok (.goto 4, 3) := by decide +kernel
theorem dX3_penceOf_144 : decode cX3_penceOf 144 = .ok (.iconst 0, 1) := by decide +kernel
theorem dX3_penceOf_145 : decode cX3_penceOf 145 = .ok (.iadd, 1) := by decide +kernel
theorem dX3_penceOf_146 : decode cX3_penceOf 146 = .ok (.ireturn, 1) := by decide +kernel
theorem dX3_worthBy_0 : decode cX3_worthBy 0 = .ok (.aload_n 0, 1) := by decide +kernel
theorem dX3_worthBy_1 : decode cX3_worthBy 1 = .ok (.getfield 9, 3) := by decide +kernel
theorem dX3_worthBy_4 : decode cX3_worthBy 4 = .ok (.aload_n 0, 1) := by decide +kernel
theorem dX3_worthBy_5 : decode cX3_worthBy 5 = .ok (.getfield 15, 3) := by decide +kernel
theorem dX3_worthBy_8 : decode cX3_worthBy 8 = .ok (.iload_n 1, 1) := by decide +kernel
theorem dX3_worthBy_9 : decode cX3_worthBy 9 = .ok (.invokevirtual 48, 3) := by decide +kernel
theorem dX3_worthBy_12 : decode cX3_worthBy 12 = .ok (.invokevirtual 58, 3) := by decide +kernel
theorem dX3_worthBy_15 : decode cX3_worthBy 15 = .ok (.ireturn, 1) := by decide +kernel
theorem dX4_init_0 : decode cX4_init 0 = .ok (.aload_n 0, 1) := by decide +kernel
theorem dX4_init_1 : decode cX4_init 1 = .ok (.invokespecial 3, 3) := by decide +kernel
theorem dX4_init_4 : decode cX4_init 4 = .ok (.aload_n 0, 1) := by decide +kernel
theorem dX4_init_5 : decode cX4_init 5 = .ok (.bipush 8, 2) := by decide +kernel
theorem dX4_init_7 : decode cX4_init 7 = .ok (.newarray .int, 2) := by decide +kernel
theorem dX4_init_9 : decode cX4_init 9 = .ok (.putfield 9, 3) := by decide +kernel
theorem dX4_init_12 : decode cX4_init 12 = .ok (.aload_n 0, 1) := by decide +kernel
theorem dX4_init_13 : decode cX4_init 13 = .ok (.iconst 4, 1) := by decide +kernel
theorem dX4_init_14 : decode cX4_init 14 = .ok (.newarray .int, 2) := by decide +kernel
theorem dX4_init_16 : decode cX4_init 16 = .ok (.putfield 15, 3) := by decide +kernel
theorem dX4_init_19 : decode cX4_init 19 = .ok (.aload_n 0, 1) := by decide +kernel
theorem dX4_init_20 : decode cX4_init 20 = .ok (.bipush 6, 2) := by decide +kernel
theorem dX4_init_22 : decode cX4_init 22 = .ok (.newarray .int, 2) := by decide +kernel
theorem dX4_init_24 : decode cX4_init 24 = .ok (.putfield 18, 3) := by decide +kernel
theorem dX4_init_27 : decode cX4_init 27 = .ok (.aload_n 0, 1) := by decide +kernel
theorem dX4_init_28 : decode cX4_init 28 = .ok (.bipush 6, 2) := by decide +kernel
theorem dX4_init_30 : decode cX4_init 30 = .ok (.newarray .int, 2) := by decide +kernel
theorem dX4_init_32 : decode cX4_init 32 = .ok (.putfield 21, 3) := by decide +kernel
theorem dX4_init_35 : decode cX4_init 35 = .ok (.aload_n 0, 1) := by decide +kernel
theorem dX4_init_36 : decode cX4_init 36 = .ok (.bipush 6, 2) := by decide +kernel
theorem dX4_init_38 : decode cX4_init 38 = .ok (.newarray .int, 2) := by decide +kernel
theorem dX4_init_40 : decode cX4_init 40 = .ok (.putfield 24, 3) := by decide +kernel
theorem dX4_init_43 : decode cX4_init 43 = .ok (.return_, 1) := by decide +kernel
theorem dX4_clear_0 : decode cX4_clear 0 = .ok (.aload_n 0, 1) := by decide +kernel
theorem dX4_clear_1 : decode cX4_clear 1 = .ok (.iconst 0, 1) := by decide +kernel
theorem dX4_clear_2 : decode cX4_clear 2 = .ok (.putfield 27, 3) := by decide +kernel
theorem dX4_clear_5 : decode cX4_clear 5 = .ok (.aload_n 0, 1) := by decide +kernel
theorem dX4_clear_6 : decode cX4_clear 6 = .ok (.iconst 0, 1) := by decide +kernel
theorem dX4_clear_7 : decode cX4_clear 7 = .ok (.putfield 31, 3) := by decide +kernel
theorem dX4_clear_10 : decode cX4_clear 10 = .ok (.aload_n 0, 1) := by decide +kernel
theorem dX4_clear_11 : decode cX4_clear 11 = .ok (.iconst 0, 1) := by decide +kernel
theorem dX4_clear_12 : decode cX4_clear 12 = .ok (.putfield 35, 3) := by decide +kernel
theorem dX4_clear_15 : decode cX4_clear 15 = .ok (.aload_n 0, 1) := by decide +kernel
theorem dX4_clear_16 : decode cX4_clear 16 = .ok (.iconst 0, 1) := by decide +kernel
theorem dX4_clear_17 : decode cX4_clear 17 = .ok (.putfield 38, 3) := by decide +kernel
theorem dX4_clear_20 : decode cX4_clear 20 = .ok (.aload_n 0, 1) := by decide +kernel
theorem dX4_clear_21 : decode cX4_clear 21 = .ok (.iconst 0, 1) := by decide +kernel
theorem dX4_clear_22 : decode cX4_clear 22 = .ok (.putfield 41, 3) := by decide +kernel
theorem dX4_clear_25 : decode cX4_clear 25 = .ok (.aload_n 0, 1) := by decide +kernel
theorem dX4_clear_26 : decode cX4_clear 26 = .ok (.getfield 24, 3) := by decide +kernel
theorem dX4_clear_29 : decode cX4_clear 29 = .ok (.iconst (-1), 1) := by decide +kernel
theorem dX4_clear_30 : decode cX4_clear 30 = .ok (.invokestatic 44, 3) := by decide +kernel
theorem dX4_clear_33 : decode cX4_clear 33 = .ok (.return_, 1) := by decide +kernel
theorem dX4_copy_0 : decode cX4_copy 0 = .ok (.aload_n 0, 1) := by decide +kernel
theorem dX4_copy_1 : decode cX4_copy 1 = .ok (.aload_n 1, 1) := by decide +kernel
theorem dX4_copy_2 : decode cX4_copy 2 = .ok (.getfield 27, 3) := by decide +kernel
theorem dX4_copy_5 : decode cX4_copy 5 = .ok (.putfield 27, 3) := by decide +kernel
theorem dX4_copy_8 : decode cX4_copy 8 = .ok (.aload_n 0, 1) := by decide +kernel
theorem dX4_copy_9 : decode cX4_copy 9 = .ok (.aload_n 1, 1) := by decide +kernel
theorem dX4_copy_10 : decode cX4_copy 10 = .ok (.getfield 31, 3) := by decide +kernel
theorem dX4_copy_13 : decode cX4_copy 13 = .ok (.putfield 31, 3) := by decide +kernel
theorem dX4_copy_16 : decode cX4_copy 16 = .ok (.aload_n 0, 1) := by decide +kernel
theorem dX4_copy_17 : decode cX4_copy 17 = .ok (.aload_n 1, 1) := by decide +kernel
theorem dX4_copy_18 : decode cX4_copy 18 = .ok (.getfield 35, 3) := by decide +kernel
theorem dX4_copy_21 : decode cX4_copy 21 = .ok (.putfield 35, 3) := by decide +kernel
theorem dX4_copy_24 : decode cX4_copy 24 = .ok (.aload_n 0, 1) := by decide +kernel
theorem dX4_copy_25 : decode cX4_copy 25 = .ok (.aload_n 1, 1) := by decide +kernel
theorem dX4_copy_26 : decode cX4_copy 26 = .ok (.getfield 38, 3) := by decide +kernel
theorem dX4_copy_29 : decode cX4_copy 29 = .ok (.putfield 38, 3) := by decide +kernel
theorem dX4_copy_32 : decode cX4_copy 32 = .ok (.aload_n 0, 1) := by decide +kernel
theorem dX4_copy_33 : decode cX4_copy 33 = .ok (.aload_n 1, 1) := by decide +kernel
theorem dX4_copy_34 : decode cX4_copy 34 = .ok (.getfield 41, 3) := by decide +kernel
theorem dX4_copy_37 : decode cX4_copy 37 = .ok (.putfield 41, 3) := by decide +kernel
theorem dX4_copy_40 : decode cX4_copy 40 = .ok (.aload_n 1, 1) := by decide +kernel
theorem dX4_copy_41 : decode cX4_copy 41 = .ok (.getfield 9, 3) := by decide +kernel
theorem dX4_copy_44 : decode cX4_copy 44 = .ok (.iconst 0, 1) := by decide +kernel
theorem dX4_copy_45 : decode cX4_copy 45 = .ok (.aload_n 0, 1) := by decide +kernel
theorem dX4_copy_46 : decode cX4_copy 46 = .ok (.getfield 9, 3) := by decide +kernel
theorem dX4_copy_49 : decode cX4_copy 49 = .ok (.iconst 0, 1) := by decide +kernel
theorem dX4_copy_50 : decode cX4_copy 50 = .ok (.bipush 8, 2) := by decide +kernel
theorem dX4_copy_52 : decode cX4_copy 52 = .ok (.invokestatic 50, 3) := by decide +kernel
theorem dX4_copy_55 : decode cX4_copy 55 = .ok (.aload_n 1, 1) := by decide +kernel
theorem dX4_copy_56 : decode cX4_copy 56 = .ok (.getfield 15, 3) := by decide +kernel
theorem dX4_copy_59 : decode cX4_copy 59 = .ok (.iconst 0, 1) := by decide +kernel
theorem dX4_copy_60 : decode cX4_copy 60 = .ok (.aload_n 0, 1) := by decide +kernel
theorem dX4_copy_61 : decode cX4_copy 61 = .ok (.getfield 15, 3) := by decide +kernel
theorem dX4_copy_64 : decode cX4_copy 64 = .ok (.iconst 0, 1) := by decide +kernel
theorem dX4_copy_65 : decode cX4_copy 65 = .ok (.iconst 4, 1) := by decide +kernel
theorem dX4_copy_66 : decode cX4_copy 66 = .ok (.invokestatic 50, 3) := by decide +kernel
theorem dX4_copy_69 : decode cX4_copy 69 = .ok (.aload_n 1, 1) := by decide +kernel
theorem dX4_copy_70 : decode cX4_copy 70 = .ok (.getfield 18, 3) := by decide +kernel
theorem dX4_copy_73 : decode cX4_copy 73 = .ok (.iconst 0, 1) := by decide +kernel
theorem dX4_copy_74 : decode cX4_copy 74 = .ok (.aload_n 0, 1) := by decide +kernel
theorem dX4_copy_75 : decode cX4_copy 75 = .ok (.getfield 18, 3) := by decide +kernel
theorem dX4_copy_78 : decode cX4_copy 78 = .ok (.iconst 0, 1) := by decide +kernel
theorem dX4_copy_79 : decode cX4_copy 79 = .ok (.bipush 6, 2) := by decide +kernel
theorem dX4_copy_81 : decode cX4_copy 81 = .ok (.invokestatic 50, 3) := by decide +kernel
theorem dX4_copy_84 : decode cX4_copy 84 = .ok (.aload_n 1, 1) := by decide +kernel
theorem dX4_copy_85 : decode cX4_copy 85 = .ok (.getfield 21, 3) := by decide +kernel
theorem dX4_copy_88 : decode cX4_copy 88 = .ok (.iconst 0, 1) := by decide +kernel
theorem dX4_copy_89 : decode cX4_copy 89 = .ok (.aload_n 0, 1) := by decide +kernel
theorem dX4_copy_90 : decode cX4_copy 90 = .ok (.getfield 21, 3) := by decide +kernel
theorem dX4_copy_93 : decode cX4_copy 93 = .ok (.iconst 0, 1) := by decide +kernel
theorem dX4_copy_94 : decode cX4_copy 94 = .ok (.bipush 6, 2) := by decide +kernel
theorem dX4_copy_96 : decode cX4_copy 96 = .ok (.invokestatic 50, 3) := by decide +kernel
theorem dX4_copy_99 : decode cX4_copy 99 = .ok (.aload_n 1, 1) := by decide +kernel
theorem dX4_copy_100 : decode cX4_copy 100 = .ok (.getfield 24, 3) := by decide +kernel
theorem dX4_copy_103 : decode cX4_copy 103 = .ok (.iconst 0, 1) := by decide +kernel
theorem dX4_copy_104 : decode cX4_copy 104 = .ok (.aload_n 0, 1) := by decide +kernel
theorem dX4_copy_105 : decode cX4_copy 105 = .ok (.getfield 24, 3) := by decide +kernel
theorem dX4_copy_108 : decode cX4_copy 108 = .ok (.iconst 0, 1) := by decide +kernel
theorem dX4_copy_109 : decode cX4_copy 109 = .ok (.bipush 6, 2) := by decide +kernel
theorem dX4_copy_111 : decode cX4_copy 111 = .ok (.invokestatic 50, 3) := by decide +kernel
theorem dX4_copy_114 : decode cX4_copy 114 = .ok (.return_, 1) := by decide +kernel
theorem dX4_begin_0 : decode cX4_begin 0 = .ok (.aload_n 1, 1) := by decide +kernel
theorem dX4_begin_1 : decode cX4_begin 1 = .ok (.iconst 0, 1) := by decide +kernel
theorem dX4_begin_2 : decode cX4_begin 2 = .ok (.putfield 56, 3) := by decide +kernel
theorem dX4_begin_5 : decode cX4_begin 5 = .ok (.aload_n 1, 1) := by decide +kernel
theorem dX4_begin_6 : decode cX4_begin 6 = .ok (.getfield 61, 3) := by decide +kernel
theorem dX4_begin_9 : decode cX4_begin 9 = .ok (.iconst 0, 1) := by decide +kernel
theorem dX4_begin_10 : decode cX4_begin 10 = .ok (.invokestatic 44, 3) := by decide +kernel
theorem dX4_begin_13 : decode cX4_begin 13 = .ok (.aload_n 1, 1) := by decide +kernel
theorem dX4_begin_14 : decode cX4_begin 14 = .ok (.getfield 64, 3) := by decide +kernel
theorem dX4_begin_17 : decode cX4_begin 17 = .ok (.iconst 0, 1) := by decide +kernel
theorem dX4_begin_18 : decode cX4_begin 18 = .ok (.invokestatic 44, 3) := by decide +kernel
theorem dX4_begin_21 : decode cX4_begin 21 = .ok (.aload_n 0, 1) := by decide +kernel
theorem dX4_begin_22 : decode cX4_begin 22 = .ok (.getfield 24, 3) := by decide +kernel
theorem dX4_begin_25 : decode cX4_begin 25 = .ok (.iconst 0, 1) := by decide +kernel
theorem dX4_begin_26 : decode cX4_begin 26 = .ok (.aload_n 1, 1) := by decide +kernel
theorem dX4_begin_27 : decode cX4_begin 27 = .ok (.getfield 67, 3) := by decide +kernel
theorem dX4_begin_30 : decode cX4_begin 30 = .ok (.iconst 0, 1) := by decide +kernel
theorem dX4_begin_31 : decode cX4_begin 31 = .ok (.bipush 6, 2) := by decide +kernel
theorem dX4_begin_33 : decode cX4_begin 33 = .ok (.invokestatic 50, 3) := by decide +kernel
theorem dX4_begin_36 : decode cX4_begin 36 = .ok (.return_, 1) := by decide +kernel
theorem dX4_isStage_0 : decode cX4_isStage 0 = .ok (.iload_n 1, 1) := by decide +kernel
theorem dX4_isStage_1 : decode cX4_isStage 1 = .ok (.ifCond .lt 21, 3) := by decide +kernel
theorem dX4_isStage_4 : decode cX4_isStage 4 = .ok (.iload_n 1, 1) := by decide +kernel
theorem dX4_isStage_5 : decode cX4_isStage 5 = .ok (.aload_n 0, 1) := by decide +kernel
theorem dX4_isStage_6 : decode cX4_isStage 6 = .ok (.getfield 35, 3) := by decide +kernel
theorem dX4_isStage_9 : decode cX4_isStage 9 = .ok (.if_icmp .ge 13, 3) := by decide +kernel
theorem dX4_isStage_12 : decode cX4_isStage 12 = .ok (.iload_n 1, 1) := by decide +kernel
theorem dX4_isStage_13 : decode cX4_isStage 13 = .ok (.bipush 8, 2) := by decide +kernel
theorem dX4_isStage_15 : decode cX4_isStage 15 = .ok (.if_icmp .ge 7, 3) := by decide +kernel
theorem dX4_isStage_18 : decode cX4_isStage 18 = .ok (.iconst 1, 1) := by decide +kernel
theorem dX4_isStage_19 : decode cX4_isStage 19 = .ok (.goto 4, 3) := by decide +kernel
theorem dX4_isStage_22 : decode cX4_isStage 22 = .ok (.iconst 0, 1) := by decide +kernel
theorem dX4_isStage_23 : decode cX4_isStage 23 = .ok (.ireturn, 1) := by decide +kernel
theorem dX4_isPlace_0 : decode cX4_isPlace 0 = .ok (.iload_n 1, 1) := by decide +kernel
theorem dX4_isPlace_1 : decode cX4_isPlace 1 = .ok (.ifCond .lt 15, 3) := by decide +kernel
theorem dX4_isPlace_4 : decode cX4_isPlace 4 = .ok (.iload_n 1, 1) := by decide +kernel
theorem dX4_isPlace_5 : decode cX4_isPlace 5 = .ok (.aload_n 0, 1) := by decide +kernel
theorem dX4_isPlace_6 : decode cX4_isPlace 6 = .ok (.getfield 35, 3) := by decide +kernel
theorem dX4_isPlace_9 : decode cX4_isPlace 9 = .ok (.if_icmp .gt 7, 3) := by decide +kernel
theorem dX4_isPlace_12 : decode cX4_isPlace 12 = .ok (.iconst 1, 1) := by decide +kernel
theorem dX4_isPlace_13 : decode cX4_isPlace 13 = .ok (.goto 4, 3) := by decide +kernel
theorem dX4_isPlace_16 : decode cX4_isPlace 16 = .ok (.iconst 0, 1) := by decide +kernel
theorem dX4_isPlace_17 : decode cX4_isPlace 17 = .ok (.ireturn, 1) := by decide +kernel
theorem dX4_isPerson_0 : decode cX4_isPerson 0 = .ok (.iload_n 1, 1) := by decide +kernel
theorem dX4_isPerson_1 : decode cX4_isPerson 1 = .ok (.ifCond .lt 20, 3) := by decide +kernel
theorem dX4_isPerson_4 : decode cX4_isPerson 4 = .ok (.iload_n 1, 1) := by decide +kernel
theorem dX4_isPerson_5 : decode cX4_isPerson 5 = .ok (.aload_n 0, 1) := by decide +kernel
theorem dX4_isPerson_6 : decode cX4_isPerson 6 = .ok (.getfield 38, 3) := by decide +kernel
theorem dX4_isPerson_9 : decode cX4_isPerson 9 = .ok (.if_icmp .ge 12, 3) := by decide +kernel
theorem dX4_isPerson_12 : decode cX4_isPerson 12 = .ok (.iload_n 1, 1) := by decide +kernel
theorem dX4_isPerson_13 : decode cX4_isPerson 13 = .ok (.iconst 4, 1) := by decide +kernel
theorem dX4_isPerson_14 : decode cX4_isPerson 14 = .ok (.if_icmp .ge 7, 3) := by decide +kernel
theorem dX4_isPerson_17 : decode cX4_isPerson 17 = .ok (.iconst 1, 1) := by decide +kernel
theorem dX4_isPerson_18 : decode cX4_isPerson 18 = .ok (.goto 4, 3) := by decide +kernel
theorem dX4_isPerson_21 : decode cX4_isPerson 21 = .ok (.iconst 0, 1) := by decide +kernel
theorem dX4_isPerson_22 : decode cX4_isPerson 22 = .ok (.ireturn, 1) := by decide +kernel
theorem dX4_isThing_0 : decode cX4_isThing 0 = .ok (.iload_n 1, 1) := by decide +kernel
theorem dX4_isThing_1 : decode cX4_isThing 1 = .ok (.ifCond .lt 21, 3) := by decide +kernel
theorem dX4_isThing_4 : decode cX4_isThing 4 = .ok (.iload_n 1, 1) := by decide +kernel
theorem dX4_isThing_5 : decode cX4_isThing 5 = .ok (.aload_n 0, 1) := by decide +kernel
theorem dX4_isThing_6 : decode cX4_isThing 6 = .ok (.getfield 41, 3) := by decide +kernel
theorem dX4_isThing_9 : decode cX4_isThing 9 = .ok (.if_icmp .ge 13, 3) := by decide +kernel
theorem dX4_isThing_12 : decode cX4_isThing 12 = .ok (.iload_n 1, 1) := by decide +kernel
theorem dX4_isThing_13 : decode cX4_isThing 13 = .ok (.bipush 6, 2) := by decide +kernel
theorem dX4_isThing_15 : decode cX4_isThing 15 = .ok (.if_icmp .ge 7, 3) := by decide +kernel
theorem dX4_isThing_18 : decode cX4_isThing 18 = .ok (.iconst 1, 1) := by decide +kernel
theorem dX4_isThing_19 : decode cX4_isThing 19 = .ok (.goto 4, 3) := by decide +kernel
theorem dX4_isThing_22 : decode cX4_isThing 22 = .ok (.iconst 0, 1) := by decide +kernel
theorem dX4_isThing_23 : decode cX4_isThing 23 = .ok (.ireturn, 1) := by decide +kernel
theorem dX4_allThings_0 : decode cX4_allThings 0 = .ok (.iconst 1, 1) := by decide +kernel
theorem dX4_allThings_1 : decode cX4_allThings 1 = .ok (.aload_n 0, 1) := by decide +kernel
theorem dX4_allThings_2 : decode cX4_allThings 2 = .ok (.getfield 41, 3) := by decide +kernel
theorem dX4_allThings_5 : decode cX4_allThings 5 = .ok (.ishl, 1) := by decide +kernel
theorem dX4_allThings_6 : decode cX4_allThings 6 = .ok (.iconst 1, 1) := by decide +kernel
theorem dX4_allThings_7 : decode cX4_allThings 7 = .ok (.isub, 1) := by decide +kernel
theorem dX4_allThings_8 : decode cX4_allThings 8 = .ok (.ireturn, 1) := by decide +kernel
theorem dX4_weightOf_0 : decode cX4_weightOf 0 = .ok (.iconst 0, 1) := by decide +kernel
theorem dX4_weightOf_1 : decode cX4_weightOf 1 = .ok (.istore_n 2, 1) := by decide +kernel
theorem dX4_weightOf_2 : decode cX4_weightOf 2 = .ok (.iconst 0, 1) := by decide +kernel
theorem dX4_weightOf_3 : decode cX4_weightOf 3 = .ok (.istore_n 3, 1) := by decide +kernel
theorem dX4_weightOf_4 : decode cX4_weightOf 4 = .ok (.iload_n 3, 1) := by decide +kernel
theorem dX4_weightOf_5 : decode cX4_weightOf 5 = .ok (.bipush 6, 2) := by decide +kernel
theorem dX4_weightOf_7 : decode cX4_weightOf 7 = .ok (.if_icmp .ge 27, 3) := by decide +kernel
theorem dX4_weightOf_10 : decode cX4_weightOf 10 = .ok (.iload_n 1, 1) := by decide +kernel
theorem dX4_weightOf_11 : decode cX4_weightOf 11 = .ok (.iload_n 3, 1) := by decide +kernel
theorem dX4_weightOf_12 : decode cX4_weightOf 12 = .ok (.ishr, 1) := by decide +kernel
theorem dX4_weightOf_13 : decode cX4_weightOf 13 = .ok (.iconst 1, 1) := by decide +kernel
theorem dX4_weightOf_14 : decode cX4_weightOf 14 = .ok (.iand, 1) := by decide +kernel
theorem dX4_weightOf_15 : decode cX4_weightOf 15 = .ok (.iconst 1, 1) := by decide +kernel
theorem dX4_weightOf_16 : decode cX4_weightOf 16 = .ok (.if_icmp .ne 12, 3) := by decide +kernel
theorem dX4_weightOf_19 : decode cX4_weightOf 19 = .ok (.iload_n 2, 1) := by decide +kernel
theorem dX4_weightOf_20 : decode cX4_weightOf 20 = .ok (.aload_n 0, 1) := by decide +kernel
theorem dX4_weightOf_21 : decode cX4_weightOf 21 = .ok (.getfield 18, 3) := by decide +kernel
theorem dX4_weightOf_24 : decode cX4_weightOf 24 = .ok (.iload_n 3, 1) := by decide +kernel
theorem dX4_weightOf_25 : decode cX4_weightOf 25 = .ok (.iaload, 1) := by decide +kernel
theorem dX4_weightOf_26 : decode cX4_weightOf 26 = .ok (.iadd, 1) := by decide +kernel
theorem dX4_weightOf_27 : decode cX4_weightOf 27 = .ok (.istore_n 2, 1) := by decide +kernel
theorem dX4_weightOf_28 : decode cX4_weightOf 28 = .ok (.iinc 3 1, 3) := by decide +kernel
theorem dX4_weightOf_31 : decode cX4_weightOf 31 = .ok (.goto (-27), 3) := by decide +kernel
theorem dX4_weightOf_34 : decode cX4_weightOf 34 = .ok (.iload_n 2, 1) := by decide +kernel
theorem dX4_weightOf_35 : decode cX4_weightOf 35 = .ok (.ireturn, 1) := by decide +kernel
theorem dX4_worthOf_0 : decode cX4_worthOf 0 = .ok (.iconst 0, 1) := by decide +kernel
theorem dX4_worthOf_1 : decode cX4_worthOf 1 = .ok (.istore_n 2, 1) := by decide +kernel
theorem dX4_worthOf_2 : decode cX4_worthOf 2 = .ok (.iconst 0, 1) := by decide +kernel
theorem dX4_worthOf_3 : decode cX4_worthOf 3 = .ok (.istore_n 3, 1) := by decide +kernel
theorem dX4_worthOf_4 : decode cX4_worthOf 4 = .ok (.iload_n 3, 1) := by decide +kernel
theorem dX4_worthOf_5 : decode cX4_worthOf 5 = .ok (.bipush 6, 2) := by decide +kernel
theorem dX4_worthOf_7 : decode cX4_worthOf 7 = .ok (.if_icmp .ge 27, 3) := by decide +kernel
theorem dX4_worthOf_10 : decode cX4_worthOf 10 = .ok (.iload_n 1, 1) := by decide +kernel
theorem dX4_worthOf_11 : decode cX4_worthOf 11 = .ok (.iload_n 3, 1) := by decide +kernel
theorem dX4_worthOf_12 : decode cX4_worthOf 12 = .ok (.ishr, 1) := by decide +kernel
theorem dX4_worthOf_13 : decode cX4_worthOf 13 = .ok (.iconst 1, 1) := by decide +kernel
theorem dX4_worthOf_14 : decode cX4_worthOf 14 = .ok (.iand, 1) := by decide +kernel
theorem dX4_worthOf_15 : decode cX4_worthOf 15 = .ok (.iconst 1, 1) := by decide +kernel
theorem dX4_worthOf_16 : decode cX4_worthOf 16 = .ok (.if_icmp .ne 12, 3) := by decide +kernel
theorem dX4_worthOf_19 : decode cX4_worthOf 19 = .ok (.iload_n 2, 1) := by decide +kernel
theorem dX4_worthOf_20 : decode cX4_worthOf 20 = .ok (.aload_n 0, 1) := by decide +kernel
theorem dX4_worthOf_21 : decode cX4_worthOf 21 = .ok (.getfield 21, 3) := by decide +kernel
theorem dX4_worthOf_24 : decode cX4_worthOf 24 = .ok (.iload_n 3, 1) := by decide +kernel
theorem dX4_worthOf_25 : decode cX4_worthOf 25 = .ok (.iaload, 1) := by decide +kernel
theorem dX4_worthOf_26 : decode cX4_worthOf 26 = .ok (.iadd, 1) := by decide +kernel
theorem dX4_worthOf_27 : decode cX4_worthOf 27 = .ok (.istore_n 2, 1) := by decide +kernel
theorem dX4_worthOf_28 : decode cX4_worthOf 28 = .ok (.iinc 3 1, 3) := by decide +kernel
theorem dX4_worthOf_31 : decode cX4_worthOf 31 = .ok (.goto (-27), 3) := by decide +kernel
theorem dX4_worthOf_34 : decode cX4_worthOf 34 = .ok (.iload_n 2, 1) := by decide +kernel
theorem dX4_worthOf_35 : decode cX4_worthOf 35 = .ok (.ireturn, 1) := by decide +kernel
theorem dX4_daysFor_0 : decode cX4_daysFor 0 = .ok (.aload_n 0, 1) := by decide +kernel
theorem dX4_daysFor_1 : decode cX4_daysFor 1 = .ok (.iload_n 1, 1) := by decide +kernel
theorem dX4_daysFor_2 : decode cX4_daysFor 2 = .ok (.invokevirtual 68, 3) := by decide +kernel
theorem dX4_daysFor_5 : decode cX4_daysFor 5 = .ok (.ifCond .eq 13, 3) := by decide +kernel
theorem dX4_daysFor_8 : decode cX4_daysFor 8 = .ok (.aload_n 0, 1) := by decide +kernel
theorem dX4_daysFor_9 : decode cX4_daysFor 9 = .ok (.getfield 15, 3) := by decide +kernel
theorem dX4_daysFor_12 : decode cX4_daysFor 12 = .ok (.iload_n 1, 1) := by decide +kernel
theorem dX4_daysFor_13 : decode cX4_daysFor 13 = .ok (.iaload, 1) := by decide +kernel
theorem dX4_daysFor_14 : decode cX4_daysFor 14 = .ok (.iconst 1, 1) := by decide +kernel
theorem dX4_daysFor_15 : decode cX4_daysFor 15 = .ok (.if_icmp .ge 5, 3) := by decide +kernel
theorem dX4_daysFor_18 : decode cX4_daysFor 18 = .ok (.iconst 0, 1) := by decide +kernel
theorem dX4_daysFor_19 : decode cX4_daysFor 19 = .ok (.ireturn, 1) := by decide +kernel
theorem dX4_daysFor_20 : decode cX4_daysFor 20 = .ok (.aload_n 0, 1) := by decide +kernel
theorem dX4_daysFor_21 : decode cX4_daysFor 21 = .ok (.iload 4, 2) := by decide +kernel
theorem dX4_daysFor_23 : decode cX4_daysFor 23 = .ok (.invokevirtual 72, 3) := by decide +kernel
theorem dX4_daysFor_26 : decode cX4_daysFor 26 = .ok (.istore 5, 2) := by decide +kernel
theorem dX4_daysFor_28 : decode cX4_daysFor 28 = .ok (.iconst 0, 1) := by decide +kernel
theorem dX4_daysFor_29 : decode cX4_daysFor 29 = .ok (.istore 6, 2) := by decide +kernel
theorem dX4_daysFor_31 : decode cX4_daysFor 31 = .ok (.iload_n 2, 1) := by decide +kernel
theorem dX4_daysFor_32 : decode cX4_daysFor 32 = .ok (.iconst 0, 1) := by decide +kernel
theorem dX4_daysFor_33 : decode cX4_daysFor 33 = .ok (.invokestatic 76, 3) := by decide +kernel
theorem dX4_daysFor_36 : decode cX4_daysFor 36 = .ok (.istore 7, 2) := by decide +kernel
theorem dX4_daysFor_38 : decode cX4_daysFor 38 = .ok (.iload 7, 2) := by decide +kernel
theorem dX4_daysFor_40 : decode cX4_daysFor 40 = .ok (.iload_n 3, 1) := by decide +kernel
theorem dX4_daysFor_41 : decode cX4_daysFor 41 = .ok (.if_icmp .ge 47, 3) := by decide +kernel
theorem dX4_daysFor_44 : decode cX4_daysFor 44 = .ok (.iload 7, 2) := by decide +kernel
theorem dX4_daysFor_46 : decode cX4_daysFor 46 = .ok (.bipush 8, 2) := by decide +kernel
theorem dX4_daysFor_48 : decode cX4_daysFor 48 = .ok (.if_icmp .ge 40, 3) := by decide +kernel
theorem dX4_daysFor_51 : decode cX4_daysFor 51 = .ok (.iload 6, 2) := by decide +kernel
theorem dX4_daysFor_53 : decode cX4_daysFor 53 = .ok (.aload_n 0, 1) := by decide +kernel
theorem dX4_daysFor_54 : decode cX4_daysFor 54 = .ok (.getfield 9, 3) := by decide +kernel
theorem dX4_daysFor_57 : decode cX4_daysFor 57 = .ok (.iload 7, 2) := by decide +kernel
theorem dX4_daysFor_59 : decode cX4_daysFor 59 = .ok (.iaload, 1) := by decide +kernel
theorem dX4_daysFor_60 : decode cX4_daysFor 60 = .ok (.iload 5, 2) := by decide +kernel
theorem dX4_daysFor_62 : decode cX4_daysFor 62 = .ok (.iadd, 1) := by decide +kernel
theorem dX4_daysFor_63 : decode cX4_daysFor 63 = .ok (.aload_n 0, 1) := by decide +kernel
theorem dX4_daysFor_64 : decode cX4_daysFor 64 = .ok (.getfield 15, 3) := by decide +kernel
theorem dX4_daysFor_67 : decode cX4_daysFor 67 = .ok (.iload_n 1, 1) := by decide +kernel
theorem dX4_daysFor_68 : decode cX4_daysFor 68 = .ok (.iaload, 1) := by decide +kernel
theorem dX4_daysFor_69 : decode cX4_daysFor 69 = .ok (.iadd, 1) := by decide +kernel
theorem dX4_daysFor_70 : decode cX4_daysFor 70 = .ok (.iconst 1, 1) := by decide +kernel
theorem dX4_daysFor_71 : decode cX4_daysFor 71 = .ok (.isub, 1) := by decide +kernel
theorem dX4_daysFor_72 : decode cX4_daysFor 72 = .ok (.aload_n 0, 1) := by decide +kernel
theorem dX4_daysFor_73 : decode cX4_daysFor 73 = .ok (.getfield 15, 3) := by decide +kernel
theorem dX4_daysFor_76 : decode cX4_daysFor 76 = .ok (.iload_n 1, 1) := by decide +kernel
theorem dX4_daysFor_77 : decode cX4_daysFor 77 = .ok (.iaload, 1) := by decide +kernel
theorem dX4_daysFor_78 : decode cX4_daysFor 78 = .ok (.idiv, 1) := by decide +kernel
theorem dX4_daysFor_79 : decode cX4_daysFor 79 = .ok (.iadd, 1) := by decide +kernel
theorem dX4_daysFor_80 : decode cX4_daysFor 80 = .ok (.istore 6, 2) := by decide +kernel
theorem dX4_daysFor_82 : decode cX4_daysFor 82 = .ok (.iinc 7 1, 3) := by decide +kernel
theorem dX4_daysFor_85 : decode cX4_daysFor 85 = .ok (.goto (-47), 3) := by decide +kernel
theorem dX4_daysFor_88 : decode cX4_daysFor 88 = .ok (.iload 6, 2) := by decide +kernel
theorem dX4_daysFor_90 : decode cX4_daysFor 90 = .ok (.ireturn, 1) := by decide +kernel
theorem dX5_init_0 : decode cX5_init 0 = .ok (.aload_n 0, 1) := by decide +kernel
theorem dX5_init_1 : decode cX5_init 1 = .ok (.invokespecial 3, 3) := by decide +kernel
theorem dX5_init_4 : decode cX5_init 4 = .ok (.aload_n 0, 1) := by decide +kernel
theorem dX5_init_5 : decode cX5_init 5 = .ok (.new 9, 3) := by decide +kernel
theorem dX5_init_8 : decode cX5_init 8 = .ok (.dup, 1) := by decide +kernel
theorem dX5_init_9 : decode cX5_init 9 = .ok (.invokespecial 11, 3) := by decide +kernel
theorem dX5_init_12 : decode cX5_init 12 = .ok (.putfield 12, 3) := by decide +kernel
theorem dX5_init_15 : decode cX5_init 15 = .ok (.aload_n 0, 1) := by decide +kernel
theorem dX5_init_16 : decode cX5_init 16 = .ok (.aload_n 1, 1) := by decide +kernel
theorem dX5_init_17 : decode cX5_init 17 = .ok (.putfield 18, 3) := by decide +kernel
theorem dX5_init_20 : decode cX5_init 20 = .ok (.return_, 1) := by decide +kernel
theorem dX5_read_0 : decode cX5_read 0 = .ok (.aload_n 0, 1) := by decide +kernel
theorem dX5_read_1 : decode cX5_read 1 = .ok (.getfield 12, 3) := by decide +kernel
theorem dX5_read_4 : decode cX5_read 4 = .ok (.invokevirtual 22, 3) := by decide +kernel
theorem dX5_read_7 : decode cX5_read 7 = .ok (.aload_n 0, 1) := by decide +kernel
theorem dX5_read_8 : decode cX5_read 8 = .ok (.getfield 18, 3) := by decide +kernel
theorem dX5_read_11 : decode cX5_read 11 = .ok (.invokevirtual 25, 3) := by decide +kernel
theorem dX5_read_14 : decode cX5_read 14 = .ok (.iconst 0, 1) := by decide +kernel
theorem dX5_read_15 : decode cX5_read 15 = .ok (.istore_n 1, 1) := by decide +kernel
theorem dX5_read_16 : decode cX5_read 16 = .ok (.iload_n 1, 1) := by decide +kernel
theorem dX5_read_17 : decode cX5_read 17 = .ok (.bipush 40, 2) := by decide +kernel
theorem dX5_read_19 : decode cX5_read 19 = .ok (.if_icmp .gt 68, 3) := by decide +kernel
theorem dX5_read_22 : decode cX5_read 22 = .ok (.aload_n 0, 1) := by decide +kernel
theorem dX5_read_23 : decode cX5_read 23 = .ok (.iload_n 1, 1) := by decide +kernel
theorem dX5_read_24 : decode cX5_read 24 = .ok (.invokevirtual 30, 3) := by decide +kernel
theorem dX5_read_27 : decode cX5_read 27 = .ok (.ifCond .ne 5, 3) := by decide +kernel
theorem dX5_read_30 : decode cX5_read 30 = .ok (.iconst 0, 1) := by decide +kernel
theorem dX5_read_31 : decode cX5_read 31 = .ok (.ireturn, 1) := by decide +kernel
theorem dX5_read_32 : decode cX5_read 32 = .ok (.aload_n 0, 1) := by decide +kernel
theorem dX5_read_33 : decode cX5_read 33 = .ok (.getfield 18, 3) := by decide +kernel
theorem dX5_read_36 : decode cX5_read 36 = .ok (.invokevirtual 34, 3) := by decide +kernel
theorem dX5_read_39 : decode cX5_read 39 = .ok (.iconst (-1), 1) := by decide +kernel
theorem dX5_read_40 : decode cX5_read 40 = .ok (.if_icmp .ne 13, 3) := by decide +kernel
theorem dX5_read_43 : decode cX5_read 43 = .ok (.aload_n 0, 1) := by decide +kernel
theorem dX5_read_44 : decode cX5_read 44 = .ok (.getfield 12, 3) := by decide +kernel
theorem dX5_read_47 : decode cX5_read 47 = .ok (.iconst 1, 1) := by decide +kernel
theorem dX5_read_48 : decode cX5_read 48 = .ok (.putfield 38, 3) := by decide +kernel
theorem dX5_read_51 : decode cX5_read 51 = .ok (.iconst 1, 1) := by decide +kernel
theorem dX5_read_52 : decode cX5_read 52 = .ok (.ireturn, 1) := by decide +kernel
theorem dX5_read_53 : decode cX5_read 53 = .ok (.aload_n 0, 1) := by decide +kernel
theorem dX5_read_54 : decode cX5_read 54 = .ok (.getfield 18, 3) := by decide +kernel
theorem dX5_read_57 : decode cX5_read 57 = .ok (.bipush 59, 2) := by decide +kernel
theorem dX5_read_59 : decode cX5_read 59 = .ok (.invokevirtual 42, 3) := by decide +kernel
theorem dX5_read_62 : decode cX5_read 62 = .ok (.ifCond .ne 19, 3) := by decide +kernel
theorem dX5_read_65 : decode cX5_read 65 = .ok (.aload_n 0, 1) := by decide +kernel
theorem dX5_read_66 : decode cX5_read 66 = .ok (.getfield 18, 3) := by decide +kernel
theorem dX5_read_69 : decode cX5_read 69 = .ok (.aload_n 0, 1) := by decide +kernel
theorem dX5_read_70 : decode cX5_read 70 = .ok (.getfield 18, 3) := by decide +kernel
theorem dX5_read_73 : decode cX5_read 73 = .ok (.getfield 45, 3) := by decide +kernel
theorem dX5_read_76 : decode cX5_read 76 = .ok (.iconst 0, 1) := by decide +kernel
theorem dX5_read_77 : decode cX5_read 77 = .ok (.invokevirtual 49, 3) := by decide +kernel
theorem dX5_read_80 : decode cX5_read 80 = .ok (.ireturn, 1) := by decide +kernel
theorem dX5_read_81 : decode cX5_read 81 = .ok (.iinc 1 1, 3) := by decide +kernel
theorem dX5_read_84 : decode cX5_read 84 = .ok (.goto (-68), 3) := by decide +kernel
theorem dX5_read_87 : decode cX5_read 87 = .ok (.iconst 0, 1) := by decide +kernel
theorem dX5_read_88 : decode cX5_read 88 = .ok (.ireturn, 1) := by decide +kernel
theorem dX5_readClause_0 : decode cX5_readClause 0 = .ok (.aload_n 0, 1) := by decide +kernel
theorem dX5_readClause_1 : decode cX5_readClause 1 = .ok (.getfield 18, 3) := by decide +kernel
theorem dX5_readClause_4 : decode cX5_readClause 4 = .ok (.invokevirtual 34, 3) := by decide +kernel
theorem dX5_readClause_7 : decode cX5_readClause 7 = .ok (.pop, 1) := by decide +kernel
theorem dX5_readClause_8 : decode cX5_readClause 8 = .ok (.aload_n 0, 1) := by decide +kernel
theorem dX5_readClause_9 : decode cX5_readClause 9 = .ok (.getfield 18, 3) := by decide +kernel
theorem dX5_readClause_12 : decode cX5_readClause 12 = .ok (.getfield 45, 3) := by decide +kernel
theorem dX5_readClause_15 : decode cX5_readClause 15 = .ok (.istore_n 2, 1) := by decide +kernel
theorem dX5_readClause_16 : decode cX5_readClause 16 = .ok (.aload_n 0, 1) := by decide +kernel
theorem dX5_readClause_17 : decode cX5_readClause 17 = .ok (.getfield 18, 3) := by decide +kernel
theorem dX5_readClause_20 : decode cX5_readClause 20 = .ok (.ldc 53, 2) := by decide +kernel
theorem dX5_readClause_22 : decode cX5_readClause 22 = .ok (.invokevirtual 55, 3) := by decide +kernel
theorem dX5_readClause_25 : decode cX5_readClause 25 = .ok (.istore_n 3, 1) := by decide +kernel
theorem dX5_readClause_26 : decode cX5_readClause 26 = .ok (.iload_n 3, 1) := by decide +kernel
theorem dX5_readClause_27 : decode cX5_readClause 27 = .ok (.iconst (-1), 1) := by decide +kernel
theorem dX5_readClause_28 : decode cX5_readClause 28 = .ok (.if_icmp .ne 13, 3) := by decide +kernel
theorem dX5_readClause_31 : decode cX5_readClause 31 = .ok (.aload_n 0, 1) := by decide +kernel
theorem dX5_readClause_32 : decode cX5_readClause 32 = .ok (.getfield 18, 3) := by decide +kernel
theorem dX5_readClause_35 : decode cX5_readClause 35 = .ok (.iload_n 2, 1) := by decide +kernel
theorem dX5_readClause_36 : decode cX5_readClause 36 = .ok (.iconst 0, 1) := by decide +kernel
theorem dX5_readClause_37 : decode cX5_readClause 37 = .ok (.invokevirtual 49, 3) := by decide +kernel
theorem dX5_readClause_40 : decode cX5_readClause 40 = .ok (.ireturn, 1) := by decide +kernel
theorem dX5_readClause_41 : decode cX5_readClause 41 = .ok (.iload_n 1, 1) := by decide +kernel
theorem dX5_readClause_42 : decode cX5_readClause 42 = .ok (.bipush 40, 2) := by decide +kernel
theorem dX5_readClause_44 : decode cX5_readClause 44 = .ok (.if_icmp .ge 32, 3) := by decide +kernel
theorem dX5_readClause_47 : decode cX5_readClause 47 = .ok (.iload_n 3, 1) := by decide +kernel
theorem dX5_readClause_48 : decode cX5_readClause 48 = .ok (.ifCond .ne 7, 3) := by decide +kernel
theorem dX5_readClause_51 : decode cX5_readClause 51 = .ok (.iconst 1, 1) := by decide +kernel
theorem dX5_readClause_52 : decode cX5_readClause 52 = .ok (.goto 4, 3) := by decide +kernel
theorem dX5_readClause_55 : decode cX5_readClause 55 = .ok (.iconst 0, 1) := by decide +kernel
theorem dX5_readClause_56 : decode cX5_readClause 56 = .ok (.iload_n 1, 1) := by decide +kernel
theorem dX5_readClause_57 : decode cX5_readClause 57 = .ok (.ifCond .ne 7, 3) := by decide +kernel
theorem dX5_readClause_60 : decode cX5_readClause 60 = .ok (.iconst 1, 1) := by decide +kernel
theorem dX5_readClause_61 : decode cX5_readClause 61 = .ok (.goto 4, 3) := by decide +kernel
theorem dX5_readClause_64 : decode cX5_readClause 64 = .ok (.iconst 0, 1) := by decide +kernel
theorem dX5_readClause_65 : decode cX5_readClause 65 = .ok (.if_icmp .ne 11, 3) := by decide +kernel
theorem dX5_readClause_68 : decode cX5_readClause 68 = .ok (.aload_n 0, 1) := by decide +kernel
theorem dX5_readClause_69 : decode cX5_readClause 69 = .ok (.iload_n 3, 1) := by decide +kernel
theorem dX5_readClause_70 : decode cX5_readClause 70 = .ok (.invokevirtual 59, 3) := by decide +kernel
theorem dX5_readClause_73 : decode cX5_readClause 73 = .ok (.ifCond .eq 13, 3) := by decide +kernel
theorem dX5_readClause_76 : decode cX5_readClause 76 = .ok (.aload_n 0, 1) := by decide +kernel
theorem dX5_readClause_77 : decode cX5_readClause 77 = .ok (.getfield 18, 3) := by decide +kernel
theorem dX5_readClause_80 : decode cX5_readClause 80 = .ok (.iload_n 2, 1) := by decide +kernel
theorem dX5_readClause_81 : decode cX5_readClause 81 = .ok (.iconst 4, 1) := by decide +kernel
theorem dX5_readClause_82 : decode cX5_readClause 82 = .ok (.invokevirtual 49, 3) := by decide +kernel
theorem dX5_readClause_85 : decode cX5_readClause 85 = .ok (.ireturn, 1) := by decide +kernel
theorem dX5_readClause_86 : decode cX5_readClause 86 = .ok (.iload_n 3, 1) := by decide +kernel
theorem dX5_readClause_87 : decode cX5_readClause 87 = .ok (.tableswitch 49 0 3 #[29, 34, 39, 44], 29) := by decide +kernel
theorem dX5_readClause_116 : decode cX5_readClause 116 = .ok (.aload_n 0, 1) := by decide +kernel
theorem dX5_readClause_117 : decode cX5_readClause 117 = .ok (.invokevirtual 62, 3) := by decide +kernel
theorem dX5_readClause_120 : decode cX5_readClause 120 = .ok (.ireturn, 1) := by decide +kernel
theorem dX5_readClause_121 : decode cX5_readClause 121 = .ok (.aload_n 0, 1) := by decide +kernel
theorem dX5_readClause_122 : decode cX5_readClause 122 = .ok (.invokevirtual 66, 3) := by decide +kernel
theorem dX5_readClause_125 : decode cX5_readClause 125 = .ok (.ireturn, 1) := by decide +kernel
theorem dX5_readClause_126 : decode cX5_readClause 126 = .ok (.aload_n 0, 1) := by decide +kernel
theorem dX5_readClause_127 : decode cX5_readClause 127 = .ok (.invokevirtual 69, 3) := by decide +kernel
theorem dX5_readClause_130 : decode cX5_readClause 130 = .ok (.ireturn, 1) := by decide +kernel
theorem dX5_readClause_131 : decode cX5_readClause 131 = .ok (.aload_n 0, 1) := by decide +kernel
theorem dX5_readClause_132 : decode cX5_readClause 132 = .ok (.invokevirtual 72, 3) := by decide +kernel
theorem dX5_readClause_135 : decode cX5_readClause 135 = .ok (.ireturn, 1) := by decide +kernel
theorem dX5_readClause_136 : decode cX5_readClause 136 = .ok (.aload_n 0, 1) := by decide +kernel
theorem dX5_readClause_137 : decode cX5_readClause 137 = .ok (.invokevirtual 75, 3) := by decide +kernel
theorem dX5_readClause_140 : decode cX5_readClause 140 = .ok (.ireturn, 1) := by decide +kernel
theorem dX5_isFull_0 : decode cX5_isFull 0 = .ok (.iload_n 1, 1) := by decide +kernel
theorem dX5_isFull_1 : decode cX5_isFull 1 = .ok (.iconst 1, 1) := by decide +kernel
theorem dX5_isFull_2 : decode cX5_isFull 2 = .ok (.if_icmp .ne 15, 3) := by decide +kernel
theorem dX5_isFull_5 : decode cX5_isFull 5 = .ok (.aload_n 0, 1) := by decide +kernel
theorem dX5_isFull_6 : decode cX5_isFull 6 = .ok (.getfield 12, 3) := by decide +kernel
theorem dX5_isFull_9 : decode cX5_isFull 9 = .ok (.getfield 78, 3) := by decide +kernel
theorem dX5_isFull_12 : decode cX5_isFull 12 = .ok (.bipush 8, 2) := by decide +kernel
theorem dX5_isFull_14 : decode cX5_isFull 14 = .ok (.if_icmp .ge 36, 3) := by decide +kernel
theorem dX5_isFull_17 : decode cX5_isFull 17 = .ok (.iload_n 1, 1) := by decide +kernel
theorem dX5_isFull_18 : decode cX5_isFull 18 = .ok (.iconst 2, 1) := by decide +kernel
theorem dX5_isFull_19 : decode cX5_isFull 19 = .ok (.if_icmp .ne 14, 3) := by decide +kernel
theorem dX5_isFull_22 : decode cX5_isFull 22 = .ok (.aload_n 0, 1) := by decide +kernel
theorem dX5_isFull_23 : decode cX5_isFull 23 = .ok (.getfield 12, 3) := by decide +kernel
theorem dX5_isFull_26 : decode cX5_isFull 26 = .ok (.getfield 81, 3) := by decide +kernel
theorem dX5_isFull_29 : decode cX5_isFull 29 = .ok (.iconst 4, 1) := by decide +kernel
theorem dX5_isFull_30 : decode cX5_isFull 30 = .ok (.if_icmp .ge 20, 3) := by decide +kernel
theorem dX5_isFull_33 : decode cX5_isFull 33 = .ok (.iload_n 1, 1) := by decide +kernel
theorem dX5_isFull_34 : decode cX5_isFull 34 = .ok (.iconst 3, 1) := by decide +kernel
theorem dX5_isFull_35 : decode cX5_isFull 35 = .ok (.if_icmp .ne 19, 3) := by decide +kernel
theorem dX5_isFull_38 : decode cX5_isFull 38 = .ok (.aload_n 0, 1) := by decide +kernel
theorem dX5_isFull_39 : decode cX5_isFull 39 = .ok (.getfield 12, 3) := by decide +kernel
theorem dX5_isFull_42 : decode cX5_isFull 42 = .ok (.getfield 84, 3) := by decide +kernel
theorem dX5_isFull_45 : decode cX5_isFull 45 = .ok (.bipush 6, 2) := by decide +kernel
theorem dX5_isFull_47 : decode cX5_isFull 47 = .ok (.if_icmp .lt 7, 3) := by decide +kernel
theorem dX5_isFull_50 : decode cX5_isFull 50 = .ok (.iconst 1, 1) := by decide +kernel
theorem dX5_isFull_51 : decode cX5_isFull 51 = .ok (.goto 4, 3) := by decide +kernel
theorem dX5_isFull_54 : decode cX5_isFull 54 = .ok (.iconst 0, 1) := by decide +kernel
theorem dX5_isFull_55 : decode cX5_isFull 55 = .ok (.ireturn, 1) := by decide +kernel
theorem dX5_readHands_0 : decode cX5_readHands 0 = .ok (.aload_n 0, 1) := by decide +kernel
theorem dX5_readHands_1 : decode cX5_readHands 1 = .ok (.getfield 18, 3) := by decide +kernel
theorem dX5_readHands_4 : decode cX5_readHands 4 = .ok (.invokevirtual 34, 3) := by decide +kernel
theorem dX5_readHands_7 : decode cX5_readHands 7 = .ok (.pop, 1) := by decide +kernel
theorem dX5_readHands_8 : decode cX5_readHands 8 = .ok (.aload_n 0, 1) := by decide +kernel
theorem dX5_readHands_9 : decode cX5_readHands 9 = .ok (.getfield 12, 3) := by decide +kernel
theorem dX5_readHands_12 : decode cX5_readHands 12 = .ok (.aload_n 0, 1) := by decide +kernel
theorem dX5_readHands_13 : decode cX5_readHands 13 = .ok (.getfield 18, 3) := by decide +kernel
theorem dX5_readHands_16 : decode cX5_readHands 16 = .ok (.iconst 0, 1) := by decide +kernel
theorem dX5_readHands_17 : decode cX5_readHands 17 = .ok (.iconst 4, 1) := by decide +kernel
theorem dX5_readHands_18 : decode cX5_readHands 18 = .ok (.invokevirtual 87, 3) := by decide +kernel
theorem dX5_readHands_21 : decode cX5_readHands 21 = .ok (.putfield 91, 3) := by decide +kernel
theorem dX5_readHands_24 : decode cX5_readHands 24 = .ok (.aload_n 0, 1) := by decide +kernel
theorem dX5_readHands_25 : decode cX5_readHands 25 = .ok (.getfield 12, 3) := by decide +kernel
theorem dX5_readHands_28 : decode cX5_readHands 28 = .ok (.getfield 91, 3) := by decide +kernel
theorem dX5_readHands_31 : decode cX5_readHands 31 = .ok (.iconst (-1), 1) := by decide +kernel
theorem dX5_readHands_32 : decode cX5_readHands 32 = .ok (.if_icmp .eq 7, 3) := by decide +kernel
theorem dX5_readHands_35 : decode cX5_readHands 35 = .ok (.iconst 1, 1) := by decide +kernel
theorem dX5_readHands_36 : decode cX5_readHands 36 = .ok (.goto 4, 3) := by decide +kernel
theorem dX5_readHands_39 : decode cX5_readHands 39 = .ok (.iconst 0, 1) := by decide +kernel
theorem dX5_readHands_40 : decode cX5_readHands 40 = .ok (.ireturn, 1) := by decide +kernel
theorem dX5_readStage_0 : decode cX5_readStage 0 = .ok (.aload_n 0, 1) := by decide +kernel
theorem dX5_readStage_1 : decode cX5_readStage 1 = .ok (.getfield 18, 3) := by decide +kernel
theorem dX5_readStage_4 : decode cX5_readStage 4 = .ok (.invokevirtual 34, 3) := by decide +kernel
theorem dX5_readStage_7 : decode cX5_readStage 7 = .ok (.pop, 1) := by decide +kernel
theorem dX5_readStage_8 : decode cX5_readStage 8 = .ok (.aload_n 0, 1) := by decide +kernel
theorem dX5_readStage_9 : decode cX5_readStage 9 = .ok (.getfield 18, 3) := by decide +kernel
theorem dX5_readStage_12 : decode cX5_readStage 12 = .ok (.iconst 1, 1) := by decide +kernel
theorem dX5_readStage_13 : decode cX5_readStage 13 = .ok (.bipush 60, 2) := by decide +kernel
theorem dX5_readStage_15 : decode cX5_readStage 15 = .ok (.invokevirtual 87, 3) := by decide +kernel
theorem dX5_readStage_18 : decode cX5_readStage 18 = .ok (.istore_n 1, 1) := by decide +kernel
theorem dX5_readStage_19 : decode cX5_readStage 19 = .ok (.iload_n 1, 1) := by decide +kernel
theorem dX5_readStage_20 : decode cX5_readStage 20 = .ok (.iconst (-1), 1) := by decide +kernel
theorem dX5_readStage_21 : decode cX5_readStage 21 = .ok (.if_icmp .ne 5, 3) := by decide +kernel
theorem dX5_readStage_24 : decode cX5_readStage 24 = .ok (.iconst 0, 1) := by decide +kernel
theorem dX5_readStage_25 : decode cX5_readStage 25 = .ok (.ireturn, 1) := by decide +kernel
theorem dX5_readStage_26 : decode cX5_readStage 26 = .ok (.aload_n 0, 1) := by decide +kernel
theorem dX5_readStage_27 : decode cX5_readStage 27 = .ok (.getfield 12, 3) := by decide +kernel
theorem dX5_readStage_30 : decode cX5_readStage 30 = .ok (.getfield 94, 3) := by decide +kernel
theorem dX5_readStage_33 : decode cX5_readStage 33 = .ok (.aload_n 0, 1) := by decide +kernel
theorem dX5_readStage_34 : decode cX5_readStage 34 = .ok (.getfield 12, 3) := by decide +kernel
theorem dX5_readStage_37 : decode cX5_readStage 37 = .ok (.getfield 78, 3) := by decide +kernel
theorem dX5_readStage_40 : decode cX5_readStage 40 = .ok (.iload_n 1, 1) := by decide +kernel
theorem dX5_readStage_41 : decode cX5_readStage 41 = .ok (.iastore, 1) := by decide +kernel
theorem dX5_readStage_42 : decode cX5_readStage 42 = .ok (.aload_n 0, 1) := by decide +kernel
theorem dX5_readStage_43 : decode cX5_readStage 43 = .ok (.getfield 12, 3) := by decide +kernel
theorem dX5_readStage_46 : decode cX5_readStage 46 = .ok (.dup, 1) := by decide +kernel
theorem dX5_readStage_47 : decode cX5_readStage 47 = .ok (.getfield 78, 3) := by decide +kernel
theorem dX5_readStage_50 : decode cX5_readStage 50 = .ok (.iconst 1, 1) := by decide +kernel
theorem dX5_readStage_51 : decode cX5_readStage 51 = .ok (.iadd, 1) := by decide +kernel
theorem dX5_readStage_52 : decode cX5_readStage 52 = .ok (.putfield 78, 3) := by decide +kernel
theorem dX5_readStage_55 : decode cX5_readStage 55 = .ok (.iconst 1, 1) := by decide +kernel
theorem dX5_readStage_56 : decode cX5_readStage 56 = .ok (.ireturn, 1) := by decide +kernel
theorem dX5_readPerson_0 : decode cX5_readPerson 0 = .ok (.aload_n 0, 1) := by decide +kernel
theorem dX5_readPerson_1 : decode cX5_readPerson 1 = .ok (.getfield 18, 3) := by decide +kernel
theorem dX5_readPerson_4 : decode cX5_readPerson 4 = .ok (.invokevirtual 34, 3) := by decide +kernel
theorem dX5_readPerson_7 : decode cX5_readPerson 7 = .ok (.pop, 1) := by decide +kernel
theorem dX5_readPerson_8 : decode cX5_readPerson 8 = .ok (.aload_n 0, 1) := by decide +kernel
theorem dX5_readPerson_9 : decode cX5_readPerson 9 = .ok (.getfield 18, 3) := by decide +kernel
theorem dX5_readPerson_12 : decode cX5_readPerson 12 = .ok (.iconst 1, 1) := by decide +kernel
theorem dX5_readPerson_13 : decode cX5_readPerson 13 = .ok (.bipush 20, 2) := by decide +kernel
theorem dX5_readPerson_15 : decode cX5_readPerson 15 = .ok (.invokevirtual 87, 3) := by decide +kernel
theorem dX5_readPerson_18 : decode cX5_readPerson 18 = .ok (.istore_n 1, 1) := by decide +kernel
theorem dX5_readPerson_19 : decode cX5_readPerson 19 = .ok (.iload_n 1, 1) := by decide +kernel
theorem dX5_readPerson_20 : decode cX5_readPerson 20 = .ok (.iconst (-1), 1) := by decide +kernel
theorem dX5_readPerson_21 : decode cX5_readPerson 21 = .ok (.if_icmp .ne 5, 3) := by decide +kernel
theorem dX5_readPerson_24 : decode cX5_readPerson 24 = .ok (.iconst 0, 1) := by decide +kernel
theorem dX5_readPerson_25 : decode cX5_readPerson 25 = .ok (.ireturn, 1) := by decide +kernel
theorem dX5_readPerson_26 : decode cX5_readPerson 26 = .ok (.aload_n 0, 1) := by decide +kernel
theorem dX5_readPerson_27 : decode cX5_readPerson 27 = .ok (.getfield 12, 3) := by decide +kernel
theorem dX5_readPerson_30 : decode cX5_readPerson 30 = .ok (.getfield 98, 3) := by decide +kernel
theorem dX5_readPerson_33 : decode cX5_readPerson 33 = .ok (.aload_n 0, 1) := by decide +kernel
theorem dX5_readPerson_34 : decode cX5_readPerson 34 = .ok (.getfield 12, 3) := by decide +kernel
theorem dX5_readPerson_37 : decode cX5_readPerson 37 = .ok (.getfield 81, 3) := by decide +kernel
theorem dX5_readPerson_40 : decode cX5_readPerson 40 = .ok (.iload_n 1, 1) := by decide +kernel
theorem dX5_readPerson_41 : decode cX5_readPerson 41 = .ok (.iastore, 1) := by decide +kernel
theorem dX5_readPerson_42 : decode cX5_readPerson 42 = .ok (.aload_n 0, 1) := by decide +kernel
theorem dX5_readPerson_43 : decode cX5_readPerson 43 = .ok (.getfield 12, 3) := by decide +kernel
theorem dX5_readPerson_46 : decode cX5_readPerson 46 = .ok (.dup, 1) := by decide +kernel
theorem dX5_readPerson_47 : decode cX5_readPerson 47 = .ok (.getfield 81, 3) := by decide +kernel
theorem dX5_readPerson_50 : decode cX5_readPerson 50 = .ok (.iconst 1, 1) := by decide +kernel
theorem dX5_readPerson_51 : decode cX5_readPerson 51 = .ok (.iadd, 1) := by decide +kernel
theorem dX5_readPerson_52 : decode cX5_readPerson 52 = .ok (.putfield 81, 3) := by decide +kernel
theorem dX5_readPerson_55 : decode cX5_readPerson 55 = .ok (.iconst 1, 1) := by decide +kernel
theorem dX5_readPerson_56 : decode cX5_readPerson 56 = .ok (.ireturn, 1) := by decide +kernel
theorem dX5_readThing_0 : decode cX5_readThing 0 = .ok (.aload_n 0, 1) := by decide +kernel
theorem dX5_readThing_1 : decode cX5_readThing 1 = .ok (.getfield 18, 3) := by decide +kernel
theorem dX5_readThing_4 : decode cX5_readThing 4 = .ok (.invokevirtual 34, 3) := by decide +kernel
theorem dX5_readThing_7 : decode cX5_readThing 7 = .ok (.pop, 1) := by decide +kernel
theorem dX5_readThing_8 : decode cX5_readThing 8 = .ok (.aload_n 0, 1) := by decide +kernel
theorem dX5_readThing_9 : decode cX5_readThing 9 = .ok (.getfield 18, 3) := by decide +kernel
theorem dX5_readThing_12 : decode cX5_readThing 12 = .ok (.iconst 0, 1) := by decide +kernel
theorem dX5_readThing_13 : decode cX5_readThing 13 = .ok (.bipush 9, 2) := by decide +kernel
theorem dX5_readThing_15 : decode cX5_readThing 15 = .ok (.invokevirtual 87, 3) := by decide +kernel
theorem dX5_readThing_18 : decode cX5_readThing 18 = .ok (.istore_n 1, 1) := by decide +kernel
theorem dX5_readThing_19 : decode cX5_readThing 19 = .ok (.iload_n 1, 1) := by decide +kernel
theorem dX5_readThing_20 : decode cX5_readThing 20 = .ok (.iconst (-1), 1) := by decide +kernel
theorem dX5_readThing_21 : decode cX5_readThing 21 = .ok (.if_icmp .ne 5, 3) := by decide +kernel
theorem dX5_readThing_24 : decode cX5_readThing 24 = .ok (.iconst 0, 1) := by decide +kernel
theorem dX5_readThing_25 : decode cX5_readThing 25 = .ok (.ireturn, 1) := by decide +kernel
theorem dX5_readThing_26 : decode cX5_readThing 26 = .ok (.aload_n 0, 1) := by decide +kernel
theorem dX5_readThing_27 : decode cX5_readThing 27 = .ok (.getfield 18, 3) := by decide +kernel
theorem dX5_readThing_30 : decode cX5_readThing 30 = .ok (.invokevirtual 34, 3) := by decide +kernel
theorem dX5_readThing_33 : decode cX5_readThing 33 = .ok (.pop, 1) := by decide +kernel
theorem dX5_readThing_34 : decode cX5_readThing 34 = .ok (.aload_n 0, 1) := by decide +kernel
theorem dX5_readThing_35 : decode cX5_readThing 35 = .ok (.getfield 18, 3) := by decide +kernel
theorem dX5_readThing_38 : decode cX5_readThing 38 = .ok (.iconst 0, 1) := by decide +kernel
theorem dX5_readThing_39 : decode cX5_readThing 39 = .ok (.bipush 50, 2) := by decide +kernel
theorem dX5_readThing_41 : decode cX5_readThing 41 = .ok (.invokevirtual 87, 3) := by decide +kernel
theorem dX5_readThing_44 : decode cX5_readThing 44 = .ok (.istore_n 2, 1) := by decide +kernel
theorem dX5_readThing_45 : decode cX5_readThing 45 = .ok (.iload_n 2, 1) := by decide +kernel
theorem dX5_readThing_46 : decode cX5_readThing 46 = .ok (.iconst (-1), 1) := by decide +kernel
theorem dX5_readThing_47 : decode cX5_readThing 47 = .ok (.if_icmp .ne 5, 3) := by decide +kernel
theorem dX5_readThing_50 : decode cX5_readThing 50 = .ok (.iconst 0, 1) := by decide +kernel
theorem dX5_readThing_51 : decode cX5_readThing 51 = .ok (.ireturn, 1) := by decide +kernel
theorem dX5_readThing_52 : decode cX5_readThing 52 = .ok (.aload_n 0, 1) := by decide +kernel
theorem dX5_readThing_53 : decode cX5_readThing 53 = .ok (.getfield 12, 3) := by decide +kernel
theorem dX5_readThing_56 : decode cX5_readThing 56 = .ok (.getfield 101, 3) := by decide +kernel
theorem dX5_readThing_59 : decode cX5_readThing 59 = .ok (.aload_n 0, 1) := by decide +kernel
theorem dX5_readThing_60 : decode cX5_readThing 60 = .ok (.getfield 12, 3) := by decide +kernel
theorem dX5_readThing_63 : decode cX5_readThing 63 = .ok (.getfield 84, 3) := by decide +kernel
theorem dX5_readThing_66 : decode cX5_readThing 66 = .ok (.iload_n 1, 1) := by decide +kernel
theorem dX5_readThing_67 : decode cX5_readThing 67 = .ok (.iastore, 1) := by decide +kernel
theorem dX5_readThing_68 : decode cX5_readThing 68 = .ok (.aload_n 0, 1) := by decide +kernel
theorem dX5_readThing_69 : decode cX5_readThing 69 = .ok (.getfield 12, 3) := by decide +kernel
theorem dX5_readThing_72 : decode cX5_readThing 72 = .ok (.getfield 104, 3) := by decide +kernel
theorem dX5_readThing_75 : decode cX5_readThing 75 = .ok (.aload_n 0, 1) := by decide +kernel
theorem dX5_readThing_76 : decode cX5_readThing 76 = .ok (.getfield 12, 3) := by decide +kernel
theorem dX5_readThing_79 : decode cX5_readThing 79 = .ok (.getfield 84, 3) := by decide +kernel
theorem dX5_readThing_82 : decode cX5_readThing 82 = .ok (.iload_n 2, 1) := by decide +kernel
theorem dX5_readThing_83 : decode cX5_readThing 83 = .ok (.iastore, 1) := by decide +kernel
theorem dX5_readThing_84 : decode cX5_readThing 84 = .ok (.aload_n 0, 1) := by decide +kernel
theorem dX5_readThing_85 : decode cX5_readThing 85 = .ok (.getfield 12, 3) := by decide +kernel
theorem dX5_readThing_88 : decode cX5_readThing 88 = .ok (.getfield 107, 3) := by decide +kernel
theorem dX5_readThing_91 : decode cX5_readThing 91 = .ok (.aload_n 0, 1) := by decide +kernel
theorem dX5_readThing_92 : decode cX5_readThing 92 = .ok (.getfield 12, 3) := by decide +kernel
theorem dX5_readThing_95 : decode cX5_readThing 95 = .ok (.getfield 84, 3) := by decide +kernel
theorem dX5_readThing_98 : decode cX5_readThing 98 = .ok (.bipush 10, 2) := by decide +kernel
theorem dX5_readThing_100 : decode cX5_readThing 100 = .ok (.iastore, 1) := by decide +kernel
theorem dX5_readThing_101 : decode cX5_readThing 101 = .ok (.aload_n 0, 1) := by decide +kernel
theorem dX5_readThing_102 : decode cX5_readThing 102 = .ok (.getfield 12, 3) := by decide +kernel
theorem dX5_readThing_105 : decode cX5_readThing 105 = .ok (.dup, 1) := by decide +kernel
theorem dX5_readThing_106 : decode cX5_readThing 106 = .ok (.getfield 84, 3) := by decide +kernel
theorem dX5_readThing_109 : decode cX5_readThing 109 = .ok (.iconst 1, 1) := by decide +kernel
theorem dX5_readThing_110 : decode cX5_readThing 110 = .ok (.iadd, 1) := by decide +kernel
theorem dX5_readThing_111 : decode cX5_readThing 111 = .ok (.putfield 84, 3) := by decide +kernel
theorem dX5_readThing_114 : decode cX5_readThing 114 = .ok (.iconst 1, 1) := by decide +kernel
theorem dX5_readThing_115 : decode cX5_readThing 115 = .ok (.ireturn, 1) := by decide +kernel
theorem dX5_readHas_0 : decode cX5_readHas 0 = .ok (.aload_n 0, 1) := by decide +kernel
theorem dX5_readHas_1 : decode cX5_readHas 1 = .ok (.getfield 18, 3) := by decide +kernel
theorem dX5_readHas_4 : decode cX5_readHas 4 = .ok (.invokevirtual 34, 3) := by decide +kernel
theorem dX5_readHas_7 : decode cX5_readHas 7 = .ok (.pop, 1) := by decide +kernel
theorem dX5_readHas_8 : decode cX5_readHas 8 = .ok (.aload_n 0, 1) := by decide +kernel
theorem dX5_readHas_9 : decode cX5_readHas 9 = .ok (.getfield 18, 3) := by decide +kernel
theorem dX5_readHas_12 : decode cX5_readHas 12 = .ok (.getfield 45, 3) := by decide +kernel
theorem dX5_readHas_15 : decode cX5_readHas 15 = .ok (.istore_n 1, 1) := by decide +kernel
theorem dX5_readHas_16 : decode cX5_readHas 16 = .ok (.aload_n 0, 1) := by decide +kernel
theorem dX5_readHas_17 : decode cX5_readHas 17 = .ok (.getfield 18, 3) := by decide +kernel
theorem dX5_readHas_20 : decode cX5_readHas 20 = .ok (.iconst 0, 1) := by decide +kernel
theorem dX5_readHas_21 : decode cX5_readHas 21 = .ok (.aload_n 0, 1) := by decide +kernel
theorem dX5_readHas_22 : decode cX5_readHas 22 = .ok (.getfield 12, 3) := by decide +kernel
theorem dX5_readHas_25 : decode cX5_readHas 25 = .ok (.getfield 81, 3) := by decide +kernel
theorem dX5_readHas_28 : decode cX5_readHas 28 = .ok (.iconst 1, 1) := by decide +kernel
theorem dX5_readHas_29 : decode cX5_readHas 29 = .ok (.isub, 1) := by decide +kernel
theorem dX5_readHas_30 : decode cX5_readHas 30 = .ok (.invokevirtual 87, 3) := by decide +kernel
theorem dX5_readHas_33 : decode cX5_readHas 33 = .ok (.istore_n 2, 1) := by decide +kernel
theorem dX5_readHas_34 : decode cX5_readHas 34 = .ok (.iload_n 2, 1) := by decide +kernel
theorem dX5_readHas_35 : decode cX5_readHas 35 = .ok (.iconst (-1), 1) := by decide +kernel
theorem dX5_readHas_36 : decode cX5_readHas 36 = .ok (.if_icmp .ne 5, 3) := by decide +kernel
theorem dX5_readHas_39 : decode cX5_readHas 39 = .ok (.iconst 0, 1) := by decide +kernel
theorem dX5_readHas_40 : decode cX5_readHas 40 = .ok (.ireturn, 1) := by decide +kernel
theorem dX5_readHas_41 : decode cX5_readHas 41 = .ok (.aload_n 0, 1) := by decide +kernel
theorem dX5_readHas_42 : decode cX5_readHas 42 = .ok (.iload_n 2, 1) := by decide +kernel
theorem dX5_readHas_43 : decode cX5_readHas 43 = .ok (.invokevirtual 110, 3) := by decide +kernel
theorem dX5_readHas_46 : decode cX5_readHas 46 = .ok (.aload_n 0, 1) := by decide +kernel
theorem dX5_readHas_47 : decode cX5_readHas 47 = .ok (.getfield 12, 3) := by decide +kernel
theorem dX5_readHas_50 : decode cX5_readHas 50 = .ok (.getfield 91, 3) := by decide +kernel
theorem dX5_readHas_53 : decode cX5_readHas 53 = .ok (.if_icmp .lt 13, 3) := by decide +kernel
theorem dX5_readHas_56 : decode cX5_readHas 56 = .ok (.aload_n 0, 1) := by decide +kernel
theorem dX5_readHas_57 : decode cX5_readHas 57 = .ok (.getfield 18, 3) := by decide +kernel
theorem dX5_readHas_60 : decode cX5_readHas 60 = .ok (.iload_n 1, 1) := by decide +kernel
theorem dX5_readHas_61 : decode cX5_readHas 61 = .ok (.iconst 1, 1) := by decide +kernel
theorem dX5_readHas_62 : decode cX5_readHas 62 = .ok (.invokevirtual 49, 3) := by decide +kernel
theorem dX5_readHas_65 : decode cX5_readHas 65 = .ok (.ireturn, 1) := by decide +kernel
theorem dX5_readHas_66 : decode cX5_readHas 66 = .ok (.aload_n 0, 1) := by decide +kernel
theorem dX5_readHas_67 : decode cX5_readHas 67 = .ok (.getfield 18, 3) := by decide +kernel
theorem dX5_readHas_70 : decode cX5_readHas 70 = .ok (.invokevirtual 34, 3) := by decide +kernel
theorem dX5_readHas_73 : decode cX5_readHas 73 = .ok (.pop, 1) := by decide +kernel
theorem dX5_readHas_74 : decode cX5_readHas 74 = .ok (.aload_n 0, 1) := by decide +kernel
theorem dX5_readHas_75 : decode cX5_readHas 75 = .ok (.getfield 18, 3) := by decide +kernel
theorem dX5_readHas_78 : decode cX5_readHas 78 = .ok (.getfield 45, 3) := by decide +kernel
theorem dX5_readHas_81 : decode cX5_readHas 81 = .ok (.istore_n 3, 1) := by decide +kernel
theorem dX5_readHas_82 : decode cX5_readHas 82 = .ok (.aload_n 0, 1) := by decide +kernel
theorem dX5_readHas_83 : decode cX5_readHas 83 = .ok (.getfield 18, 3) := by decide +kernel
theorem dX5_readHas_86 : decode cX5_readHas 86 = .ok (.iconst 0, 1) := by decide +kernel
theorem dX5_readHas_87 : decode cX5_readHas 87 = .ok (.aload_n 0, 1) := by decide +kernel
theorem dX5_readHas_88 : decode cX5_readHas 88 = .ok (.getfield 12, 3) := by decide +kernel
theorem dX5_readHas_91 : decode cX5_readHas 91 = .ok (.getfield 84, 3) := by decide +kernel
theorem dX5_readHas_94 : decode cX5_readHas 94 = .ok (.iconst 1, 1) := by decide +kernel
theorem dX5_readHas_95 : decode cX5_readHas 95 = .ok (.isub, 1) := by decide +kernel
theorem dX5_readHas_96 : decode cX5_readHas 96 = .ok (.invokevirtual 87, 3) := by decide +kernel
theorem dX5_readHas_99 : decode cX5_readHas 99 = .ok (.istore 4, 2) := by decide +kernel
theorem dX5_readHas_101 : decode cX5_readHas 101 = .ok (.iload 4, 2) := by decide +kernel
theorem dX5_readHas_103 : decode cX5_readHas 103 = .ok (.iconst (-1), 1) := by decide +kernel
theorem dX5_readHas_104 : decode cX5_readHas 104 = .ok (.if_icmp .ne 5, 3) := by decide +kernel
theorem dX5_readHas_107 : decode cX5_readHas 107 = .ok (.iconst 0, 1) := by decide +kernel
theorem dX5_readHas_108 : decode cX5_readHas 108 = .ok (.ireturn, 1) := by decide +kernel
theorem dX5_readHas_109 : decode cX5_readHas 109 = .ok (.aload_n 0, 1) := by decide +kernel
theorem dX5_readHas_110 : decode cX5_readHas 110 = .ok (.getfield 12, 3) := by decide +kernel
theorem dX5_readHas_113 : decode cX5_readHas 113 = .ok (.getfield 107, 3) := by decide +kernel
theorem dX5_readHas_116 : decode cX5_readHas 116 = .ok (.iload 4, 2) := by decide +kernel
theorem dX5_readHas_118 : decode cX5_readHas 118 = .ok (.iaload, 1) := by decide +kernel
theorem dX5_readHas_119 : decode cX5_readHas 119 = .ok (.bipush 10, 2) := by decide +kernel
theorem dX5_readHas_121 : decode cX5_readHas 121 = .ok (.if_icmp .eq 13, 3) := by decide +kernel
theorem dX5_readHas_124 : decode cX5_readHas 124 = .ok (.aload_n 0, 1) := by decide +kernel
theorem dX5_readHas_125 : decode cX5_readHas 125 = .ok (.getfield 18, 3) := by decide +kernel
theorem dX5_readHas_128 : decode cX5_readHas 128 = .ok (.iload_n 3, 1) := by decide +kernel
theorem dX5_readHas_129 : decode cX5_readHas 129 = .ok (.iconst 1, 1) := by decide +kernel
theorem dX5_readHas_130 : decode cX5_readHas 130 = .ok (.invokevirtual 49, 3) := by decide +kernel
theorem dX5_readHas_133 : decode cX5_readHas 133 = .ok (.ireturn, 1) := by decide +kernel
theorem dX5_readHas_134 : decode cX5_readHas 134 = .ok (.aload_n 0, 1) := by decide +kernel
theorem dX5_readHas_135 : decode cX5_readHas 135 = .ok (.getfield 12, 3) := by decide +kernel
theorem dX5_readHas_138 : decode cX5_readHas 138 = .ok (.getfield 107, 3) := by decide +kernel
theorem dX5_readHas_141 : decode cX5_readHas 141 = .ok (.iload 4, 2) := by decide +kernel
theorem dX5_readHas_143 : decode cX5_readHas 143 = .ok (.iload_n 2, 1) := by decide +kernel
theorem dX5_readHas_144 : decode cX5_readHas 144 = .ok (.iastore, 1) := by decide +kernel
theorem dX5_readHas_145 : decode cX5_readHas 145 = .ok (.iconst 1, 1) := by decide +kernel
theorem dX5_readHas_146 : decode cX5_readHas 146 = .ok (.ireturn, 1) := by decide +kernel
theorem dX5_manyOf_0 : decode cX5_manyOf 0 = .ok (.iconst 0, 1) := by decide +kernel
theorem dX5_manyOf_1 : decode cX5_manyOf 1 = .ok (.istore_n 2, 1) := by decide +kernel
theorem dX5_manyOf_2 : decode cX5_manyOf 2 = .ok (.aload_n 0, 1) := by decide +kernel
theorem dX5_manyOf_3 : decode cX5_manyOf 3 = .ok (.getfield 12, 3) := by decide +kernel
theorem dX5_manyOf_6 : decode cX5_manyOf 6 = .ok (.getfield 107, 3) := by decide +kernel
theorem dX5_manyOf_9 : decode cX5_manyOf 9 = .ok (.astore_n 3, 1) := by decide +kernel
theorem dX5_manyOf_10 : decode cX5_manyOf 10 = .ok (.aload_n 3, 1) := by decide +kernel
theorem dX5_manyOf_11 : decode cX5_manyOf 11 = .ok (.arraylength, 1) := by decide +kernel
theorem dX5_manyOf_12 : decode cX5_manyOf 12 = .ok (.istore 4, 2) := by decide +kernel
theorem dX5_manyOf_14 : decode cX5_manyOf 14 = .ok (.iconst 0, 1) := by decide +kernel
theorem dX5_manyOf_15 : decode cX5_manyOf 15 = .ok (.istore 5, 2) := by decide +kernel
theorem dX5_manyOf_17 : decode cX5_manyOf 17 = .ok (.iload 5, 2) := by decide +kernel
theorem dX5_manyOf_19 : decode cX5_manyOf 19 = .ok (.iload 4, 2) := by decide +kernel
theorem dX5_manyOf_21 : decode cX5_manyOf 21 = .ok (.if_icmp .ge 24, 3) := by decide +kernel
theorem dX5_manyOf_24 : decode cX5_manyOf 24 = .ok (.aload_n 3, 1) := by decide +kernel
theorem dX5_manyOf_25 : decode cX5_manyOf 25 = .ok (.iload 5, 2) := by decide +kernel
theorem dX5_manyOf_27 : decode cX5_manyOf 27 = .ok (.iaload, 1) := by decide +kernel
theorem dX5_manyOf_28 : decode cX5_manyOf 28 = .ok (.istore 6, 2) := by decide +kernel
theorem dX5_manyOf_30 : decode cX5_manyOf 30 = .ok (.iload 6, 2) := by decide +kernel
theorem dX5_manyOf_32 : decode cX5_manyOf 32 = .ok (.iload_n 1, 1) := by decide +kernel
theorem dX5_manyOf_33 : decode cX5_manyOf 33 = .ok (.if_icmp .ne 6, 3) := by decide +kernel
theorem dX5_manyOf_36 : decode cX5_manyOf 36 = .ok (.iinc 2 1, 3) := by decide +kernel
theorem dX5_manyOf_39 : decode cX5_manyOf 39 = .ok (.iinc 5 1, 3) := by decide +kernel
theorem dX5_manyOf_42 : decode cX5_manyOf 42 = .ok (.goto (-25), 3) := by decide +kernel
theorem dX5_manyOf_45 : decode cX5_manyOf 45 = .ok (.iload_n 2, 1) := by decide +kernel
theorem dX5_manyOf_46 : decode cX5_manyOf 46 = .ok (.ireturn, 1) := by decide +kernel
theorem dX6_init_0 : decode cX6_init 0 = .ok (.aload_n 0, 1) := by decide +kernel
theorem dX6_init_1 : decode cX6_init 1 = .ok (.invokespecial 1, 3) := by decide +kernel
theorem dX6_init_4 : decode cX6_init 4 = .ok (.aload_n 0, 1) := by decide +kernel
theorem dX6_init_5 : decode cX6_init 5 = .ok (.sipush 400, 3) := by decide +kernel
theorem dX6_init_8 : decode cX6_init 8 = .ok (.newarray .int, 2) := by decide +kernel
theorem dX6_init_10 : decode cX6_init 10 = .ok (.putfield 9, 3) := by decide +kernel
theorem dX6_init_13 : decode cX6_init 13 = .ok (.aload_n 0, 1) := by decide +kernel
theorem dX6_init_14 : decode cX6_init 14 = .ok (.bipush 64, 2) := by decide +kernel
theorem dX6_init_16 : decode cX6_init 16 = .ok (.newarray .long, 2) := by decide +kernel
theorem dX6_init_18 : decode cX6_init 18 = .ok (.putfield 15, 3) := by decide +kernel
theorem dX6_init_21 : decode cX6_init 21 = .ok (.return_, 1) := by decide +kernel
theorem dX6_clear_0 : decode cX6_clear 0 = .ok (.aload_n 0, 1) := by decide +kernel
theorem dX6_clear_1 : decode cX6_clear 1 = .ok (.iconst 0, 1) := by decide +kernel
theorem dX6_clear_2 : decode cX6_clear 2 = .ok (.putfield 19, 3) := by decide +kernel
theorem dX6_clear_5 : decode cX6_clear 5 = .ok (.return_, 1) := by decide +kernel
theorem dX6_add_0 : decode cX6_add 0 = .ok (.aload_n 0, 1) := by decide +kernel
theorem dX6_add_1 : decode cX6_add 1 = .ok (.getfield 19, 3) := by decide +kernel
theorem dX6_add_4 : decode cX6_add 4 = .ok (.aload_n 0, 1) := by decide +kernel
theorem dX6_add_5 : decode cX6_add 5 = .ok (.getfield 9, 3) := by decide +kernel
theorem dX6_add_8 : decode cX6_add 8 = .ok (.arraylength, 1) := by decide +kernel
theorem dX6_add_9 : decode cX6_add 9 = .ok (.if_icmp .ge 23, 3) := by decide +kernel
theorem dX6_add_12 : decode cX6_add 12 = .ok (.aload_n 0, 1) := by decide +kernel
theorem dX6_add_13 : decode cX6_add 13 = .ok (.getfield 9, 3) := by decide +kernel
theorem dX6_add_16 : decode cX6_add 16 = .ok (.aload_n 0, 1) := by decide +kernel
theorem dX6_add_17 : decode cX6_add 17 = .ok (.getfield 19, 3) := by decide +kernel
theorem dX6_add_20 : decode cX6_add 20 = .ok (.iload_n 1, 1) := by decide +kernel
theorem dX6_add_21 : decode cX6_add 21 = .ok (.iastore, 1) := by decide +kernel
theorem dX6_add_22 : decode cX6_add 22 = .ok (.aload_n 0, 1) := by decide +kernel
theorem dX6_add_23 : decode cX6_add 23 = .ok (.dup, 1) := by decide +kernel
theorem dX6_add_24 : decode cX6_add 24 = .ok (.getfield 19, 3) := by decide +kernel
theorem dX6_add_27 : decode cX6_add 27 = .ok (.iconst 1, 1) := by decide +kernel
theorem dX6_add_28 : decode cX6_add 28 = .ok (.iadd, 1) := by decide +kernel
theorem dX6_add_29 : decode cX6_add 29 = .ok (.putfield 19, 3) := by decide +kernel
theorem dX6_add_32 : decode cX6_add 32 = .ok (.return_, 1) := by decide +kernel
theorem dX6_sum_0 : decode cX6_sum 0 = .ok (.aload_n 0, 1) := by decide +kernel
theorem dX6_sum_1 : decode cX6_sum 1 = .ok (.iconst 0, 1) := by decide +kernel
theorem dX6_sum_2 : decode cX6_sum 2 = .ok (.putfield 23, 3) := by decide +kernel
theorem dX6_sum_5 : decode cX6_sum 5 = .ok (.iconst 0, 1) := by decide +kernel
theorem dX6_sum_6 : decode cX6_sum 6 = .ok (.istore_n 2, 1) := by decide +kernel
theorem dX6_sum_7 : decode cX6_sum 7 = .ok (.iload_n 2, 1) := by decide +kernel
theorem dX6_sum_8 : decode cX6_sum 8 = .ok (.aload_n 0, 1) := by decide +kernel
theorem dX6_sum_9 : decode cX6_sum 9 = .ok (.getfield 19, 3) := by decide +kernel
theorem dX6_sum_12 : decode cX6_sum 12 = .ok (.if_icmp .ge 169, 3) := by decide +kernel
theorem dX6_sum_15 : decode cX6_sum 15 = .ok (.iload_n 2, 1) := by decide +kernel
theorem dX6_sum_16 : decode cX6_sum 16 = .ok (.aload_n 0, 1) := by decide +kernel
theorem dX6_sum_17 : decode cX6_sum 17 = .ok (.getfield 9, 3) := by decide +kernel
theorem dX6_sum_20 : decode cX6_sum 20 = .ok (.arraylength, 1) := by decide +kernel
theorem dX6_sum_21 : decode cX6_sum 21 = .ok (.if_icmp .ge 160, 3) := by decide +kernel
theorem dX6_sum_24 : decode cX6_sum 24 = .ok (.aload_n 0, 1) := by decide +kernel
theorem dX6_sum_25 : decode cX6_sum 25 = .ok (.getfield 9, 3) := by decide +kernel
theorem dX6_sum_28 : decode cX6_sum 28 = .ok (.iload_n 2, 1) := by decide +kernel
theorem dX6_sum_29 : decode cX6_sum 29 = .ok (.iaload, 1) := by decide +kernel
theorem dX6_sum_30 : decode cX6_sum 30 = .ok (.istore_n 3, 1) := by decide +kernel
theorem dX6_sum_31 : decode cX6_sum 31 = .ok (.iload_n 3, 1) := by decide +kernel
theorem dX6_sum_32 : decode cX6_sum 32 = .ok (.ifCond .lt 12, 3) := by decide +kernel
theorem dX6_sum_35 : decode cX6_sum 35 = .ok (.aload_n 0, 1) := by decide +kernel
theorem dX6_sum_36 : decode cX6_sum 36 = .ok (.iload_n 3, 1) := by decide +kernel
theorem dX6_sum_37 : decode cX6_sum 37 = .ok (.i2l, 1) := by decide +kernel
theorem dX6_sum_38 : decode cX6_sum 38 = .ok (.invokevirtual 26, 3) := by decide +kernel
theorem dX6_sum_41 : decode cX6_sum 41 = .ok (.goto 134, 3) := by decide +kernel
theorem dX6_sum_44 : decode cX6_sum 44 = .ok (.iload_n 3, 1) := by decide +kernel
theorem dX6_sum_45 : decode cX6_sum 45 = .ok (.bipush (-13), 2) := by decide +kernel
theorem dX6_sum_47 : decode cX6_sum 47 = .ok (.if_icmp .le 31, 3) := by decide +kernel
theorem dX6_sum_50 : decode cX6_sum 50 = .ok (.iconst (-1), 1) := by decide +kernel
theorem dX6_sum_51 : decode cX6_sum 51 = .ok (.iload_n 3, 1) := by decide +kernel
theorem dX6_sum_52 : decode cX6_sum 52 = .ok (.isub, 1) := by decide +kernel
theorem dX6_sum_53 : decode cX6_sum 53 = .ok (.istore 4, 2) := by decide +kernel
theorem dX6_sum_55 : decode cX6_sum 55 = .ok (.aload_n 0, 1) := by decide +kernel
theorem dX6_sum_56 : decode cX6_sum 56 = .ok (.iload 4, 2) := by decide +kernel
theorem dX6_sum_58 : decode cX6_sum 58 = .ok (.aload_n 1, 1) := by decide +kernel
theorem dX6_sum_59 : decode cX6_sum 59 = .ok (.arraylength, 1) := by decide +kernel
theorem dX6_sum_60 : decode cX6_sum 60 = .ok (.if_icmp .ge 11, 3) := by decide +kernel
theorem dX6_sum_63 : decode cX6_sum 63 = .ok (.aload_n 1, 1) := by decide +kernel
theorem dX6_sum_64 : decode cX6_sum 64 = .ok (.iload 4, 2) := by decide +kernel
theorem dX6_sum_66 : decode cX6_sum 66 = .ok (.iaload, 1) := by decide +kernel
theorem dX6_sum_67 : decode cX6_sum 67 = .ok (.i2l, 1) := by decide +kernel
theorem dX6_sum_68 : decode cX6_sum 68 = .ok (.goto 4, 3) := by decide +kernel
theorem dX6_sum_71 : decode cX6_sum 71 = .ok (.lconst 0, 1) := by decide +kernel
theorem dX6_sum_72 : decode cX6_sum 72 = .ok (.invokevirtual 26, 3) := by decide +kernel
theorem dX6_sum_75 : decode cX6_sum 75 = .ok (.goto 100, 3) := by decide +kernel
theorem dX6_sum_78 : decode cX6_sum 78 = .ok (.iload_n 3, 1) := by decide +kernel
theorem dX6_sum_79 : decode cX6_sum 79 = .ok (.bipush (-34), 2) := by decide +kernel
theorem dX6_sum_81 : decode cX6_sum 81 = .ok (.if_icmp .ne 8, 3) := by decide +kernel
theorem dX6_sum_84 : decode cX6_sum 84 = .ok (.aload_n 0, 1) := by decide +kernel
theorem dX6_sum_85 : decode cX6_sum 85 = .ok (.invokevirtual 30, 3) := by decide +kernel
theorem dX6_sum_88 : decode cX6_sum 88 = .ok (.lreturn, 1) := by decide +kernel
theorem dX6_sum_89 : decode cX6_sum 89 = .ok (.iload_n 3, 1) := by decide +kernel
theorem dX6_sum_90 : decode cX6_sum 90 = .ok (.bipush (-35), 2) := by decide +kernel
theorem dX6_sum_92 : decode cX6_sum 92 = .ok (.if_icmp .ne 36, 3) := by decide +kernel
theorem dX6_sum_95 : decode cX6_sum 95 = .ok (.aload_n 0, 1) := by decide +kernel
theorem dX6_sum_96 : decode cX6_sum 96 = .ok (.invokevirtual 30, 3) := by decide +kernel
theorem dX6_sum_99 : decode cX6_sum 99 = .ok (.lconst 0, 1) := by decide +kernel
theorem dX6_sum_100 : decode cX6_sum 100 = .ok (.lcmp, 1) := by decide +kernel
theorem dX6_sum_101 : decode cX6_sum 101 = .ok (.ifCond .eq 7, 3) := by decide +kernel
theorem dX6_sum_104 : decode cX6_sum 104 = .ok (.iconst 1, 1) := by decide +kernel
theorem dX6_sum_105 : decode cX6_sum 105 = .ok (.goto 4, 3) := by decide +kernel
theorem dX6_sum_108 : decode cX6_sum 108 = .ok (.iconst 0, 1) := by decide +kernel
theorem dX6_sum_109 : decode cX6_sum 109 = .ok (.istore 4, 2) := by decide +kernel
theorem dX6_sum_111 : decode cX6_sum 111 = .ok (.aload_n 0, 1) := by decide +kernel
theorem dX6_sum_112 : decode cX6_sum 112 = .ok (.invokevirtual 30, 3) := by decide +kernel
theorem dX6_sum_115 : decode cX6_sum 115 = .ok (.lstore 5, 2) := by decide +kernel
theorem dX6_sum_117 : decode cX6_sum 117 = .ok (.iload 4, 2) := by decide +kernel
theorem dX6_sum_119 : decode cX6_sum 119 = .ok (.ifCond .eq 6, 3) := by decide +kernel
theorem dX6_sum_122 : decode cX6_sum 122 = .ok (.lload 5, 2) := by decide +kernel
theorem dX6_sum_124 : decode cX6_sum 124 = .ok (.lreturn, 1) := by decide +kernel
theorem dX6_sum_125 : decode cX6_sum 125 = .ok (.goto 50, 3) := by decide +kernel
theorem dX6_sum_128 : decode cX6_sum 128 = .ok (.iload_n 3, 1) := by decide +kernel
theorem dX6_sum_129 : decode cX6_sum 129 = .ok (.bipush (-33), 2) := by decide +kernel
theorem dX6_sum_131 : decode cX6_sum 131 = .ok (.if_icmp .ne 24, 3) := by decide +kernel
theorem dX6_sum_134 : decode cX6_sum 134 = .ok (.aload_n 0, 1) := by decide +kernel
theorem dX6_sum_135 : decode cX6_sum 135 = .ok (.aload_n 0, 1) := by decide +kernel
theorem dX6_sum_136 : decode cX6_sum 136 = .ok (.invokevirtual 30, 3) := by decide +kernel
theorem dX6_sum_139 : decode cX6_sum 139 = .ok (.lconst 0, 1) := by decide +kernel
theorem dX6_sum_140 : decode cX6_sum 140 = .ok (.lcmp, 1) := by decide +kernel
theorem dX6_sum_141 : decode cX6_sum 141 = .ok (.ifCond .ne 7, 3) := by decide +kernel
theorem dX6_sum_144 : decode cX6_sum 144 = .ok (.lconst 1, 1) := by decide +kernel
theorem dX6_sum_145 : decode cX6_sum 145 = .ok (.goto 4, 3) := by decide +kernel
theorem dX6_sum_148 : decode cX6_sum 148 = .ok (.lconst 0, 1) := by decide +kernel
theorem dX6_sum_149 : decode cX6_sum 149 = .ok (.invokevirtual 26, 3) := by decide +kernel
theorem dX6_sum_152 : decode cX6_sum 152 = .ok (.goto 23, 3) := by decide +kernel
theorem dX6_sum_155 : decode cX6_sum 155 = .ok (.aload_n 0, 1) := by decide +kernel
theorem dX6_sum_156 : decode cX6_sum 156 = .ok (.invokevirtual 30, 3) := by decide +kernel
theorem dX6_sum_159 : decode cX6_sum 159 = .ok (.lstore 4, 2) := by decide +kernel
theorem dX6_sum_161 : decode cX6_sum 161 = .ok (.aload_n 0, 1) := by decide +kernel
theorem dX6_sum_162 : decode cX6_sum 162 = .ok (.iload_n 3, 1) := by decide +kernel
theorem dX6_sum_163 : decode cX6_sum 163 = .ok (.aload_n 0, 1) := by decide +kernel
theorem dX6_sum_164 : decode cX6_sum 164 = .ok (.invokevirtual 30, 3) := by decide +kernel
theorem dX6_sum_167 : decode cX6_sum 167 = .ok (.lload 4, 2) := by decide +kernel
theorem dX6_sum_169 : decode cX6_sum 169 = .ok (.invokestatic 34, 3) := by decide +kernel
theorem dX6_sum_172 : decode cX6_sum 172 = .ok (.invokevirtual 26, 3) := by decide +kernel
theorem dX6_sum_175 : decode cX6_sum 175 = .ok (.iinc 2 1, 3) := by decide +kernel
theorem dX6_sum_178 : decode cX6_sum 178 = .ok (.goto (-171), 3) := by decide +kernel
theorem dX6_sum_181 : decode cX6_sum 181 = .ok (.lconst 0, 1) := by decide +kernel
theorem dX6_sum_182 : decode cX6_sum 182 = .ok (.lreturn, 1) := by decide +kernel
theorem dX6_push_0 : decode cX6_push 0 = .ok (.aload_n 0, 1) := by decide +kernel
theorem dX6_push_1 : decode cX6_push 1 = .ok (.getfield 23, 3) := by decide +kernel
theorem dX6_push_4 : decode cX6_push 4 = .ok (.bipush 64, 2) := by decide +kernel
theorem dX6_push_6 : decode cX6_push 6 = .ok (.if_icmp .ge 23, 3) := by decide +kernel
theorem dX6_push_9 : decode cX6_push 9 = .ok (.aload_n 0, 1) := by decide +kernel
theorem dX6_push_10 : decode cX6_push 10 = .ok (.getfield 15, 3) := by decide +kernel
theorem dX6_push_13 : decode cX6_push 13 = .ok (.aload_n 0, 1) := by decide +kernel
theorem dX6_push_14 : decode cX6_push 14 = .ok (.getfield 23, 3) := by decide +kernel
theorem dX6_push_17 : decode cX6_push 17 = .ok (.lload_n 1, 1) := by decide +kernel
theorem dX6_push_18 : decode cX6_push 18 = .ok (.lastore, 1) := by decide +kernel
theorem dX6_push_19 : decode cX6_push 19 = .ok (.aload_n 0, 1) := by decide +kernel
theorem dX6_push_20 : decode cX6_push 20 = .ok (.dup, 1) := by decide +kernel
theorem dX6_push_21 : decode cX6_push 21 = .ok (.getfield 23, 3) := by decide +kernel
theorem dX6_push_24 : decode cX6_push 24 = .ok (.iconst 1, 1) := by decide +kernel
theorem dX6_push_25 : decode cX6_push 25 = .ok (.iadd, 1) := by decide +kernel
theorem dX6_push_26 : decode cX6_push 26 = .ok (.putfield 23, 3) := by decide +kernel
theorem dX6_push_29 : decode cX6_push 29 = .ok (.return_, 1) := by decide +kernel
theorem dX6_pop_0 : decode cX6_pop 0 = .ok (.aload_n 0, 1) := by decide +kernel
theorem dX6_pop_1 : decode cX6_pop 1 = .ok (.getfield 23, 3) := by decide +kernel
theorem dX6_pop_4 : decode cX6_pop 4 = .ok (.iconst 1, 1) := by decide +kernel
theorem dX6_pop_5 : decode cX6_pop 5 = .ok (.if_icmp .ge 5, 3) := by decide +kernel
theorem dX6_pop_8 : decode cX6_pop 8 = .ok (.lconst 0, 1) := by decide +kernel
theorem dX6_pop_9 : decode cX6_pop 9 = .ok (.lreturn, 1) := by decide +kernel
theorem dX6_pop_10 : decode cX6_pop 10 = .ok (.aload_n 0, 1) := by decide +kernel
theorem dX6_pop_11 : decode cX6_pop 11 = .ok (.dup, 1) := by decide +kernel
theorem dX6_pop_12 : decode cX6_pop 12 = .ok (.getfield 23, 3) := by decide +kernel
theorem dX6_pop_15 : decode cX6_pop 15 = .ok (.iconst 1, 1) := by decide +kernel
theorem dX6_pop_16 : decode cX6_pop 16 = .ok (.isub, 1) := by decide +kernel
theorem dX6_pop_17 : decode cX6_pop 17 = .ok (.putfield 23, 3) := by decide +kernel
theorem dX6_pop_20 : decode cX6_pop 20 = .ok (.aload_n 0, 1) := by decide +kernel
theorem dX6_pop_21 : decode cX6_pop 21 = .ok (.getfield 15, 3) := by decide +kernel
theorem dX6_pop_24 : decode cX6_pop 24 = .ok (.aload_n 0, 1) := by decide +kernel
theorem dX6_pop_25 : decode cX6_pop 25 = .ok (.getfield 23, 3) := by decide +kernel
theorem dX6_pop_28 : decode cX6_pop 28 = .ok (.laload, 1) := by decide +kernel
theorem dX6_pop_29 : decode cX6_pop 29 = .ok (.lreturn, 1) := by decide +kernel
theorem dX6_ofTwo_0 : decode cX6_ofTwo 0 = .ok (.iload_n 0, 1) := by decide +kernel
theorem dX6_ofTwo_1 : decode cX6_ofTwo 1 = .ok (.tableswitch 171 (-32) (-21) #[167, 163, 151, 139, 127, 115, 103, 89, 75, 71, 67, 63], 63) := by decide +kernel
theorem dX6_ofTwo_64 : decode cX6_ofTwo 64 = .ok (.lload_n 1, 1) := by decide +kernel
theorem dX6_ofTwo_65 : decode cX6_ofTwo 65 = .ok (.lload_n 3, 1) := by decide +kernel
theorem dX6_ofTwo_66 : decode cX6_ofTwo 66 = .ok (.ladd, 1) := by decide +kernel
theorem dX6_ofTwo_67 : decode cX6_ofTwo 67 = .ok (.lreturn, 1) := by decide +kernel
theorem dX6_ofTwo_68 : decode cX6_ofTwo 68 = .ok (.lload_n 1, 1) := by decide +kernel
theorem dX6_ofTwo_69 : decode cX6_ofTwo 69 = .ok (.lload_n 3, 1) := by decide +kernel
theorem dX6_ofTwo_70 : decode cX6_ofTwo 70 = .ok (.lsub, 1) := by decide +kernel
theorem dX6_ofTwo_71 : decode cX6_ofTwo 71 = .ok (.lreturn, 1) := by decide +kernel
theorem dX6_ofTwo_72 : decode cX6_ofTwo 72 = .ok (.lload_n 1, 1) := by decide +kernel
theorem dX6_ofTwo_73 : decode cX6_ofTwo 73 = .ok (.lload_n 3, 1) := by decide +kernel
theorem dX6_ofTwo_74 : decode cX6_ofTwo 74 = .ok (.lmul, 1) := by decide +kernel
theorem dX6_ofTwo_75 : decode cX6_ofTwo 75 = .ok (.lreturn, 1) := by decide +kernel
theorem dX6_ofTwo_76 : decode cX6_ofTwo 76 = .ok (.lload_n 3, 1) := by decide +kernel
theorem dX6_ofTwo_77 : decode cX6_ofTwo 77 = .ok (.lconst 0, 1) := by decide +kernel
theorem dX6_ofTwo_78 : decode cX6_ofTwo 78 = .ok (.lcmp, 1) := by decide +kernel
theorem dX6_ofTwo_79 : decode cX6_ofTwo 79 = .ok (.ifCond .ne 7, 3) := by decide +kernel
theorem dX6_ofTwo_82 : decode cX6_ofTwo 82 = .ok (.lconst 0, 1) := by decide +kernel
theorem dX6_ofTwo_83 : decode cX6_ofTwo 83 = .ok (.goto 6, 3) := by decide +kernel
theorem dX6_ofTwo_86 : decode cX6_ofTwo 86 = .ok (.lload_n 1, 1) := by decide +kernel
theorem dX6_ofTwo_87 : decode cX6_ofTwo 87 = .ok (.lload_n 3, 1) := by decide +kernel
theorem dX6_ofTwo_88 : decode cX6_ofTwo 88 = .ok (.ldiv, 1) := by decide +kernel
theorem dX6_ofTwo_89 : decode cX6_ofTwo 89 = .ok (.lreturn, 1) := by decide +kernel
theorem dX6_ofTwo_90 : decode cX6_ofTwo 90 = .ok (.lload_n 3, 1) := by decide +kernel
theorem dX6_ofTwo_91 : decode cX6_ofTwo 91 = .ok (.lconst 0, 1) := by decide +kernel
theorem dX6_ofTwo_92 : decode cX6_ofTwo 92 = .ok (.lcmp, 1) := by decide +kernel
theorem dX6_ofTwo_93 : decode cX6_ofTwo 93 = .ok (.ifCond .ne 7, 3) := by decide +kernel
theorem dX6_ofTwo_96 : decode cX6_ofTwo 96 = .ok (.lconst 0, 1) := by decide +kernel
theorem dX6_ofTwo_97 : decode cX6_ofTwo 97 = .ok (.goto 6, 3) := by decide +kernel
theorem dX6_ofTwo_100 : decode cX6_ofTwo 100 = .ok (.lload_n 1, 1) := by decide +kernel
theorem dX6_ofTwo_101 : decode cX6_ofTwo 101 = .ok (.lload_n 3, 1) := by decide +kernel
theorem dX6_ofTwo_102 : decode cX6_ofTwo 102 = .ok (.lrem, 1) := by decide +kernel
theorem dX6_ofTwo_103 : decode cX6_ofTwo 103 = .ok (.lreturn, 1) := by decide +kernel
theorem dX6_ofTwo_104 : decode cX6_ofTwo 104 = .ok (.lload_n 1, 1) := by decide +kernel
theorem dX6_ofTwo_105 : decode cX6_ofTwo 105 = .ok (.lload_n 3, 1) := by decide +kernel
theorem dX6_ofTwo_106 : decode cX6_ofTwo 106 = .ok (.lcmp, 1) := by decide +kernel
theorem dX6_ofTwo_107 : decode cX6_ofTwo 107 = .ok (.ifCond .ge 7, 3) := by decide +kernel
theorem dX6_ofTwo_110 : decode cX6_ofTwo 110 = .ok (.lconst 1, 1) := by decide +kernel
theorem dX6_ofTwo_111 : decode cX6_ofTwo 111 = .ok (.goto 4, 3) := by decide +kernel
theorem dX6_ofTwo_114 : decode cX6_ofTwo 114 = .ok (.lconst 0, 1) := by decide +kernel
theorem dX6_ofTwo_115 : decode cX6_ofTwo 115 = .ok (.lreturn, 1) := by decide +kernel
theorem dX6_ofTwo_116 : decode cX6_ofTwo 116 = .ok (.lload_n 1, 1) := by decide +kernel
theorem dX6_ofTwo_117 : decode cX6_ofTwo 117 = .ok (.lload_n 3, 1) := by decide +kernel
theorem dX6_ofTwo_118 : decode cX6_ofTwo 118 = .ok (.lcmp, 1) := by decide +kernel
theorem dX6_ofTwo_119 : decode cX6_ofTwo 119 = .ok (.ifCond .gt 7, 3) := by decide +kernel
theorem dX6_ofTwo_122 : decode cX6_ofTwo 122 = .ok (.lconst 1, 1) := by decide +kernel
theorem dX6_ofTwo_123 : decode cX6_ofTwo 123 = .ok (.goto 4, 3) := by decide +kernel
theorem dX6_ofTwo_126 : decode cX6_ofTwo 126 = .ok (.lconst 0, 1) := by decide +kernel
theorem dX6_ofTwo_127 : decode cX6_ofTwo 127 = .ok (.lreturn, 1) := by decide +kernel
theorem dX6_ofTwo_128 : decode cX6_ofTwo 128 = .ok (.lload_n 1, 1) := by decide +kernel
theorem dX6_ofTwo_129 : decode cX6_ofTwo 129 = .ok (.lload_n 3, 1) := by decide +kernel
theorem dX6_ofTwo_130 : decode cX6_ofTwo 130 = .ok (.lcmp, 1) := by decide +kernel
theorem dX6_ofTwo_131 : decode cX6_ofTwo 131 = .ok (.ifCond .ne 7, 3) := by decide +kernel
theorem dX6_ofTwo_134 : decode cX6_ofTwo 134 = .ok (.lconst 1, 1) := by decide +kernel
theorem dX6_ofTwo_135 : decode cX6_ofTwo 135 = .ok (.goto 4, 3) := by decide +kernel
theorem dX6_ofTwo_138 : decode cX6_ofTwo 138 = .ok (.lconst 0, 1) := by decide +kernel
theorem dX6_ofTwo_139 : decode cX6_ofTwo 139 = .ok (.lreturn, 1) := by decide +kernel
theorem dX6_ofTwo_140 : decode cX6_ofTwo 140 = .ok (.lload_n 1, 1) := by decide +kernel
theorem dX6_ofTwo_141 : decode cX6_ofTwo 141 = .ok (.lload_n 3, 1) := by decide +kernel
theorem dX6_ofTwo_142 : decode cX6_ofTwo 142 = .ok (.lcmp, 1) := by decide +kernel
theorem dX6_ofTwo_143 : decode cX6_ofTwo 143 = .ok (.ifCond .lt 7, 3) := by decide +kernel
theorem dX6_ofTwo_146 : decode cX6_ofTwo 146 = .ok (.lconst 1, 1) := by decide +kernel
theorem dX6_ofTwo_147 : decode cX6_ofTwo 147 = .ok (.goto 4, 3) := by decide +kernel
theorem dX6_ofTwo_150 : decode cX6_ofTwo 150 = .ok (.lconst 0, 1) := by decide +kernel
theorem dX6_ofTwo_151 : decode cX6_ofTwo 151 = .ok (.lreturn, 1) := by decide +kernel
theorem dX6_ofTwo_152 : decode cX6_ofTwo 152 = .ok (.lload_n 1, 1) := by decide +kernel
theorem dX6_ofTwo_153 : decode cX6_ofTwo 153 = .ok (.lload_n 3, 1) := by decide +kernel
theorem dX6_ofTwo_154 : decode cX6_ofTwo 154 = .ok (.lcmp, 1) := by decide +kernel
theorem dX6_ofTwo_155 : decode cX6_ofTwo 155 = .ok (.ifCond .le 7, 3) := by decide +kernel
theorem dX6_ofTwo_158 : decode cX6_ofTwo 158 = .ok (.lconst 1, 1) := by decide +kernel
theorem dX6_ofTwo_159 : decode cX6_ofTwo 159 = .ok (.goto 4, 3) := by decide +kernel
theorem dX6_ofTwo_162 : decode cX6_ofTwo 162 = .ok (.lconst 0, 1) := by decide +kernel
theorem dX6_ofTwo_163 : decode cX6_ofTwo 163 = .ok (.lreturn, 1) := by decide +kernel
theorem dX6_ofTwo_164 : decode cX6_ofTwo 164 = .ok (.lload_n 1, 1) := by decide +kernel
theorem dX6_ofTwo_165 : decode cX6_ofTwo 165 = .ok (.lload_n 3, 1) := by decide +kernel
theorem dX6_ofTwo_166 : decode cX6_ofTwo 166 = .ok (.land, 1) := by decide +kernel
theorem dX6_ofTwo_167 : decode cX6_ofTwo 167 = .ok (.lreturn, 1) := by decide +kernel
theorem dX6_ofTwo_168 : decode cX6_ofTwo 168 = .ok (.lload_n 1, 1) := by decide +kernel
theorem dX6_ofTwo_169 : decode cX6_ofTwo 169 = .ok (.lload_n 3, 1) := by decide +kernel
theorem dX6_ofTwo_170 : decode cX6_ofTwo 170 = .ok (.lor, 1) := by decide +kernel
theorem dX6_ofTwo_171 : decode cX6_ofTwo 171 = .ok (.lreturn, 1) := by decide +kernel
theorem dX6_ofTwo_172 : decode cX6_ofTwo 172 = .ok (.lconst 0, 1) := by decide +kernel
theorem dX6_ofTwo_173 : decode cX6_ofTwo 173 = .ok (.lreturn, 1) := by decide +kernel
theorem dX7_init_0 : decode cX7_init 0 = .ok (.aload_n 0, 1) := by decide +kernel
theorem dX7_init_1 : decode cX7_init 1 = .ok (.invokespecial 3, 3) := by decide +kernel
theorem dX7_init_4 : decode cX7_init 4 = .ok (.aload_n 0, 1) := by decide +kernel
theorem dX7_init_5 : decode cX7_init 5 = .ok (.aload_n 1, 1) := by decide +kernel
theorem dX7_init_6 : decode cX7_init 6 = .ok (.putfield 9, 3) := by decide +kernel
theorem dX7_init_9 : decode cX7_init 9 = .ok (.return_, 1) := by decide +kernel
theorem dX7_read_0 : decode cX7_read 0 = .ok (.aload_n 0, 1) := by decide +kernel
theorem dX7_read_1 : decode cX7_read 1 = .ok (.aload_n 1, 1) := by decide +kernel
theorem dX7_read_2 : decode cX7_read 2 = .ok (.putfield 15, 3) := by decide +kernel
theorem dX7_read_5 : decode cX7_read 5 = .ok (.aload_n 0, 1) := by decide +kernel
theorem dX7_read_6 : decode cX7_read 6 = .ok (.getfield 15, 3) := by decide +kernel
theorem dX7_read_9 : decode cX7_read 9 = .ok (.invokevirtual 19, 3) := by decide +kernel
theorem dX7_read_12 : decode cX7_read 12 = .ok (.aload_n 0, 1) := by decide +kernel
theorem dX7_read_13 : decode cX7_read 13 = .ok (.iconst 0, 1) := by decide +kernel
theorem dX7_read_14 : decode cX7_read 14 = .ok (.putfield 24, 3) := by decide +kernel
theorem dX7_read_17 : decode cX7_read 17 = .ok (.aload_n 0, 1) := by decide +kernel
theorem dX7_read_18 : decode cX7_read 18 = .ok (.getfield 9, 3) := by decide +kernel
theorem dX7_read_21 : decode cX7_read 21 = .ok (.invokevirtual 28, 3) := by decide +kernel
theorem dX7_read_24 : decode cX7_read 24 = .ok (.iconst 0, 1) := by decide +kernel
theorem dX7_read_25 : decode cX7_read 25 = .ok (.istore_n 2, 1) := by decide +kernel
theorem dX7_read_26 : decode cX7_read 26 = .ok (.iload_n 2, 1) := by decide +kernel
theorem dX7_read_27 : decode cX7_read 27 = .ok (.bipush 12, 2) := by decide +kernel
theorem dX7_read_29 : decode cX7_read 29 = .ok (.if_icmp .gt 158, 3) := by decide +kernel
theorem dX7_read_32 : decode cX7_read 32 = .ok (.aload_n 0, 1) := by decide +kernel
theorem dX7_read_33 : decode cX7_read 33 = .ok (.getfield 9, 3) := by decide +kernel
theorem dX7_read_36 : decode cX7_read 36 = .ok (.invokevirtual 33, 3) := by decide +kernel
theorem dX7_read_39 : decode cX7_read 39 = .ok (.pop, 1) := by decide +kernel
theorem dX7_read_40 : decode cX7_read 40 = .ok (.aload_n 0, 1) := by decide +kernel
theorem dX7_read_41 : decode cX7_read 41 = .ok (.getfield 9, 3) := by decide +kernel
theorem dX7_read_44 : decode cX7_read 44 = .ok (.getfield 37, 3) := by decide +kernel
theorem dX7_read_47 : decode cX7_read 47 = .ok (.istore_n 3, 1) := by decide +kernel
theorem dX7_read_48 : decode cX7_read 48 = .ok (.aload_n 0, 1) := by decide +kernel
theorem dX7_read_49 : decode cX7_read 49 = .ok (.getfield 9, 3) := by decide +kernel
theorem dX7_read_52 : decode cX7_read 52 = .ok (.ldc 40, 2) := by decide +kernel
theorem dX7_read_54 : decode cX7_read 54 = .ok (.invokevirtual 42, 3) := by decide +kernel
theorem dX7_read_57 : decode cX7_read 57 = .ok (.ifCond .ne 13, 3) := by decide +kernel
theorem dX7_read_60 : decode cX7_read 60 = .ok (.aload_n 0, 1) := by decide +kernel
theorem dX7_read_61 : decode cX7_read 61 = .ok (.getfield 9, 3) := by decide +kernel
theorem dX7_read_64 : decode cX7_read 64 = .ok (.iload_n 3, 1) := by decide +kernel
theorem dX7_read_65 : decode cX7_read 65 = .ok (.iconst 0, 1) := by decide +kernel
theorem dX7_read_66 : decode cX7_read 66 = .ok (.invokevirtual 46, 3) := by decide +kernel
theorem dX7_read_69 : decode cX7_read 69 = .ok (.ireturn, 1) := by decide +kernel
theorem dX7_read_70 : decode cX7_read 70 = .ok (.iload_n 2, 1) := by decide +kernel
theorem dX7_read_71 : decode cX7_read 71 = .ok (.bipush 12, 2) := by decide +kernel
theorem dX7_read_73 : decode cX7_read 73 = .ok (.if_icmp .lt 13, 3) := by decide +kernel
theorem dX7_read_76 : decode cX7_read 76 = .ok (.aload_n 0, 1) := by decide +kernel
theorem dX7_read_77 : decode cX7_read 77 = .ok (.getfield 9, 3) := by decide +kernel
theorem dX7_read_80 : decode cX7_read 80 = .ok (.iload_n 3, 1) := by decide +kernel
theorem dX7_read_81 : decode cX7_read 81 = .ok (.iconst 4, 1) := by decide +kernel
theorem dX7_read_82 : decode cX7_read 82 = .ok (.invokevirtual 46, 3) := by decide +kernel
theorem dX7_read_85 : decode cX7_read 85 = .ok (.ireturn, 1) := by decide +kernel
theorem dX7_read_86 : decode cX7_read 86 = .ok (.aload_n 0, 1) := by decide +kernel
theorem dX7_read_87 : decode cX7_read 87 = .ok (.invokevirtual 50, 3) := by decide +kernel
theorem dX7_read_90 : decode cX7_read 90 = .ok (.ifCond .ne 5, 3) := by decide +kernel
theorem dX7_read_93 : decode cX7_read 93 = .ok (.iconst 0, 1) := by decide +kernel
theorem dX7_read_94 : decode cX7_read 94 = .ok (.ireturn, 1) := by decide +kernel
theorem dX7_read_95 : decode cX7_read 95 = .ok (.aload_n 0, 1) := by decide +kernel
theorem dX7_read_96 : decode cX7_read 96 = .ok (.getfield 9, 3) := by decide +kernel
theorem dX7_read_99 : decode cX7_read 99 = .ok (.ldc 54, 2) := by decide +kernel
theorem dX7_read_101 : decode cX7_read 101 = .ok (.invokevirtual 42, 3) := by decide +kernel
theorem dX7_read_104 : decode cX7_read 104 = .ok (.istore 4, 2) := by decide +kernel
theorem dX7_read_106 : decode cX7_read 106 = .ok (.iload 4, 2) := by decide +kernel
theorem dX7_read_108 : decode cX7_read 108 = .ok (.ifCond .eq 13, 3) := by decide +kernel
theorem dX7_read_111 : decode cX7_read 111 = .ok (.aload_n 0, 1) := by decide +kernel
theorem dX7_read_112 : decode cX7_read 112 = .ok (.iconst 0, 1) := by decide +kernel
theorem dX7_read_113 : decode cX7_read 113 = .ok (.invokevirtual 56, 3) := by decide +kernel
theorem dX7_read_116 : decode cX7_read 116 = .ok (.ifCond .ne 5, 3) := by decide +kernel
theorem dX7_read_119 : decode cX7_read 119 = .ok (.iconst 0, 1) := by decide +kernel
theorem dX7_read_120 : decode cX7_read 120 = .ok (.ireturn, 1) := by decide +kernel
theorem dX7_read_121 : decode cX7_read 121 = .ok (.aload_n 0, 1) := by decide +kernel
theorem dX7_read_122 : decode cX7_read 122 = .ok (.getfield 15, 3) := by decide +kernel
theorem dX7_read_125 : decode cX7_read 125 = .ok (.iload 4, 2) := by decide +kernel
theorem dX7_read_127 : decode cX7_read 127 = .ok (.ifCond .eq 8, 3) := by decide +kernel
theorem dX7_read_130 : decode cX7_read 130 = .ok (.bipush (-35), 2) := by decide +kernel
theorem dX7_read_132 : decode cX7_read 132 = .ok (.goto 5, 3) := by decide +kernel
theorem dX7_read_135 : decode cX7_read 135 = .ok (.bipush (-34), 2) := by decide +kernel
theorem dX7_read_137 : decode cX7_read 137 = .ok (.invokevirtual 60, 3) := by decide +kernel
theorem dX7_read_140 : decode cX7_read 140 = .ok (.aload_n 0, 1) := by decide +kernel
theorem dX7_read_141 : decode cX7_read 141 = .ok (.getfield 9, 3) := by decide +kernel
theorem dX7_read_144 : decode cX7_read 144 = .ok (.invokevirtual 33, 3) := by decide +kernel
theorem dX7_read_147 : decode cX7_read 147 = .ok (.iconst (-1), 1) := by decide +kernel
theorem dX7_read_148 : decode cX7_read 148 = .ok (.if_icmp .ne 5, 3) := by decide +kernel
theorem dX7_read_151 : decode cX7_read 151 = .ok (.iconst 1, 1) := by decide +kernel
theorem dX7_read_152 : decode cX7_read 152 = .ok (.ireturn, 1) := by decide +kernel
theorem dX7_read_153 : decode cX7_read 153 = .ok (.aload_n 0, 1) := by decide +kernel
theorem dX7_read_154 : decode cX7_read 154 = .ok (.getfield 9, 3) := by decide +kernel
theorem dX7_read_157 : decode cX7_read 157 = .ok (.bipush 59, 2) := by decide +kernel
theorem dX7_read_159 : decode cX7_read 159 = .ok (.invokevirtual 64, 3) := by decide +kernel
theorem dX7_read_162 : decode cX7_read 162 = .ok (.ifCond .ne 19, 3) := by decide +kernel
theorem dX7_read_165 : decode cX7_read 165 = .ok (.aload_n 0, 1) := by decide +kernel
theorem dX7_read_166 : decode cX7_read 166 = .ok (.getfield 9, 3) := by decide +kernel
theorem dX7_read_169 : decode cX7_read 169 = .ok (.aload_n 0, 1) := by decide +kernel
theorem dX7_read_170 : decode cX7_read 170 = .ok (.getfield 9, 3) := by decide +kernel
theorem dX7_read_173 : decode cX7_read 173 = .ok (.getfield 37, 3) := by decide +kernel
theorem dX7_read_176 : decode cX7_read 176 = .ok (.iconst 0, 1) := by decide +kernel
theorem dX7_read_177 : decode cX7_read 177 = .ok (.invokevirtual 46, 3) := by decide +kernel
theorem dX7_read_180 : decode cX7_read 180 = .ok (.ireturn, 1) := by decide +kernel
theorem dX7_read_181 : decode cX7_read 181 = .ok (.iinc 2 1, 3) := by decide +kernel
theorem dX7_read_184 : decode cX7_read 184 = .ok (.goto (-158), 3) := by decide +kernel
theorem dX7_read_187 : decode cX7_read 187 = .ok (.iconst 0, 1) := by decide +kernel
theorem dX7_read_188 : decode cX7_read 188 = .ok (.ireturn, 1) := by decide +kernel
theorem dX7_readTest_0 : decode cX7_readTest 0 = .ok (.iconst 0, 1) := by decide +kernel
theorem dX7_readTest_1 : decode cX7_readTest 1 = .ok (.istore_n 2, 1) := by decide +kernel
theorem dX7_readTest_2 : decode cX7_readTest 2 = .ok (.aload_n 0, 1) := by decide +kernel
theorem dX7_readTest_3 : decode cX7_readTest 3 = .ok (.iload_n 1, 1) := by decide +kernel
theorem dX7_readTest_4 : decode cX7_readTest 4 = .ok (.invokevirtual 67, 3) := by decide +kernel
theorem dX7_readTest_7 : decode cX7_readTest 7 = .ok (.ifCond .ne 5, 3) := by decide +kernel
theorem dX7_readTest_10 : decode cX7_readTest 10 = .ok (.iconst 0, 1) := by decide +kernel
theorem dX7_readTest_11 : decode cX7_readTest 11 = .ok (.ireturn, 1) := by decide +kernel
theorem dX7_readTest_12 : decode cX7_readTest 12 = .ok (.iconst 0, 1) := by decide +kernel
theorem dX7_readTest_13 : decode cX7_readTest 13 = .ok (.istore_n 3, 1) := by decide +kernel
theorem dX7_readTest_14 : decode cX7_readTest 14 = .ok (.iload_n 3, 1) := by decide +kernel
theorem dX7_readTest_15 : decode cX7_readTest 15 = .ok (.sipush 400, 3) := by decide +kernel
theorem dX7_readTest_18 : decode cX7_readTest 18 = .ok (.if_icmp .ge 73, 3) := by decide +kernel
theorem dX7_readTest_21 : decode cX7_readTest 21 = .ok (.aload_n 0, 1) := by decide +kernel
theorem dX7_readTest_22 : decode cX7_readTest 22 = .ok (.getfield 9, 3) := by decide +kernel
theorem dX7_readTest_25 : decode cX7_readTest 25 = .ok (.ldc 70, 2) := by decide +kernel
theorem dX7_readTest_27 : decode cX7_readTest 27 = .ok (.invokevirtual 42, 3) := by decide +kernel
theorem dX7_readTest_30 : decode cX7_readTest 30 = .ok (.ifCond .eq 25, 3) := by decide +kernel
theorem dX7_readTest_33 : decode cX7_readTest 33 = .ok (.aload_n 0, 1) := by decide +kernel
theorem dX7_readTest_34 : decode cX7_readTest 34 = .ok (.iload_n 1, 1) := by decide +kernel
theorem dX7_readTest_35 : decode cX7_readTest 35 = .ok (.invokevirtual 67, 3) := by decide +kernel
theorem dX7_readTest_38 : decode cX7_readTest 38 = .ok (.ifCond .ne 5, 3) := by decide +kernel
theorem dX7_readTest_41 : decode cX7_readTest 41 = .ok (.iconst 0, 1) := by decide +kernel
theorem dX7_readTest_42 : decode cX7_readTest 42 = .ok (.ireturn, 1) := by decide +kernel
theorem dX7_readTest_43 : decode cX7_readTest 43 = .ok (.aload_n 0, 1) := by decide +kernel
theorem dX7_readTest_44 : decode cX7_readTest 44 = .ok (.getfield 15, 3) := by decide +kernel
theorem dX7_readTest_47 : decode cX7_readTest 47 = .ok (.bipush (-31), 2) := by decide +kernel
theorem dX7_readTest_49 : decode cX7_readTest 49 = .ok (.invokevirtual 60, 3) := by decide +kernel
theorem dX7_readTest_52 : decode cX7_readTest 52 = .ok (.goto 33, 3) := by decide +kernel
theorem dX7_readTest_55 : decode cX7_readTest 55 = .ok (.aload_n 0, 1) := by decide +kernel
theorem dX7_readTest_56 : decode cX7_readTest 56 = .ok (.getfield 9, 3) := by decide +kernel
theorem dX7_readTest_59 : decode cX7_readTest 59 = .ok (.ldc 72, 2) := by decide +kernel
theorem dX7_readTest_61 : decode cX7_readTest 61 = .ok (.invokevirtual 42, 3) := by decide +kernel
theorem dX7_readTest_64 : decode cX7_readTest 64 = .ok (.ifCond .eq 27, 3) := by decide +kernel
theorem dX7_readTest_67 : decode cX7_readTest 67 = .ok (.aload_n 0, 1) := by decide +kernel
theorem dX7_readTest_68 : decode cX7_readTest 68 = .ok (.iload_n 2, 1) := by decide +kernel
theorem dX7_readTest_69 : decode cX7_readTest 69 = .ok (.invokevirtual 74, 3) := by decide +kernel
theorem dX7_readTest_72 : decode cX7_readTest 72 = .ok (.bipush (-32), 2) := by decide +kernel
theorem dX7_readTest_74 : decode cX7_readTest 74 = .ok (.istore_n 2, 1) := by decide +kernel
theorem dX7_readTest_75 : decode cX7_readTest 75 = .ok (.aload_n 0, 1) := by decide +kernel
theorem dX7_readTest_76 : decode cX7_readTest 76 = .ok (.iload_n 1, 1) := by decide +kernel
theorem dX7_readTest_77 : decode cX7_readTest 77 = .ok (.invokevirtual 67, 3) := by decide +kernel
theorem dX7_readTest_80 : decode cX7_readTest 80 = .ok (.ifCond .ne 5, 3) := by decide +kernel
theorem dX7_readTest_83 : decode cX7_readTest 83 = .ok (.iconst 0, 1) := by decide +kernel
theorem dX7_readTest_84 : decode cX7_readTest 84 = .ok (.ireturn, 1) := by decide +kernel
theorem dX7_readTest_85 : decode cX7_readTest 85 = .ok (.iinc 3 1, 3) := by decide +kernel
theorem dX7_readTest_88 : decode cX7_readTest 88 = .ok (.goto (-74), 3) := by decide +kernel
theorem dX7_readTest_91 : decode cX7_readTest 91 = .ok (.aload_n 0, 1) := by decide +kernel
theorem dX7_readTest_92 : decode cX7_readTest 92 = .ok (.iload_n 2, 1) := by decide +kernel
theorem dX7_readTest_93 : decode cX7_readTest 93 = .ok (.invokevirtual 74, 3) := by decide +kernel
theorem dX7_readTest_96 : decode cX7_readTest 96 = .ok (.iconst 1, 1) := by decide +kernel
theorem dX7_readTest_97 : decode cX7_readTest 97 = .ok (.ireturn, 1) := by decide +kernel
theorem dX7_readFact_0 : decode cX7_readFact 0 = .ok (.aload_n 0, 1) := by decide +kernel
theorem dX7_readFact_1 : decode cX7_readFact 1 = .ok (.getfield 9, 3) := by decide +kernel
theorem dX7_readFact_4 : decode cX7_readFact 4 = .ok (.invokevirtual 33, 3) := by decide +kernel
theorem dX7_readFact_7 : decode cX7_readFact 7 = .ok (.pop, 1) := by decide +kernel
theorem dX7_readFact_8 : decode cX7_readFact 8 = .ok (.aload_n 0, 1) := by decide +kernel
theorem dX7_readFact_9 : decode cX7_readFact 9 = .ok (.getfield 9, 3) := by decide +kernel
theorem dX7_readFact_12 : decode cX7_readFact 12 = .ok (.getfield 37, 3) := by decide +kernel
theorem dX7_readFact_15 : decode cX7_readFact 15 = .ok (.istore_n 2, 1) := by decide +kernel
theorem dX7_readFact_16 : decode cX7_readFact 16 = .ok (.aload_n 0, 1) := by decide +kernel
theorem dX7_readFact_17 : decode cX7_readFact 17 = .ok (.getfield 9, 3) := by decide +kernel
theorem dX7_readFact_20 : decode cX7_readFact 20 = .ok (.ldc 77, 2) := by decide +kernel
theorem dX7_readFact_22 : decode cX7_readFact 22 = .ok (.invokevirtual 42, 3) := by decide +kernel
theorem dX7_readFact_25 : decode cX7_readFact 25 = .ok (.ifCond .eq 42, 3) := by decide +kernel
theorem dX7_readFact_28 : decode cX7_readFact 28 = .ok (.iload_n 1, 1) := by decide +kernel
theorem dX7_readFact_29 : decode cX7_readFact 29 = .ok (.bipush 10, 2) := by decide +kernel
theorem dX7_readFact_31 : decode cX7_readFact 31 = .ok (.if_icmp .lt 13, 3) := by decide +kernel
theorem dX7_readFact_34 : decode cX7_readFact 34 = .ok (.aload_n 0, 1) := by decide +kernel
theorem dX7_readFact_35 : decode cX7_readFact 35 = .ok (.getfield 9, 3) := by decide +kernel
theorem dX7_readFact_38 : decode cX7_readFact 38 = .ok (.iload_n 2, 1) := by decide +kernel
theorem dX7_readFact_39 : decode cX7_readFact 39 = .ok (.iconst 2, 1) := by decide +kernel
theorem dX7_readFact_40 : decode cX7_readFact 40 = .ok (.invokevirtual 46, 3) := by decide +kernel
theorem dX7_readFact_43 : decode cX7_readFact 43 = .ok (.ireturn, 1) := by decide +kernel
theorem dX7_readFact_44 : decode cX7_readFact 44 = .ok (.aload_n 0, 1) := by decide +kernel
theorem dX7_readFact_45 : decode cX7_readFact 45 = .ok (.iload_n 1, 1) := by decide +kernel
theorem dX7_readFact_46 : decode cX7_readFact 46 = .ok (.iconst 1, 1) := by decide +kernel
theorem dX7_readFact_47 : decode cX7_readFact 47 = .ok (.iadd, 1) := by decide +kernel
theorem dX7_readFact_48 : decode cX7_readFact 48 = .ok (.invokevirtual 67, 3) := by decide +kernel
theorem dX7_readFact_51 : decode cX7_readFact 51 = .ok (.ifCond .ne 5, 3) := by decide +kernel
theorem dX7_readFact_54 : decode cX7_readFact 54 = .ok (.iconst 0, 1) := by decide +kernel
theorem dX7_readFact_55 : decode cX7_readFact 55 = .ok (.ireturn, 1) := by decide +kernel
theorem dX7_readFact_56 : decode cX7_readFact 56 = .ok (.aload_n 0, 1) := by decide +kernel
theorem dX7_readFact_57 : decode cX7_readFact 57 = .ok (.getfield 15, 3) := by decide +kernel
theorem dX7_readFact_60 : decode cX7_readFact 60 = .ok (.bipush (-33), 2) := by decide +kernel
theorem dX7_readFact_62 : decode cX7_readFact 62 = .ok (.invokevirtual 60, 3) := by decide +kernel
theorem dX7_readFact_65 : decode cX7_readFact 65 = .ok (.iconst 1, 1) := by decide +kernel
theorem dX7_readFact_66 : decode cX7_readFact 66 = .ok (.ireturn, 1) := by decide +kernel
theorem dX7_readFact_67 : decode cX7_readFact 67 = .ok (.aload_n 0, 1) := by decide +kernel
theorem dX7_readFact_68 : decode cX7_readFact 68 = .ok (.getfield 9, 3) := by decide +kernel
theorem dX7_readFact_71 : decode cX7_readFact 71 = .ok (.bipush 91, 2) := by decide +kernel
theorem dX7_readFact_73 : decode cX7_readFact 73 = .ok (.invokevirtual 64, 3) := by decide +kernel
theorem dX7_readFact_76 : decode cX7_readFact 76 = .ok (.ifCond .eq 65, 3) := by decide +kernel
theorem dX7_readFact_79 : decode cX7_readFact 79 = .ok (.iload_n 1, 1) := by decide +kernel
theorem dX7_readFact_80 : decode cX7_readFact 80 = .ok (.bipush 10, 2) := by decide +kernel
theorem dX7_readFact_82 : decode cX7_readFact 82 = .ok (.if_icmp .lt 13, 3) := by decide +kernel
theorem dX7_readFact_85 : decode cX7_readFact 85 = .ok (.aload_n 0, 1) := by decide +kernel
theorem dX7_readFact_86 : decode cX7_readFact 86 = .ok (.getfield 9, 3) := by decide +kernel
theorem dX7_readFact_89 : decode cX7_readFact 89 = .ok (.iload_n 2, 1) := by decide +kernel
theorem dX7_readFact_90 : decode cX7_readFact 90 = .ok (.iconst 2, 1) := by decide +kernel
theorem dX7_readFact_91 : decode cX7_readFact 91 = .ok (.invokevirtual 46, 3) := by decide +kernel
theorem dX7_readFact_94 : decode cX7_readFact 94 = .ok (.ireturn, 1) := by decide +kernel
theorem dX7_readFact_95 : decode cX7_readFact 95 = .ok (.aload_n 0, 1) := by decide +kernel
theorem dX7_readFact_96 : decode cX7_readFact 96 = .ok (.iload_n 1, 1) := by decide +kernel
theorem dX7_readFact_97 : decode cX7_readFact 97 = .ok (.iconst 1, 1) := by decide +kernel
theorem dX7_readFact_98 : decode cX7_readFact 98 = .ok (.iadd, 1) := by decide +kernel
theorem dX7_readFact_99 : decode cX7_readFact 99 = .ok (.invokevirtual 56, 3) := by decide +kernel
theorem dX7_readFact_102 : decode cX7_readFact 102 = .ok (.ifCond .eq 37, 3) := by decide +kernel
theorem dX7_readFact_105 : decode cX7_readFact 105 = .ok (.aload_n 0, 1) := by decide +kernel
theorem dX7_readFact_106 : decode cX7_readFact 106 = .ok (.getfield 9, 3) := by decide +kernel
theorem dX7_readFact_109 : decode cX7_readFact 109 = .ok (.bipush 93, 2) := by decide +kernel
theorem dX7_readFact_111 : decode cX7_readFact 111 = .ok (.invokevirtual 64, 3) := by decide +kernel
theorem dX7_readFact_114 : decode cX7_readFact 114 = .ok (.ifCond .ne 21, 3) := by decide +kernel
theorem dX7_readFact_117 : decode cX7_readFact 117 = .ok (.aload_n 0, 1) := by decide +kernel
theorem dX7_readFact_118 : decode cX7_readFact 118 = .ok (.getfield 9, 3) := by decide +kernel
theorem dX7_readFact_121 : decode cX7_readFact 121 = .ok (.aload_n 0, 1) := by decide +kernel
theorem dX7_readFact_122 : decode cX7_readFact 122 = .ok (.getfield 9, 3) := by decide +kernel
theorem dX7_readFact_125 : decode cX7_readFact 125 = .ok (.getfield 37, 3) := by decide +kernel
theorem dX7_readFact_128 : decode cX7_readFact 128 = .ok (.iconst 0, 1) := by decide +kernel
theorem dX7_readFact_129 : decode cX7_readFact 129 = .ok (.invokevirtual 46, 3) := by decide +kernel
theorem dX7_readFact_132 : decode cX7_readFact 132 = .ok (.ifCond .eq 7, 3) := by decide +kernel
theorem dX7_readFact_135 : decode cX7_readFact 135 = .ok (.iconst 1, 1) := by decide +kernel
theorem dX7_readFact_136 : decode cX7_readFact 136 = .ok (.goto 4, 3) := by decide +kernel
theorem dX7_readFact_139 : decode cX7_readFact 139 = .ok (.iconst 0, 1) := by decide +kernel
theorem dX7_readFact_140 : decode cX7_readFact 140 = .ok (.ireturn, 1) := by decide +kernel
theorem dX7_readFact_141 : decode cX7_readFact 141 = .ok (.aload_n 0, 1) := by decide +kernel
theorem dX7_readFact_142 : decode cX7_readFact 142 = .ok (.invokevirtual 50, 3) := by decide +kernel
theorem dX7_readFact_145 : decode cX7_readFact 145 = .ok (.ifCond .ne 5, 3) := by decide +kernel
theorem dX7_readFact_148 : decode cX7_readFact 148 = .ok (.iconst 0, 1) := by decide +kernel
theorem dX7_readFact_149 : decode cX7_readFact 149 = .ok (.ireturn, 1) := by decide +kernel
theorem dX7_readFact_150 : decode cX7_readFact 150 = .ok (.aload_n 0, 1) := by decide +kernel
theorem dX7_readFact_151 : decode cX7_readFact 151 = .ok (.invokevirtual 79, 3) := by decide +kernel
theorem dX7_readFact_154 : decode cX7_readFact 154 = .ok (.istore_n 3, 1) := by decide +kernel
theorem dX7_readFact_155 : decode cX7_readFact 155 = .ok (.iload_n 3, 1) := by decide +kernel
theorem dX7_readFact_156 : decode cX7_readFact 156 = .ok (.ifCond .eq 10, 3) := by decide +kernel
theorem dX7_readFact_159 : decode cX7_readFact 159 = .ok (.aload_n 0, 1) := by decide +kernel
theorem dX7_readFact_160 : decode cX7_readFact 160 = .ok (.invokevirtual 50, 3) := by decide +kernel
theorem dX7_readFact_163 : decode cX7_readFact 163 = .ok (.ifCond .ne 5, 3) := by decide +kernel
theorem dX7_readFact_166 : decode cX7_readFact 166 = .ok (.iconst 0, 1) := by decide +kernel
theorem dX7_readFact_167 : decode cX7_readFact 167 = .ok (.ireturn, 1) := by decide +kernel
theorem dX7_readFact_168 : decode cX7_readFact 168 = .ok (.aload_n 0, 1) := by decide +kernel
theorem dX7_readFact_169 : decode cX7_readFact 169 = .ok (.getfield 15, 3) := by decide +kernel
theorem dX7_readFact_172 : decode cX7_readFact 172 = .ok (.iload_n 3, 1) := by decide +kernel
theorem dX7_readFact_173 : decode cX7_readFact 173 = .ok (.invokevirtual 60, 3) := by decide +kernel
theorem dX7_readFact_176 : decode cX7_readFact 176 = .ok (.iconst 1, 1) := by decide +kernel
theorem dX7_readFact_177 : decode cX7_readFact 177 = .ok (.ireturn, 1) := by decide +kernel
theorem dX7_readSign_0 : decode cX7_readSign 0 = .ok (.aload_n 0, 1) := by decide +kernel
theorem dX7_readSign_1 : decode cX7_readSign 1 = .ok (.getfield 9, 3) := by decide +kernel
theorem dX7_readSign_4 : decode cX7_readSign 4 = .ok (.invokevirtual 33, 3) := by decide +kernel
theorem dX7_readSign_7 : decode cX7_readSign 7 = .ok (.pop, 1) := by decide +kernel
theorem dX7_readSign_8 : decode cX7_readSign 8 = .ok (.aload_n 0, 1) := by decide +kernel
theorem dX7_readSign_9 : decode cX7_readSign 9 = .ok (.getfield 9, 3) := by decide +kernel
theorem dX7_readSign_12 : decode cX7_readSign 12 = .ok (.getfield 37, 3) := by decide +kernel
theorem dX7_readSign_15 : decode cX7_readSign 15 = .ok (.istore_n 1, 1) := by decide +kernel
theorem dX7_readSign_16 : decode cX7_readSign 16 = .ok (.iconst 0, 1) := by decide +kernel
theorem dX7_readSign_17 : decode cX7_readSign 17 = .ok (.istore_n 2, 1) := by decide +kernel
theorem dX7_readSign_18 : decode cX7_readSign 18 = .ok (.aload_n 0, 1) := by decide +kernel
theorem dX7_readSign_19 : decode cX7_readSign 19 = .ok (.getfield 9, 3) := by decide +kernel
theorem dX7_readSign_22 : decode cX7_readSign 22 = .ok (.bipush 60, 2) := by decide +kernel
theorem dX7_readSign_24 : decode cX7_readSign 24 = .ok (.invokevirtual 64, 3) := by decide +kernel
theorem dX7_readSign_27 : decode cX7_readSign 27 = .ok (.ifCond .eq 26, 3) := by decide +kernel
theorem dX7_readSign_30 : decode cX7_readSign 30 = .ok (.aload_n 0, 1) := by decide +kernel
theorem dX7_readSign_31 : decode cX7_readSign 31 = .ok (.getfield 9, 3) := by decide +kernel
theorem dX7_readSign_34 : decode cX7_readSign 34 = .ok (.bipush 61, 2) := by decide +kernel
theorem dX7_readSign_36 : decode cX7_readSign 36 = .ok (.invokevirtual 82, 3) := by decide +kernel
theorem dX7_readSign_39 : decode cX7_readSign 39 = .ok (.ifCond .eq 8, 3) := by decide +kernel
theorem dX7_readSign_42 : decode cX7_readSign 42 = .ok (.bipush (-27), 2) := by decide +kernel
theorem dX7_readSign_44 : decode cX7_readSign 44 = .ok (.goto 5, 3) := by decide +kernel
theorem dX7_readSign_47 : decode cX7_readSign 47 = .ok (.bipush (-26), 2) := by decide +kernel
theorem dX7_readSign_49 : decode cX7_readSign 49 = .ok (.istore_n 2, 1) := by decide +kernel
theorem dX7_readSign_50 : decode cX7_readSign 50 = .ok (.goto 53, 3) := by decide +kernel
theorem dX7_readSign_53 : decode cX7_readSign 53 = .ok (.aload_n 0, 1) := by decide +kernel
theorem dX7_readSign_54 : decode cX7_readSign 54 = .ok (.getfield 9, 3) := by decide +kernel
theorem dX7_readSign_57 : decode cX7_readSign 57 = .ok (.bipush 62, 2) := by decide +kernel
theorem dX7_readSign_59 : decode cX7_readSign 59 = .ok (.invokevirtual 64, 3) := by decide +kernel
theorem dX7_readSign_62 : decode cX7_readSign 62 = .ok (.ifCond .eq 26, 3) := by decide +kernel
theorem dX7_readSign_65 : decode cX7_readSign 65 = .ok (.aload_n 0, 1) := by decide +kernel
theorem dX7_readSign_66 : decode cX7_readSign 66 = .ok (.getfield 9, 3) := by decide +kernel
theorem dX7_readSign_69 : decode cX7_readSign 69 = .ok (.bipush 61, 2) := by decide +kernel
theorem dX7_readSign_71 : decode cX7_readSign 71 = .ok (.invokevirtual 82, 3) := by decide +kernel
theorem dX7_readSign_74 : decode cX7_readSign 74 = .ok (.ifCond .eq 8, 3) := by decide +kernel
theorem dX7_readSign_77 : decode cX7_readSign 77 = .ok (.bipush (-29), 2) := by decide +kernel
theorem dX7_readSign_79 : decode cX7_readSign 79 = .ok (.goto 5, 3) := by decide +kernel
theorem dX7_readSign_82 : decode cX7_readSign 82 = .ok (.bipush (-30), 2) := by decide +kernel
theorem dX7_readSign_84 : decode cX7_readSign 84 = .ok (.istore_n 2, 1) := by decide +kernel
theorem dX7_readSign_85 : decode cX7_readSign 85 = .ok (.goto 18, 3) := by decide +kernel
theorem dX7_readSign_88 : decode cX7_readSign 88 = .ok (.aload_n 0, 1) := by decide +kernel
theorem dX7_readSign_89 : decode cX7_readSign 89 = .ok (.getfield 9, 3) := by decide +kernel
theorem dX7_readSign_92 : decode cX7_readSign 92 = .ok (.bipush 61, 2) := by decide +kernel
theorem dX7_readSign_94 : decode cX7_readSign 94 = .ok (.invokevirtual 64, 3) := by decide +kernel
theorem dX7_readSign_97 : decode cX7_readSign 97 = .ok (.ifCond .eq 6, 3) := by decide +kernel
theorem dX7_readSign_100 : decode cX7_readSign 100 = .ok (.bipush (-28), 2) := by decide +kernel
theorem dX7_readSign_102 : decode cX7_readSign 102 = .ok (.istore_n 2, 1) := by decide +kernel
theorem dX7_readSign_103 : decode cX7_readSign 103 = .ok (.iload_n 2, 1) := by decide +kernel
theorem dX7_readSign_104 : decode cX7_readSign 104 = .ok (.ifCond .ne 15, 3) := by decide +kernel
theorem dX7_readSign_107 : decode cX7_readSign 107 = .ok (.aload_n 0, 1) := by decide +kernel
theorem dX7_readSign_108 : decode cX7_readSign 108 = .ok (.getfield 9, 3) := by decide +kernel
theorem dX7_readSign_111 : decode cX7_readSign 111 = .ok (.iload_n 1, 1) := by decide +kernel
theorem dX7_readSign_112 : decode cX7_readSign 112 = .ok (.iconst 0, 1) := by decide +kernel
theorem dX7_readSign_113 : decode cX7_readSign 113 = .ok (.invokevirtual 46, 3) := by decide +kernel
theorem dX7_readSign_116 : decode cX7_readSign 116 = .ok (.pop, 1) := by decide +kernel
theorem dX7_readSign_117 : decode cX7_readSign 117 = .ok (.iconst 0, 1) := by decide +kernel
theorem dX7_readSign_118 : decode cX7_readSign 118 = .ok (.ireturn, 1) := by decide +kernel
theorem dX7_readSign_119 : decode cX7_readSign 119 = .ok (.aload_n 0, 1) := by decide +kernel
theorem dX7_readSign_120 : decode cX7_readSign 120 = .ok (.getfield 24, 3) := by decide +kernel
theorem dX7_readSign_123 : decode cX7_readSign 123 = .ok (.bipush 60, 2) := by decide +kernel
theorem dX7_readSign_125 : decode cX7_readSign 125 = .ok (.if_icmp .lt 15, 3) := by decide +kernel
theorem dX7_readSign_128 : decode cX7_readSign 128 = .ok (.aload_n 0, 1) := by decide +kernel
theorem dX7_readSign_129 : decode cX7_readSign 129 = .ok (.getfield 9, 3) := by decide +kernel
theorem dX7_readSign_132 : decode cX7_readSign 132 = .ok (.iload_n 1, 1) := by decide +kernel
theorem dX7_readSign_133 : decode cX7_readSign 133 = .ok (.iconst 3, 1) := by decide +kernel
theorem dX7_readSign_134 : decode cX7_readSign 134 = .ok (.invokevirtual 46, 3) := by decide +kernel
theorem dX7_readSign_137 : decode cX7_readSign 137 = .ok (.pop, 1) := by decide +kernel
theorem dX7_readSign_138 : decode cX7_readSign 138 = .ok (.iconst 0, 1) := by decide +kernel
theorem dX7_readSign_139 : decode cX7_readSign 139 = .ok (.ireturn, 1) := by decide +kernel
theorem dX7_readSign_140 : decode cX7_readSign 140 = .ok (.aload_n 0, 1) := by decide +kernel
theorem dX7_readSign_141 : decode cX7_readSign 141 = .ok (.dup, 1) := by decide +kernel
theorem dX7_readSign_142 : decode cX7_readSign 142 = .ok (.getfield 24, 3) := by decide +kernel
theorem dX7_readSign_145 : decode cX7_readSign 145 = .ok (.iconst 1, 1) := by decide +kernel
theorem dX7_readSign_146 : decode cX7_readSign 146 = .ok (.iadd, 1) := by decide +kernel
theorem dX7_readSign_147 : decode cX7_readSign 147 = .ok (.putfield 24, 3) := by decide +kernel
theorem dX7_readSign_150 : decode cX7_readSign 150 = .ok (.iload_n 2, 1) := by decide +kernel
theorem dX7_readSign_151 : decode cX7_readSign 151 = .ok (.ireturn, 1) := by decide +kernel
theorem dX7_readSum_0 : decode cX7_readSum 0 = .ok (.iconst 0, 1) := by decide +kernel
theorem dX7_readSum_1 : decode cX7_readSum 1 = .ok (.istore_n 1, 1) := by decide +kernel
theorem dX7_readSum_2 : decode cX7_readSum 2 = .ok (.aload_n 0, 1) := by decide +kernel
theorem dX7_readSum_3 : decode cX7_readSum 3 = .ok (.invokevirtual 85, 3) := by decide +kernel
theorem dX7_readSum_6 : decode cX7_readSum 6 = .ok (.ifCond .ne 5, 3) := by decide +kernel
theorem dX7_readSum_9 : decode cX7_readSum 9 = .ok (.iconst 0, 1) := by decide +kernel
theorem dX7_readSum_10 : decode cX7_readSum 10 = .ok (.ireturn, 1) := by decide +kernel
theorem dX7_readSum_11 : decode cX7_readSum 11 = .ok (.iconst 0, 1) := by decide +kernel
theorem dX7_readSum_12 : decode cX7_readSum 12 = .ok (.istore_n 2, 1) := by decide +kernel
theorem dX7_readSum_13 : decode cX7_readSum 13 = .ok (.iload_n 2, 1) := by decide +kernel
theorem dX7_readSum_14 : decode cX7_readSum 14 = .ok (.sipush 400, 3) := by decide +kernel
theorem dX7_readSum_17 : decode cX7_readSum 17 = .ok (.if_icmp .ge 93, 3) := by decide +kernel
theorem dX7_readSum_20 : decode cX7_readSum 20 = .ok (.aload_n 0, 1) := by decide +kernel
theorem dX7_readSum_21 : decode cX7_readSum 21 = .ok (.getfield 9, 3) := by decide +kernel
theorem dX7_readSum_24 : decode cX7_readSum 24 = .ok (.invokevirtual 33, 3) := by decide +kernel
theorem dX7_readSum_27 : decode cX7_readSum 27 = .ok (.invokestatic 88, 3) := by decide +kernel
theorem dX7_readSum_30 : decode cX7_readSum 30 = .ok (.istore_n 3, 1) := by decide +kernel
theorem dX7_readSum_31 : decode cX7_readSum 31 = .ok (.iload_n 3, 1) := by decide +kernel
theorem dX7_readSum_32 : decode cX7_readSum 32 = .ok (.ifCond .ne 6, 3) := by decide +kernel
theorem dX7_readSum_35 : decode cX7_readSum 35 = .ok (.goto 75, 3) := by decide +kernel
theorem dX7_readSum_38 : decode cX7_readSum 38 = .ok (.aload_n 0, 1) := by decide +kernel
theorem dX7_readSum_39 : decode cX7_readSum 39 = .ok (.getfield 9, 3) := by decide +kernel
theorem dX7_readSum_42 : decode cX7_readSum 42 = .ok (.dup, 1) := by decide +kernel
theorem dX7_readSum_43 : decode cX7_readSum 43 = .ok (.getfield 37, 3) := by decide +kernel
theorem dX7_readSum_46 : decode cX7_readSum 46 = .ok (.iconst 1, 1) := by decide +kernel
theorem dX7_readSum_47 : decode cX7_readSum 47 = .ok (.iadd, 1) := by decide +kernel
theorem dX7_readSum_48 : decode cX7_readSum 48 = .ok (.putfield 37, 3) := by decide +kernel
theorem dX7_readSum_51 : decode cX7_readSum 51 = .ok (.iload_n 3, 1) := by decide +kernel
theorem dX7_readSum_52 : decode cX7_readSum 52 = .ok (.bipush (-21), 2) := by decide +kernel
theorem dX7_readSum_54 : decode cX7_readSum 54 = .ok (.if_icmp .eq 9, 3) := by decide +kernel
theorem dX7_readSum_57 : decode cX7_readSum 57 = .ok (.iload_n 3, 1) := by decide +kernel
theorem dX7_readSum_58 : decode cX7_readSum 58 = .ok (.bipush (-22), 2) := by decide +kernel
theorem dX7_readSum_60 : decode cX7_readSum 60 = .ok (.if_icmp .ne 7, 3) := by decide +kernel
theorem dX7_readSum_63 : decode cX7_readSum 63 = .ok (.iconst 1, 1) := by decide +kernel
theorem dX7_readSum_64 : decode cX7_readSum 64 = .ok (.goto 4, 3) := by decide +kernel
theorem dX7_readSum_67 : decode cX7_readSum 67 = .ok (.iconst 0, 1) := by decide +kernel
theorem dX7_readSum_68 : decode cX7_readSum 68 = .ok (.istore 4, 2) := by decide +kernel
theorem dX7_readSum_70 : decode cX7_readSum 70 = .ok (.iload 4, 2) := by decide +kernel
theorem dX7_readSum_72 : decode cX7_readSum 72 = .ok (.ifCond .eq 10, 3) := by decide +kernel
theorem dX7_readSum_75 : decode cX7_readSum 75 = .ok (.aload_n 0, 1) := by decide +kernel
theorem dX7_readSum_76 : decode cX7_readSum 76 = .ok (.iload_n 1, 1) := by decide +kernel
theorem dX7_readSum_77 : decode cX7_readSum 77 = .ok (.invokevirtual 74, 3) := by decide +kernel
theorem dX7_readSum_80 : decode cX7_readSum 80 = .ok (.iload_n 3, 1) := by decide +kernel
theorem dX7_readSum_81 : decode cX7_readSum 81 = .ok (.istore_n 1, 1) := by decide +kernel
theorem dX7_readSum_82 : decode cX7_readSum 82 = .ok (.aload_n 0, 1) := by decide +kernel
theorem dX7_readSum_83 : decode cX7_readSum 83 = .ok (.invokevirtual 85, 3) := by decide +kernel
theorem dX7_readSum_86 : decode cX7_readSum 86 = .ok (.ifCond .ne 5, 3) := by decide +kernel
theorem dX7_readSum_89 : decode cX7_readSum 89 = .ok (.iconst 0, 1) := by decide +kernel
theorem dX7_readSum_90 : decode cX7_readSum 90 = .ok (.ireturn, 1) := by decide +kernel
theorem dX7_readSum_91 : decode cX7_readSum 91 = .ok (.iload 4, 2) := by decide +kernel
theorem dX7_readSum_93 : decode cX7_readSum 93 = .ok (.ifCond .ne 11, 3) := by decide +kernel
theorem dX7_readSum_96 : decode cX7_readSum 96 = .ok (.aload_n 0, 1) := by decide +kernel
theorem dX7_readSum_97 : decode cX7_readSum 97 = .ok (.getfield 15, 3) := by decide +kernel
theorem dX7_readSum_100 : decode cX7_readSum 100 = .ok (.iload_n 3, 1) := by decide +kernel
theorem dX7_readSum_101 : decode cX7_readSum 101 = .ok (.invokevirtual 60, 3) := by decide +kernel
theorem dX7_readSum_104 : decode cX7_readSum 104 = .ok (.iinc 2 1, 3) := by decide +kernel
theorem dX7_readSum_107 : decode cX7_readSum 107 = .ok (.goto (-94), 3) := by decide +kernel
theorem dX7_readSum_110 : decode cX7_readSum 110 = .ok (.aload_n 0, 1) := by decide +kernel
theorem dX7_readSum_111 : decode cX7_readSum 111 = .ok (.iload_n 1, 1) := by decide +kernel
theorem dX7_readSum_112 : decode cX7_readSum 112 = .ok (.invokevirtual 74, 3) := by decide +kernel
theorem dX7_readSum_115 : decode cX7_readSum 115 = .ok (.iconst 1, 1) := by decide +kernel
theorem dX7_readSum_116 : decode cX7_readSum 116 = .ok (.ireturn, 1) := by decide +kernel
theorem dX7_addStep_0 : decode cX7_addStep 0 = .ok (.iload_n 1, 1) := by decide +kernel
theorem dX7_addStep_1 : decode cX7_addStep 1 = .ok (.ifCond .eq 11, 3) := by decide +kernel
theorem dX7_addStep_4 : decode cX7_addStep 4 = .ok (.aload_n 0, 1) := by decide +kernel
theorem dX7_addStep_5 : decode cX7_addStep 5 = .ok (.getfield 15, 3) := by decide +kernel
theorem dX7_addStep_8 : decode cX7_addStep 8 = .ok (.iload_n 1, 1) := by decide +kernel
theorem dX7_addStep_9 : decode cX7_addStep 9 = .ok (.invokevirtual 60, 3) := by decide +kernel
theorem dX7_addStep_12 : decode cX7_addStep 12 = .ok (.return_, 1) := by decide +kernel
theorem dX7_stepOf_0 : decode cX7_stepOf 0 = .ok (.iload_n 0, 1) := by decide +kernel
theorem dX7_stepOf_1 : decode cX7_stepOf 1 = .ok (.tableswitch 74 37 47 #[71, 74, 74, 74, 74, 65, 59, 74, 62, 74, 68], 59) := by decide +kernel
theorem dX7_stepOf_60 : decode cX7_stepOf 60 = .ok (.bipush (-21), 2) := by decide +kernel
theorem dX7_stepOf_62 : decode cX7_stepOf 62 = .ok (.ireturn, 1) := by decide +kernel
theorem dX7_stepOf_63 : decode cX7_stepOf 63 = .ok (.bipush (-22), 2) := by decide +kernel
theorem dX7_stepOf_65 : decode cX7_stepOf 65 = .ok (.ireturn, 1) := by decide +kernel
theorem dX7_stepOf_66 : decode cX7_stepOf 66 = .ok (.bipush (-23), 2) := by decide +kernel
theorem dX7_stepOf_68 : decode cX7_stepOf 68 = .ok (.ireturn, 1) := by decide +kernel
theorem dX7_stepOf_69 : decode cX7_stepOf 69 = .ok (.bipush (-24), 2) := by decide +kernel
theorem dX7_stepOf_71 : decode cX7_stepOf 71 = .ok (.ireturn, 1) := by decide +kernel
theorem dX7_stepOf_72 : decode cX7_stepOf 72 = .ok (.bipush (-25), 2) := by decide +kernel
theorem dX7_stepOf_74 : decode cX7_stepOf 74 = .ok (.ireturn, 1) := by decide +kernel
theorem dX7_stepOf_75 : decode cX7_stepOf 75 = .ok (.iconst 0, 1) := by decide +kernel
theorem dX7_stepOf_76 : decode cX7_stepOf 76 = .ok (.ireturn, 1) := by decide +kernel
theorem dX7_readValue_0 : decode cX7_readValue 0 = .ok (.aload_n 0, 1) := by decide +kernel
theorem dX7_readValue_1 : decode cX7_readValue 1 = .ok (.getfield 9, 3) := by decide +kernel
theorem dX7_readValue_4 : decode cX7_readValue 4 = .ok (.invokevirtual 33, 3) := by decide +kernel
theorem dX7_readValue_7 : decode cX7_readValue 7 = .ok (.invokestatic 92, 3) := by decide +kernel
theorem dX7_readValue_10 : decode cX7_readValue 10 = .ok (.istore_n 1, 1) := by decide +kernel
theorem dX7_readValue_11 : decode cX7_readValue 11 = .ok (.aload_n 0, 1) := by decide +kernel
theorem dX7_readValue_12 : decode cX7_readValue 12 = .ok (.getfield 9, 3) := by decide +kernel
theorem dX7_readValue_15 : decode cX7_readValue 15 = .ok (.getfield 37, 3) := by decide +kernel
theorem dX7_readValue_18 : decode cX7_readValue 18 = .ok (.istore_n 2, 1) := by decide +kernel
theorem dX7_readValue_19 : decode cX7_readValue 19 = .ok (.iload_n 1, 1) := by decide +kernel
theorem dX7_readValue_20 : decode cX7_readValue 20 = .ok (.ifCond .eq 16, 3) := by decide +kernel
theorem dX7_readValue_23 : decode cX7_readValue 23 = .ok (.aload_n 0, 1) := by decide +kernel
theorem dX7_readValue_24 : decode cX7_readValue 24 = .ok (.getfield 9, 3) := by decide +kernel
theorem dX7_readValue_27 : decode cX7_readValue 27 = .ok (.iconst 0, 1) := by decide +kernel
theorem dX7_readValue_28 : decode cX7_readValue 28 = .ok (.ldc 95, 2) := by decide +kernel
theorem dX7_readValue_30 : decode cX7_readValue 30 = .ok (.invokevirtual 96, 3) := by decide +kernel
theorem dX7_readValue_33 : decode cX7_readValue 33 = .ok (.goto 12, 3) := by decide +kernel
theorem dX7_readValue_36 : decode cX7_readValue 36 = .ok (.aload_n 0, 1) := by decide +kernel
theorem dX7_readValue_37 : decode cX7_readValue 37 = .ok (.getfield 9, 3) := by decide +kernel
theorem dX7_readValue_40 : decode cX7_readValue 40 = .ok (.ldc 100, 2) := by decide +kernel
theorem dX7_readValue_42 : decode cX7_readValue 42 = .ok (.invokevirtual 102, 3) := by decide +kernel
theorem dX7_readValue_45 : decode cX7_readValue 45 = .ok (.istore_n 3, 1) := by decide +kernel
theorem dX7_readValue_46 : decode cX7_readValue 46 = .ok (.iload_n 3, 1) := by decide +kernel
theorem dX7_readValue_47 : decode cX7_readValue 47 = .ok (.iconst (-1), 1) := by decide +kernel
theorem dX7_readValue_48 : decode cX7_readValue 48 = .ok (.if_icmp .ne 13, 3) := by decide +kernel
theorem dX7_readValue_51 : decode cX7_readValue 51 = .ok (.aload_n 0, 1) := by decide +kernel
theorem dX7_readValue_52 : decode cX7_readValue 52 = .ok (.getfield 9, 3) := by decide +kernel
theorem dX7_readValue_55 : decode cX7_readValue 55 = .ok (.iload_n 2, 1) := by decide +kernel
theorem dX7_readValue_56 : decode cX7_readValue 56 = .ok (.iconst 0, 1) := by decide +kernel
theorem dX7_readValue_57 : decode cX7_readValue 57 = .ok (.invokevirtual 46, 3) := by decide +kernel
theorem dX7_readValue_60 : decode cX7_readValue 60 = .ok (.ireturn, 1) := by decide +kernel
theorem dX7_readValue_61 : decode cX7_readValue 61 = .ok (.aload_n 0, 1) := by decide +kernel
theorem dX7_readValue_62 : decode cX7_readValue 62 = .ok (.getfield 24, 3) := by decide +kernel
theorem dX7_readValue_65 : decode cX7_readValue 65 = .ok (.bipush 60, 2) := by decide +kernel
theorem dX7_readValue_67 : decode cX7_readValue 67 = .ok (.if_icmp .lt 13, 3) := by decide +kernel
theorem dX7_readValue_70 : decode cX7_readValue 70 = .ok (.aload_n 0, 1) := by decide +kernel
theorem dX7_readValue_71 : decode cX7_readValue 71 = .ok (.getfield 9, 3) := by decide +kernel
theorem dX7_readValue_74 : decode cX7_readValue 74 = .ok (.iload_n 2, 1) := by decide +kernel
theorem dX7_readValue_75 : decode cX7_readValue 75 = .ok (.iconst 3, 1) := by decide +kernel
theorem dX7_readValue_76 : decode cX7_readValue 76 = .ok (.invokevirtual 46, 3) := by decide +kernel
theorem dX7_readValue_79 : decode cX7_readValue 79 = .ok (.ireturn, 1) := by decide +kernel
