theorem dX12_sign_1 : decode cX12_sign 1 = .ok (.getfield 163, 3) := by decide +kernel
theorem dX12_sign_4 : decode cX12_sign 4 = .ok (.aload_n 0, 1) := by decide +kernel
theorem dX12_sign_5 : decode cX12_sign 5 = .ok (.getfield 132, 3) := by decide +kernel
theorem dX12_sign_8 : decode cX12_sign 8 = .ok (.if_icmp .ge 19, 3) := by decide +kernel
theorem dX12_sign_11 : decode cX12_sign 11 = .ok (.aload_n 0, 1) := by decide +kernel
theorem dX12_sign_12 : decode cX12_sign 12 = .ok (.getfield 68, 3) := by decide +kernel
theorem dX12_sign_15 : decode cX12_sign 15 = .ok (.aload_n 0, 1) := by decide +kernel
theorem dX12_sign_16 : decode cX12_sign 16 = .ok (.getfield 163, 3) := by decide +kernel
theorem dX12_sign_19 : decode cX12_sign 19 = .ok (.baload, 1) := by decide +kernel
theorem dX12_sign_20 : decode cX12_sign 20 = .ok (.sipush 255, 3) := by decide +kernel
theorem dX12_sign_23 : decode cX12_sign 23 = .ok (.iand, 1) := by decide +kernel
theorem dX12_sign_24 : decode cX12_sign 24 = .ok (.goto 4, 3) := by decide +kernel
theorem dX12_sign_27 : decode cX12_sign 27 = .ok (.iconst (-1), 1) := by decide +kernel
theorem dX12_sign_28 : decode cX12_sign 28 = .ok (.ireturn, 1) := by decide +kernel
theorem dX12_blanks_0 : decode cX12_blanks 0 = .ok (.aload_n 0, 1) := by decide +kernel
theorem dX12_blanks_1 : decode cX12_blanks 1 = .ok (.invokevirtual 166, 3) := by decide +kernel
theorem dX12_blanks_4 : decode cX12_blanks 4 = .ok (.bipush 32, 2) := by decide +kernel
theorem dX12_blanks_6 : decode cX12_blanks 6 = .ok (.if_icmp .ne 16, 3) := by decide +kernel
theorem dX12_blanks_9 : decode cX12_blanks 9 = .ok (.aload_n 0, 1) := by decide +kernel
theorem dX12_blanks_10 : decode cX12_blanks 10 = .ok (.dup, 1) := by decide +kernel
theorem dX12_blanks_11 : decode cX12_blanks 11 = .ok (.getfield 163, 3) := by decide +kernel
theorem dX12_blanks_14 : decode cX12_blanks 14 = .ok (.iconst 1, 1) := by decide +kernel
theorem dX12_blanks_15 : decode cX12_blanks 15 = .ok (.iadd, 1) := by decide +kernel
theorem dX12_blanks_16 : decode cX12_blanks 16 = .ok (.putfield 163, 3) := by decide +kernel
theorem dX12_blanks_19 : decode cX12_blanks 19 = .ok (.goto (-19), 3) := by decide +kernel
theorem dX12_blanks_22 : decode cX12_blanks 22 = .ok (.return_, 1) := by decide +kernel
theorem dX12_isDigit_0 : decode cX12_isDigit 0 = .ok (.aload_n 0, 1) := by decide +kernel
theorem dX12_isDigit_1 : decode cX12_isDigit 1 = .ok (.invokevirtual 166, 3) := by decide +kernel
theorem dX12_isDigit_4 : decode cX12_isDigit 4 = .ok (.i2l, 1) := by decide +kernel
theorem dX12_isDigit_5 : decode cX12_isDigit 5 = .ok (.ldc2_w 170, 3) := by decide +kernel
theorem dX12_isDigit_8 : decode cX12_isDigit 8 = .ok (.ldc2_w 172, 3) := by decide +kernel
theorem dX12_isDigit_11 : decode cX12_isDigit 11 = .ok (.invokestatic 128, 3) := by decide +kernel
theorem dX12_isDigit_14 : decode cX12_isDigit 14 = .ok (.ireturn, 1) := by decide +kernel
theorem dX12_stood_0 : decode cX12_stood 0 = .ok (.aload_n 0, 1) := by decide +kernel
theorem dX12_stood_1 : decode cX12_stood 1 = .ok (.getfield 163, 3) := by decide +kernel
theorem dX12_stood_4 : decode cX12_stood 4 = .ok (.istore_n 2, 1) := by decide +kernel
theorem dX12_stood_5 : decode cX12_stood 5 = .ok (.iload_n 2, 1) := by decide +kernel
theorem dX12_stood_6 : decode cX12_stood 6 = .ok (.aload_n 0, 1) := by decide +kernel
theorem dX12_stood_7 : decode cX12_stood 7 = .ok (.getfield 132, 3) := by decide +kernel
theorem dX12_stood_10 : decode cX12_stood 10 = .ok (.if_icmp .ge 31, 3) := by decide +kernel
theorem dX12_stood_13 : decode cX12_stood 13 = .ok (.aload_n 0, 1) := by decide +kernel
theorem dX12_stood_14 : decode cX12_stood 14 = .ok (.getfield 68, 3) := by decide +kernel
theorem dX12_stood_17 : decode cX12_stood 17 = .ok (.iload_n 2, 1) := by decide +kernel
theorem dX12_stood_18 : decode cX12_stood 18 = .ok (.baload, 1) := by decide +kernel
theorem dX12_stood_19 : decode cX12_stood 19 = .ok (.bipush 97, 2) := by decide +kernel
theorem dX12_stood_21 : decode cX12_stood 21 = .ok (.if_icmp .lt 20, 3) := by decide +kernel
theorem dX12_stood_24 : decode cX12_stood 24 = .ok (.aload_n 0, 1) := by decide +kernel
theorem dX12_stood_25 : decode cX12_stood 25 = .ok (.getfield 68, 3) := by decide +kernel
theorem dX12_stood_28 : decode cX12_stood 28 = .ok (.iload_n 2, 1) := by decide +kernel
theorem dX12_stood_29 : decode cX12_stood 29 = .ok (.baload, 1) := by decide +kernel
theorem dX12_stood_30 : decode cX12_stood 30 = .ok (.bipush 122, 2) := by decide +kernel
theorem dX12_stood_32 : decode cX12_stood 32 = .ok (.if_icmp .gt 9, 3) := by decide +kernel
theorem dX12_stood_35 : decode cX12_stood 35 = .ok (.iinc 2 1, 3) := by decide +kernel
theorem dX12_stood_38 : decode cX12_stood 38 = .ok (.goto (-33), 3) := by decide +kernel
theorem dX12_stood_41 : decode cX12_stood 41 = .ok (.iload_n 2, 1) := by decide +kernel
theorem dX12_stood_42 : decode cX12_stood 42 = .ok (.aload_n 0, 1) := by decide +kernel
theorem dX12_stood_43 : decode cX12_stood 43 = .ok (.getfield 163, 3) := by decide +kernel
theorem dX12_stood_46 : decode cX12_stood 46 = .ok (.isub, 1) := by decide +kernel
theorem dX12_stood_47 : decode cX12_stood 47 = .ok (.aload_n 1, 1) := by decide +kernel
theorem dX12_stood_48 : decode cX12_stood 48 = .ok (.invokevirtual 174, 3) := by decide +kernel
theorem dX12_stood_51 : decode cX12_stood 51 = .ok (.if_icmp .ne 7, 3) := by decide +kernel
theorem dX12_stood_54 : decode cX12_stood 54 = .ok (.iconst 1, 1) := by decide +kernel
theorem dX12_stood_55 : decode cX12_stood 55 = .ok (.goto 4, 3) := by decide +kernel
theorem dX12_stood_58 : decode cX12_stood 58 = .ok (.iconst 0, 1) := by decide +kernel
theorem dX12_stood_59 : decode cX12_stood 59 = .ok (.istore_n 3, 1) := by decide +kernel
theorem dX12_stood_60 : decode cX12_stood 60 = .ok (.iconst 0, 1) := by decide +kernel
theorem dX12_stood_61 : decode cX12_stood 61 = .ok (.istore 4, 2) := by decide +kernel
theorem dX12_stood_63 : decode cX12_stood 63 = .ok (.iload 4, 2) := by decide +kernel
theorem dX12_stood_65 : decode cX12_stood 65 = .ok (.aload_n 1, 1) := by decide +kernel
theorem dX12_stood_66 : decode cX12_stood 66 = .ok (.invokevirtual 174, 3) := by decide +kernel
theorem dX12_stood_69 : decode cX12_stood 69 = .ok (.if_icmp .ge 40, 3) := by decide +kernel
theorem dX12_stood_72 : decode cX12_stood 72 = .ok (.iload_n 3, 1) := by decide +kernel
theorem dX12_stood_73 : decode cX12_stood 73 = .ok (.ifCond .eq 36, 3) := by decide +kernel
theorem dX12_stood_76 : decode cX12_stood 76 = .ok (.aload_n 0, 1) := by decide +kernel
theorem dX12_stood_77 : decode cX12_stood 77 = .ok (.getfield 68, 3) := by decide +kernel
theorem dX12_stood_80 : decode cX12_stood 80 = .ok (.aload_n 0, 1) := by decide +kernel
theorem dX12_stood_81 : decode cX12_stood 81 = .ok (.getfield 163, 3) := by decide +kernel
theorem dX12_stood_84 : decode cX12_stood 84 = .ok (.iload 4, 2) := by decide +kernel
theorem dX12_stood_86 : decode cX12_stood 86 = .ok (.iadd, 1) := by decide +kernel
theorem dX12_stood_87 : decode cX12_stood 87 = .ok (.baload, 1) := by decide +kernel
theorem dX12_stood_88 : decode cX12_stood 88 = .ok (.aload_n 1, 1) := by decide +kernel
theorem dX12_stood_89 : decode cX12_stood 89 = .ok (.iload 4, 2) := by decide +kernel
theorem dX12_stood_91 : decode cX12_stood 91 = .ok (.invokevirtual 179, 3) := by decide +kernel
theorem dX12_stood_94 : decode cX12_stood 94 = .ok (.if_icmp .ne 7, 3) := by decide +kernel
theorem dX12_stood_97 : decode cX12_stood 97 = .ok (.iconst 1, 1) := by decide +kernel
theorem dX12_stood_98 : decode cX12_stood 98 = .ok (.goto 4, 3) := by decide +kernel
theorem dX12_stood_101 : decode cX12_stood 101 = .ok (.iconst 0, 1) := by decide +kernel
theorem dX12_stood_102 : decode cX12_stood 102 = .ok (.istore_n 3, 1) := by decide +kernel
theorem dX12_stood_103 : decode cX12_stood 103 = .ok (.iinc 4 1, 3) := by decide +kernel
theorem dX12_stood_106 : decode cX12_stood 106 = .ok (.goto (-43), 3) := by decide +kernel
theorem dX12_stood_109 : decode cX12_stood 109 = .ok (.iload_n 3, 1) := by decide +kernel
theorem dX12_stood_110 : decode cX12_stood 110 = .ok (.ireturn, 1) := by decide +kernel
theorem dX12_takes_0 : decode cX12_takes 0 = .ok (.aload_n 0, 1) := by decide +kernel
theorem dX12_takes_1 : decode cX12_takes 1 = .ok (.invokevirtual 183, 3) := by decide +kernel
theorem dX12_takes_4 : decode cX12_takes 4 = .ok (.aload_n 0, 1) := by decide +kernel
theorem dX12_takes_5 : decode cX12_takes 5 = .ok (.aload_n 1, 1) := by decide +kernel
theorem dX12_takes_6 : decode cX12_takes 6 = .ok (.invokevirtual 186, 3) := by decide +kernel
theorem dX12_takes_9 : decode cX12_takes 9 = .ok (.istore_n 2, 1) := by decide +kernel
theorem dX12_takes_10 : decode cX12_takes 10 = .ok (.aload_n 0, 1) := by decide +kernel
theorem dX12_takes_11 : decode cX12_takes 11 = .ok (.dup, 1) := by decide +kernel
theorem dX12_takes_12 : decode cX12_takes 12 = .ok (.getfield 163, 3) := by decide +kernel
theorem dX12_takes_15 : decode cX12_takes 15 = .ok (.iload_n 2, 1) := by decide +kernel
theorem dX12_takes_16 : decode cX12_takes 16 = .ok (.ifCond .eq 10, 3) := by decide +kernel
theorem dX12_takes_19 : decode cX12_takes 19 = .ok (.aload_n 1, 1) := by decide +kernel
theorem dX12_takes_20 : decode cX12_takes 20 = .ok (.invokevirtual 174, 3) := by decide +kernel
theorem dX12_takes_23 : decode cX12_takes 23 = .ok (.goto 4, 3) := by decide +kernel
theorem dX12_takes_26 : decode cX12_takes 26 = .ok (.iconst 0, 1) := by decide +kernel
theorem dX12_takes_27 : decode cX12_takes 27 = .ok (.iadd, 1) := by decide +kernel
theorem dX12_takes_28 : decode cX12_takes 28 = .ok (.putfield 163, 3) := by decide +kernel
theorem dX12_takes_31 : decode cX12_takes 31 = .ok (.iload_n 2, 1) := by decide +kernel
theorem dX12_takes_32 : decode cX12_takes 32 = .ok (.ireturn, 1) := by decide +kernel
theorem dX12_entry_0 : decode cX12_entry 0 = .ok (.aload_n 0, 1) := by decide +kernel
theorem dX12_entry_1 : decode cX12_entry 1 = .ok (.getfield 160, 3) := by decide +kernel
theorem dX12_entry_4 : decode cX12_entry 4 = .ok (.ifCond .ne 51, 3) := by decide +kernel
theorem dX12_entry_7 : decode cX12_entry 7 = .ok (.aload_n 0, 1) := by decide +kernel
theorem dX12_entry_8 : decode cX12_entry 8 = .ok (.getfield 72, 3) := by decide +kernel
theorem dX12_entry_11 : decode cX12_entry 11 = .ok (.sipush 300, 3) := by decide +kernel
theorem dX12_entry_14 : decode cX12_entry 14 = .ok (.aload_n 0, 1) := by decide +kernel
theorem dX12_entry_15 : decode cX12_entry 15 = .ok (.getfield 190, 3) := by decide +kernel
theorem dX12_entry_18 : decode cX12_entry 18 = .ok (.imul, 1) := by decide +kernel
theorem dX12_entry_19 : decode cX12_entry 19 = .ok (.aload_n 0, 1) := by decide +kernel
theorem dX12_entry_20 : decode cX12_entry 20 = .ok (.getfield 193, 3) := by decide +kernel
theorem dX12_entry_23 : decode cX12_entry 23 = .ok (.iadd, 1) := by decide +kernel
theorem dX12_entry_24 : decode cX12_entry 24 = .ok (.iload_n 1, 1) := by decide +kernel
theorem dX12_entry_25 : decode cX12_entry 25 = .ok (.iastore, 1) := by decide +kernel
theorem dX12_entry_26 : decode cX12_entry 26 = .ok (.aload_n 0, 1) := by decide +kernel
theorem dX12_entry_27 : decode cX12_entry 27 = .ok (.getfield 75, 3) := by decide +kernel
theorem dX12_entry_30 : decode cX12_entry 30 = .ok (.sipush 300, 3) := by decide +kernel
theorem dX12_entry_33 : decode cX12_entry 33 = .ok (.aload_n 0, 1) := by decide +kernel
theorem dX12_entry_34 : decode cX12_entry 34 = .ok (.getfield 190, 3) := by decide +kernel
theorem dX12_entry_37 : decode cX12_entry 37 = .ok (.imul, 1) := by decide +kernel
theorem dX12_entry_38 : decode cX12_entry 38 = .ok (.aload_n 0, 1) := by decide +kernel
theorem dX12_entry_39 : decode cX12_entry 39 = .ok (.getfield 193, 3) := by decide +kernel
theorem dX12_entry_42 : decode cX12_entry 42 = .ok (.iadd, 1) := by decide +kernel
theorem dX12_entry_43 : decode cX12_entry 43 = .ok (.iload_n 2, 1) := by decide +kernel
theorem dX12_entry_44 : decode cX12_entry 44 = .ok (.iastore, 1) := by decide +kernel
theorem dX12_entry_45 : decode cX12_entry 45 = .ok (.aload_n 0, 1) := by decide +kernel
theorem dX12_entry_46 : decode cX12_entry 46 = .ok (.dup, 1) := by decide +kernel
theorem dX12_entry_47 : decode cX12_entry 47 = .ok (.getfield 193, 3) := by decide +kernel
theorem dX12_entry_50 : decode cX12_entry 50 = .ok (.iconst 1, 1) := by decide +kernel
theorem dX12_entry_51 : decode cX12_entry 51 = .ok (.iadd, 1) := by decide +kernel
theorem dX12_entry_52 : decode cX12_entry 52 = .ok (.putfield 193, 3) := by decide +kernel
theorem dX12_entry_55 : decode cX12_entry 55 = .ok (.return_, 1) := by decide +kernel
theorem dX12_isCounted_0 : decode cX12_isCounted 0 = .ok (.aload_n 0, 1) := by decide +kernel
theorem dX12_isCounted_1 : decode cX12_isCounted 1 = .ok (.getfield 196, 3) := by decide +kernel
theorem dX12_isCounted_4 : decode cX12_isCounted 4 = .ok (.bipush 60, 2) := by decide +kernel
theorem dX12_isCounted_6 : decode cX12_isCounted 6 = .ok (.if_icmp .ne 9, 3) := by decide +kernel
theorem dX12_isCounted_9 : decode cX12_isCounted 9 = .ok (.aload_n 0, 1) := by decide +kernel
theorem dX12_isCounted_10 : decode cX12_isCounted 10 = .ok (.iconst 3, 1) := by decide +kernel
theorem dX12_isCounted_11 : decode cX12_isCounted 11 = .ok (.iload_n 1, 1) := by decide +kernel
theorem dX12_isCounted_12 : decode cX12_isCounted 12 = .ok (.invokevirtual 199, 3) := by decide +kernel
theorem dX12_isCounted_15 : decode cX12_isCounted 15 = .ok (.aload_n 0, 1) := by decide +kernel
theorem dX12_isCounted_16 : decode cX12_isCounted 16 = .ok (.dup, 1) := by decide +kernel
theorem dX12_isCounted_17 : decode cX12_isCounted 17 = .ok (.getfield 196, 3) := by decide +kernel
theorem dX12_isCounted_20 : decode cX12_isCounted 20 = .ok (.iconst 1, 1) := by decide +kernel
theorem dX12_isCounted_21 : decode cX12_isCounted 21 = .ok (.iadd, 1) := by decide +kernel
theorem dX12_isCounted_22 : decode cX12_isCounted 22 = .ok (.putfield 196, 3) := by decide +kernel
theorem dX12_isCounted_25 : decode cX12_isCounted 25 = .ok (.return_, 1) := by decide +kernel
theorem dX12_digits_0 : decode cX12_digits 0 = .ok (.aload_n 0, 1) := by decide +kernel
theorem dX12_digits_1 : decode cX12_digits 1 = .ok (.invokevirtual 203, 3) := by decide +kernel
theorem dX12_digits_4 : decode cX12_digits 4 = .ok (.ifCond .ne 14, 3) := by decide +kernel
theorem dX12_digits_7 : decode cX12_digits 7 = .ok (.aload_n 0, 1) := by decide +kernel
theorem dX12_digits_8 : decode cX12_digits 8 = .ok (.iconst 0, 1) := by decide +kernel
theorem dX12_digits_9 : decode cX12_digits 9 = .ok (.aload_n 0, 1) := by decide +kernel
theorem dX12_digits_10 : decode cX12_digits 10 = .ok (.getfield 163, 3) := by decide +kernel
theorem dX12_digits_13 : decode cX12_digits 13 = .ok (.invokevirtual 199, 3) := by decide +kernel
theorem dX12_digits_16 : decode cX12_digits 16 = .ok (.iconst 0, 1) := by decide +kernel
theorem dX12_digits_17 : decode cX12_digits 17 = .ok (.ireturn, 1) := by decide +kernel
theorem dX12_digits_18 : decode cX12_digits 18 = .ok (.aload_n 0, 1) := by decide +kernel
theorem dX12_digits_19 : decode cX12_digits 19 = .ok (.getfield 163, 3) := by decide +kernel
theorem dX12_digits_22 : decode cX12_digits 22 = .ok (.istore_n 2, 1) := by decide +kernel
theorem dX12_digits_23 : decode cX12_digits 23 = .ok (.iconst 0, 1) := by decide +kernel
theorem dX12_digits_24 : decode cX12_digits 24 = .ok (.istore_n 3, 1) := by decide +kernel
theorem dX12_digits_25 : decode cX12_digits 25 = .ok (.aload_n 0, 1) := by decide +kernel
theorem dX12_digits_26 : decode cX12_digits 26 = .ok (.invokevirtual 203, 3) := by decide +kernel
theorem dX12_digits_29 : decode cX12_digits 29 = .ok (.ifCond .eq 43, 3) := by decide +kernel
theorem dX12_digits_32 : decode cX12_digits 32 = .ok (.aload_n 0, 1) := by decide +kernel
theorem dX12_digits_33 : decode cX12_digits 33 = .ok (.getfield 163, 3) := by decide +kernel
theorem dX12_digits_36 : decode cX12_digits 36 = .ok (.iload_n 2, 1) := by decide +kernel
theorem dX12_digits_37 : decode cX12_digits 37 = .ok (.isub, 1) := by decide +kernel
theorem dX12_digits_38 : decode cX12_digits 38 = .ok (.iconst 5, 1) := by decide +kernel
theorem dX12_digits_39 : decode cX12_digits 39 = .ok (.if_icmp .ge 18, 3) := by decide +kernel
theorem dX12_digits_42 : decode cX12_digits 42 = .ok (.bipush 10, 2) := by decide +kernel
theorem dX12_digits_44 : decode cX12_digits 44 = .ok (.iload_n 3, 1) := by decide +kernel
theorem dX12_digits_45 : decode cX12_digits 45 = .ok (.imul, 1) := by decide +kernel
theorem dX12_digits_46 : decode cX12_digits 46 = .ok (.aload_n 0, 1) := by decide +kernel
theorem dX12_digits_47 : decode cX12_digits 47 = .ok (.invokevirtual 166, 3) := by decide +kernel
theorem dX12_digits_50 : decode cX12_digits 50 = .ok (.iadd, 1) := by decide +kernel
theorem dX12_digits_51 : decode cX12_digits 51 = .ok (.bipush 48, 2) := by decide +kernel
theorem dX12_digits_53 : decode cX12_digits 53 = .ok (.isub, 1) := by decide +kernel
theorem dX12_digits_54 : decode cX12_digits 54 = .ok (.goto 4, 3) := by decide +kernel
theorem dX12_digits_57 : decode cX12_digits 57 = .ok (.iload_n 3, 1) := by decide +kernel
theorem dX12_digits_58 : decode cX12_digits 58 = .ok (.istore_n 3, 1) := by decide +kernel
theorem dX12_digits_59 : decode cX12_digits 59 = .ok (.aload_n 0, 1) := by decide +kernel
theorem dX12_digits_60 : decode cX12_digits 60 = .ok (.dup, 1) := by decide +kernel
theorem dX12_digits_61 : decode cX12_digits 61 = .ok (.getfield 163, 3) := by decide +kernel
theorem dX12_digits_64 : decode cX12_digits 64 = .ok (.iconst 1, 1) := by decide +kernel
theorem dX12_digits_65 : decode cX12_digits 65 = .ok (.iadd, 1) := by decide +kernel
theorem dX12_digits_66 : decode cX12_digits 66 = .ok (.putfield 163, 3) := by decide +kernel
theorem dX12_digits_69 : decode cX12_digits 69 = .ok (.goto (-44), 3) := by decide +kernel
theorem dX12_digits_72 : decode cX12_digits 72 = .ok (.aload_n 0, 1) := by decide +kernel
theorem dX12_digits_73 : decode cX12_digits 73 = .ok (.getfield 163, 3) := by decide +kernel
theorem dX12_digits_76 : decode cX12_digits 76 = .ok (.iload_n 2, 1) := by decide +kernel
theorem dX12_digits_77 : decode cX12_digits 77 = .ok (.isub, 1) := by decide +kernel
theorem dX12_digits_78 : decode cX12_digits 78 = .ok (.iconst 5, 1) := by decide +kernel
theorem dX12_digits_79 : decode cX12_digits 79 = .ok (.if_icmp .gt 8, 3) := by decide +kernel
theorem dX12_digits_82 : decode cX12_digits 82 = .ok (.iload_n 3, 1) := by decide +kernel
theorem dX12_digits_83 : decode cX12_digits 83 = .ok (.iload_n 1, 1) := by decide +kernel
theorem dX12_digits_84 : decode cX12_digits 84 = .ok (.if_icmp .le 9, 3) := by decide +kernel
theorem dX12_digits_87 : decode cX12_digits 87 = .ok (.aload_n 0, 1) := by decide +kernel
theorem dX12_digits_88 : decode cX12_digits 88 = .ok (.iconst 1, 1) := by decide +kernel
theorem dX12_digits_89 : decode cX12_digits 89 = .ok (.iload_n 2, 1) := by decide +kernel
theorem dX12_digits_90 : decode cX12_digits 90 = .ok (.invokevirtual 199, 3) := by decide +kernel
theorem dX12_digits_93 : decode cX12_digits 93 = .ok (.iload_n 3, 1) := by decide +kernel
theorem dX12_digits_94 : decode cX12_digits 94 = .ok (.ireturn, 1) := by decide +kernel
theorem dX12_value_0 : decode cX12_value 0 = .ok (.aload_n 0, 1) := by decide +kernel
theorem dX12_value_1 : decode cX12_value 1 = .ok (.invokevirtual 183, 3) := by decide +kernel
theorem dX12_value_4 : decode cX12_value 4 = .ok (.aload_n 0, 1) := by decide +kernel
theorem dX12_value_5 : decode cX12_value 5 = .ok (.getfield 163, 3) := by decide +kernel
theorem dX12_value_8 : decode cX12_value 8 = .ok (.istore_n 1, 1) := by decide +kernel
theorem dX12_value_9 : decode cX12_value 9 = .ok (.aload_n 0, 1) := by decide +kernel
theorem dX12_value_10 : decode cX12_value 10 = .ok (.invokevirtual 203, 3) := by decide +kernel
theorem dX12_value_13 : decode cX12_value 13 = .ok (.ifCond .eq 22, 3) := by decide +kernel
theorem dX12_value_16 : decode cX12_value 16 = .ok (.aload_n 0, 1) := by decide +kernel
theorem dX12_value_17 : decode cX12_value 17 = .ok (.ldc 207, 2) := by decide +kernel
theorem dX12_value_19 : decode cX12_value 19 = .ok (.invokevirtual 208, 3) := by decide +kernel
theorem dX12_value_22 : decode cX12_value 22 = .ok (.istore_n 2, 1) := by decide +kernel
theorem dX12_value_23 : decode cX12_value 23 = .ok (.aload_n 0, 1) := by decide +kernel
theorem dX12_value_24 : decode cX12_value 24 = .ok (.iload_n 1, 1) := by decide +kernel
theorem dX12_value_25 : decode cX12_value 25 = .ok (.invokevirtual 212, 3) := by decide +kernel
theorem dX12_value_28 : decode cX12_value 28 = .ok (.aload_n 0, 1) := by decide +kernel
theorem dX12_value_29 : decode cX12_value 29 = .ok (.iconst 0, 1) := by decide +kernel
theorem dX12_value_30 : decode cX12_value 30 = .ok (.iload_n 2, 1) := by decide +kernel
theorem dX12_value_31 : decode cX12_value 31 = .ok (.invokevirtual 215, 3) := by decide +kernel
theorem dX12_value_34 : decode cX12_value 34 = .ok (.return_, 1) := by decide +kernel
theorem dX12_value_35 : decode cX12_value 35 = .ok (.iconst 0, 1) := by decide +kernel
theorem dX12_value_36 : decode cX12_value 36 = .ok (.istore_n 2, 1) := by decide +kernel
theorem dX12_value_37 : decode cX12_value 37 = .ok (.iload_n 2, 1) := by decide +kernel
theorem dX12_value_38 : decode cX12_value 38 = .ok (.aload_n 0, 1) := by decide +kernel
theorem dX12_value_39 : decode cX12_value 39 = .ok (.getfield 64, 3) := by decide +kernel
theorem dX12_value_42 : decode cX12_value 42 = .ok (.if_icmp .ge 20, 3) := by decide +kernel
theorem dX12_value_45 : decode cX12_value 45 = .ok (.aload_n 0, 1) := by decide +kernel
theorem dX12_value_46 : decode cX12_value 46 = .ok (.iload_n 2, 1) := by decide +kernel
theorem dX12_value_47 : decode cX12_value 47 = .ok (.invokestatic 218, 3) := by decide +kernel
theorem dX12_value_50 : decode cX12_value 50 = .ok (.invokevirtual 186, 3) := by decide +kernel
theorem dX12_value_53 : decode cX12_value 53 = .ok (.ifCond .ne 9, 3) := by decide +kernel
theorem dX12_value_56 : decode cX12_value 56 = .ok (.iinc 2 1, 3) := by decide +kernel
theorem dX12_value_59 : decode cX12_value 59 = .ok (.goto (-22), 3) := by decide +kernel
theorem dX12_value_62 : decode cX12_value 62 = .ok (.iload_n 2, 1) := by decide +kernel
theorem dX12_value_63 : decode cX12_value 63 = .ok (.aload_n 0, 1) := by decide +kernel
theorem dX12_value_64 : decode cX12_value 64 = .ok (.getfield 64, 3) := by decide +kernel
theorem dX12_value_67 : decode cX12_value 67 = .ok (.if_icmp .ne 10, 3) := by decide +kernel
theorem dX12_value_70 : decode cX12_value 70 = .ok (.aload_n 0, 1) := by decide +kernel
theorem dX12_value_71 : decode cX12_value 71 = .ok (.iconst 0, 1) := by decide +kernel
theorem dX12_value_72 : decode cX12_value 72 = .ok (.iload_n 1, 1) := by decide +kernel
theorem dX12_value_73 : decode cX12_value 73 = .ok (.invokevirtual 199, 3) := by decide +kernel
theorem dX12_value_76 : decode cX12_value 76 = .ok (.return_, 1) := by decide +kernel
theorem dX12_value_77 : decode cX12_value 77 = .ok (.aload_n 0, 1) := by decide +kernel
theorem dX12_value_78 : decode cX12_value 78 = .ok (.iload_n 1, 1) := by decide +kernel
theorem dX12_value_79 : decode cX12_value 79 = .ok (.invokevirtual 212, 3) := by decide +kernel
theorem dX12_value_82 : decode cX12_value 82 = .ok (.aload_n 0, 1) := by decide +kernel
theorem dX12_value_83 : decode cX12_value 83 = .ok (.dup, 1) := by decide +kernel
theorem dX12_value_84 : decode cX12_value 84 = .ok (.getfield 163, 3) := by decide +kernel
theorem dX12_value_87 : decode cX12_value 87 = .ok (.iload_n 2, 1) := by decide +kernel
theorem dX12_value_88 : decode cX12_value 88 = .ok (.invokestatic 218, 3) := by decide +kernel
theorem dX12_value_91 : decode cX12_value 91 = .ok (.invokevirtual 174, 3) := by decide +kernel
theorem dX12_value_94 : decode cX12_value 94 = .ok (.iadd, 1) := by decide +kernel
theorem dX12_value_95 : decode cX12_value 95 = .ok (.putfield 163, 3) := by decide +kernel
theorem dX12_value_98 : decode cX12_value 98 = .ok (.aload_n 0, 1) := by decide +kernel
theorem dX12_value_99 : decode cX12_value 99 = .ok (.iconst 1, 1) := by decide +kernel
theorem dX12_value_100 : decode cX12_value 100 = .ok (.iload_n 2, 1) := by decide +kernel
theorem dX12_value_101 : decode cX12_value 101 = .ok (.invokevirtual 215, 3) := by decide +kernel
theorem dX12_value_104 : decode cX12_value 104 = .ok (.return_, 1) := by decide +kernel
theorem dX12_term_0 : decode cX12_term 0 = .ok (.aload_n 0, 1) := by decide +kernel
theorem dX12_term_1 : decode cX12_term 1 = .ok (.invokevirtual 222, 3) := by decide +kernel
theorem dX12_term_4 : decode cX12_term 4 = .ok (.aload_n 0, 1) := by decide +kernel
theorem dX12_term_5 : decode cX12_term 5 = .ok (.invokevirtual 183, 3) := by decide +kernel
theorem dX12_term_8 : decode cX12_term 8 = .ok (.aload_n 0, 1) := by decide +kernel
theorem dX12_term_9 : decode cX12_term 9 = .ok (.getfield 160, 3) := by decide +kernel
theorem dX12_term_12 : decode cX12_term 12 = .ok (.ifCond .ne 88, 3) := by decide +kernel
theorem dX12_term_15 : decode cX12_term 15 = .ok (.aload_n 0, 1) := by decide +kernel
theorem dX12_term_16 : decode cX12_term 16 = .ok (.invokevirtual 166, 3) := by decide +kernel
theorem dX12_term_19 : decode cX12_term 19 = .ok (.bipush 42, 2) := by decide +kernel
theorem dX12_term_21 : decode cX12_term 21 = .ok (.if_icmp .eq 21, 3) := by decide +kernel
theorem dX12_term_24 : decode cX12_term 24 = .ok (.aload_n 0, 1) := by decide +kernel
theorem dX12_term_25 : decode cX12_term 25 = .ok (.invokevirtual 166, 3) := by decide +kernel
theorem dX12_term_28 : decode cX12_term 28 = .ok (.bipush 47, 2) := by decide +kernel
theorem dX12_term_30 : decode cX12_term 30 = .ok (.if_icmp .eq 12, 3) := by decide +kernel
theorem dX12_term_33 : decode cX12_term 33 = .ok (.aload_n 0, 1) := by decide +kernel
theorem dX12_term_34 : decode cX12_term 34 = .ok (.invokevirtual 166, 3) := by decide +kernel
theorem dX12_term_37 : decode cX12_term 37 = .ok (.bipush 37, 2) := by decide +kernel
theorem dX12_term_39 : decode cX12_term 39 = .ok (.if_icmp .ne 61, 3) := by decide +kernel
theorem dX12_term_42 : decode cX12_term 42 = .ok (.aload_n 0, 1) := by decide +kernel
theorem dX12_term_43 : decode cX12_term 43 = .ok (.invokevirtual 166, 3) := by decide +kernel
theorem dX12_term_46 : decode cX12_term 46 = .ok (.bipush 42, 2) := by decide +kernel
theorem dX12_term_48 : decode cX12_term 48 = .ok (.if_icmp .ne 8, 3) := by decide +kernel
theorem dX12_term_51 : decode cX12_term 51 = .ok (.bipush 13, 2) := by decide +kernel
theorem dX12_term_53 : decode cX12_term 53 = .ok (.goto 19, 3) := by decide +kernel
theorem dX12_term_56 : decode cX12_term 56 = .ok (.aload_n 0, 1) := by decide +kernel
theorem dX12_term_57 : decode cX12_term 57 = .ok (.invokevirtual 166, 3) := by decide +kernel
theorem dX12_term_60 : decode cX12_term 60 = .ok (.bipush 47, 2) := by decide +kernel
theorem dX12_term_62 : decode cX12_term 62 = .ok (.if_icmp .ne 8, 3) := by decide +kernel
theorem dX12_term_65 : decode cX12_term 65 = .ok (.bipush 14, 2) := by decide +kernel
theorem dX12_term_67 : decode cX12_term 67 = .ok (.goto 5, 3) := by decide +kernel
theorem dX12_term_70 : decode cX12_term 70 = .ok (.bipush 15, 2) := by decide +kernel
theorem dX12_term_72 : decode cX12_term 72 = .ok (.istore_n 1, 1) := by decide +kernel
theorem dX12_term_73 : decode cX12_term 73 = .ok (.aload_n 0, 1) := by decide +kernel
theorem dX12_term_74 : decode cX12_term 74 = .ok (.dup, 1) := by decide +kernel
theorem dX12_term_75 : decode cX12_term 75 = .ok (.getfield 163, 3) := by decide +kernel
theorem dX12_term_78 : decode cX12_term 78 = .ok (.iconst 1, 1) := by decide +kernel
theorem dX12_term_79 : decode cX12_term 79 = .ok (.iadd, 1) := by decide +kernel
theorem dX12_term_80 : decode cX12_term 80 = .ok (.putfield 163, 3) := by decide +kernel
theorem dX12_term_83 : decode cX12_term 83 = .ok (.aload_n 0, 1) := by decide +kernel
theorem dX12_term_84 : decode cX12_term 84 = .ok (.invokevirtual 222, 3) := by decide +kernel
theorem dX12_term_87 : decode cX12_term 87 = .ok (.aload_n 0, 1) := by decide +kernel
theorem dX12_term_88 : decode cX12_term 88 = .ok (.iload_n 1, 1) := by decide +kernel
theorem dX12_term_89 : decode cX12_term 89 = .ok (.iconst 0, 1) := by decide +kernel
theorem dX12_term_90 : decode cX12_term 90 = .ok (.invokevirtual 215, 3) := by decide +kernel
theorem dX12_term_93 : decode cX12_term 93 = .ok (.aload_n 0, 1) := by decide +kernel
theorem dX12_term_94 : decode cX12_term 94 = .ok (.invokevirtual 183, 3) := by decide +kernel
theorem dX12_term_97 : decode cX12_term 97 = .ok (.goto (-89), 3) := by decide +kernel
theorem dX12_term_100 : decode cX12_term 100 = .ok (.return_, 1) := by decide +kernel
theorem dX12_sum_0 : decode cX12_sum 0 = .ok (.aload_n 0, 1) := by decide +kernel
theorem dX12_sum_1 : decode cX12_sum 1 = .ok (.invokevirtual 225, 3) := by decide +kernel
theorem dX12_sum_4 : decode cX12_sum 4 = .ok (.aload_n 0, 1) := by decide +kernel
theorem dX12_sum_5 : decode cX12_sum 5 = .ok (.getfield 160, 3) := by decide +kernel
theorem dX12_sum_8 : decode cX12_sum 8 = .ok (.ifCond .ne 59, 3) := by decide +kernel
theorem dX12_sum_11 : decode cX12_sum 11 = .ok (.aload_n 0, 1) := by decide +kernel
theorem dX12_sum_12 : decode cX12_sum 12 = .ok (.invokevirtual 166, 3) := by decide +kernel
theorem dX12_sum_15 : decode cX12_sum 15 = .ok (.bipush 43, 2) := by decide +kernel
theorem dX12_sum_17 : decode cX12_sum 17 = .ok (.if_icmp .eq 12, 3) := by decide +kernel
theorem dX12_sum_20 : decode cX12_sum 20 = .ok (.aload_n 0, 1) := by decide +kernel
theorem dX12_sum_21 : decode cX12_sum 21 = .ok (.invokevirtual 166, 3) := by decide +kernel
theorem dX12_sum_24 : decode cX12_sum 24 = .ok (.bipush 45, 2) := by decide +kernel
theorem dX12_sum_26 : decode cX12_sum 26 = .ok (.if_icmp .ne 41, 3) := by decide +kernel
theorem dX12_sum_29 : decode cX12_sum 29 = .ok (.aload_n 0, 1) := by decide +kernel
theorem dX12_sum_30 : decode cX12_sum 30 = .ok (.invokevirtual 166, 3) := by decide +kernel
theorem dX12_sum_33 : decode cX12_sum 33 = .ok (.bipush 43, 2) := by decide +kernel
theorem dX12_sum_35 : decode cX12_sum 35 = .ok (.if_icmp .ne 7, 3) := by decide +kernel
theorem dX12_sum_38 : decode cX12_sum 38 = .ok (.iconst 2, 1) := by decide +kernel
theorem dX12_sum_39 : decode cX12_sum 39 = .ok (.goto 4, 3) := by decide +kernel
theorem dX12_sum_42 : decode cX12_sum 42 = .ok (.iconst 3, 1) := by decide +kernel
theorem dX12_sum_43 : decode cX12_sum 43 = .ok (.istore_n 1, 1) := by decide +kernel
theorem dX12_sum_44 : decode cX12_sum 44 = .ok (.aload_n 0, 1) := by decide +kernel
theorem dX12_sum_45 : decode cX12_sum 45 = .ok (.dup, 1) := by decide +kernel
theorem dX12_sum_46 : decode cX12_sum 46 = .ok (.getfield 163, 3) := by decide +kernel
theorem dX12_sum_49 : decode cX12_sum 49 = .ok (.iconst 1, 1) := by decide +kernel
theorem dX12_sum_50 : decode cX12_sum 50 = .ok (.iadd, 1) := by decide +kernel
theorem dX12_sum_51 : decode cX12_sum 51 = .ok (.putfield 163, 3) := by decide +kernel
theorem dX12_sum_54 : decode cX12_sum 54 = .ok (.aload_n 0, 1) := by decide +kernel
theorem dX12_sum_55 : decode cX12_sum 55 = .ok (.invokevirtual 225, 3) := by decide +kernel
theorem dX12_sum_58 : decode cX12_sum 58 = .ok (.aload_n 0, 1) := by decide +kernel
theorem dX12_sum_59 : decode cX12_sum 59 = .ok (.iload_n 1, 1) := by decide +kernel
theorem dX12_sum_60 : decode cX12_sum 60 = .ok (.iconst 0, 1) := by decide +kernel
theorem dX12_sum_61 : decode cX12_sum 61 = .ok (.invokevirtual 215, 3) := by decide +kernel
theorem dX12_sum_64 : decode cX12_sum 64 = .ok (.goto (-60), 3) := by decide +kernel
theorem dX12_sum_67 : decode cX12_sum 67 = .ok (.return_, 1) := by decide +kernel
theorem dX12_compared_0 : decode cX12_compared 0 = .ok (.aload_n 0, 1) := by decide +kernel
theorem dX12_compared_1 : decode cX12_compared 1 = .ok (.invokevirtual 228, 3) := by decide +kernel
theorem dX12_compared_4 : decode cX12_compared 4 = .ok (.aload_n 0, 1) := by decide +kernel
theorem dX12_compared_5 : decode cX12_compared 5 = .ok (.invokevirtual 166, 3) := by decide +kernel
theorem dX12_compared_8 : decode cX12_compared 8 = .ok (.istore_n 1, 1) := by decide +kernel
theorem dX12_compared_9 : decode cX12_compared 9 = .ok (.iload_n 1, 1) := by decide +kernel
theorem dX12_compared_10 : decode cX12_compared 10 = .ok (.bipush 60, 2) := by decide +kernel
theorem dX12_compared_12 : decode cX12_compared 12 = .ok (.if_icmp .eq 25, 3) := by decide +kernel
theorem dX12_compared_15 : decode cX12_compared 15 = .ok (.iload_n 1, 1) := by decide +kernel
theorem dX12_compared_16 : decode cX12_compared 16 = .ok (.bipush 61, 2) := by decide +kernel
theorem dX12_compared_18 : decode cX12_compared 18 = .ok (.if_icmp .eq 19, 3) := by decide +kernel
theorem dX12_compared_21 : decode cX12_compared 21 = .ok (.iload_n 1, 1) := by decide +kernel
theorem dX12_compared_22 : decode cX12_compared 22 = .ok (.bipush 62, 2) := by decide +kernel
theorem dX12_compared_24 : decode cX12_compared 24 = .ok (.if_icmp .eq 13, 3) := by decide +kernel
theorem dX12_compared_27 : decode cX12_compared 27 = .ok (.aload_n 0, 1) := by decide +kernel
theorem dX12_compared_28 : decode cX12_compared 28 = .ok (.iconst 0, 1) := by decide +kernel
theorem dX12_compared_29 : decode cX12_compared 29 = .ok (.aload_n 0, 1) := by decide +kernel
theorem dX12_compared_30 : decode cX12_compared 30 = .ok (.getfield 163, 3) := by decide +kernel
theorem dX12_compared_33 : decode cX12_compared 33 = .ok (.invokevirtual 199, 3) := by decide +kernel
theorem dX12_compared_36 : decode cX12_compared 36 = .ok (.return_, 1) := by decide +kernel
theorem dX12_compared_37 : decode cX12_compared 37 = .ok (.aload_n 0, 1) := by decide +kernel
theorem dX12_compared_38 : decode cX12_compared 38 = .ok (.aload_n 0, 1) := by decide +kernel
theorem dX12_compared_39 : decode cX12_compared 39 = .ok (.getfield 163, 3) := by decide +kernel
theorem dX12_compared_42 : decode cX12_compared 42 = .ok (.invokevirtual 212, 3) := by decide +kernel
theorem dX12_compared_45 : decode cX12_compared 45 = .ok (.aload_n 0, 1) := by decide +kernel
theorem dX12_compared_46 : decode cX12_compared 46 = .ok (.dup, 1) := by decide +kernel
theorem dX12_compared_47 : decode cX12_compared 47 = .ok (.getfield 163, 3) := by decide +kernel
theorem dX12_compared_50 : decode cX12_compared 50 = .ok (.iconst 1, 1) := by decide +kernel
theorem dX12_compared_51 : decode cX12_compared 51 = .ok (.iadd, 1) := by decide +kernel
theorem dX12_compared_52 : decode cX12_compared 52 = .ok (.putfield 163, 3) := by decide +kernel
theorem dX12_compared_55 : decode cX12_compared 55 = .ok (.iload_n 1, 1) := by decide +kernel
theorem dX12_compared_56 : decode cX12_compared 56 = .ok (.bipush 61, 2) := by decide +kernel
theorem dX12_compared_58 : decode cX12_compared 58 = .ok (.if_icmp .eq 16, 3) := by decide +kernel
theorem dX12_compared_61 : decode cX12_compared 61 = .ok (.aload_n 0, 1) := by decide +kernel
theorem dX12_compared_62 : decode cX12_compared 62 = .ok (.invokevirtual 166, 3) := by decide +kernel
theorem dX12_compared_65 : decode cX12_compared 65 = .ok (.bipush 61, 2) := by decide +kernel
theorem dX12_compared_67 : decode cX12_compared 67 = .ok (.if_icmp .ne 7, 3) := by decide +kernel
theorem dX12_compared_70 : decode cX12_compared 70 = .ok (.iconst 1, 1) := by decide +kernel
theorem dX12_compared_71 : decode cX12_compared 71 = .ok (.goto 4, 3) := by decide +kernel
theorem dX12_compared_74 : decode cX12_compared 74 = .ok (.iconst 0, 1) := by decide +kernel
theorem dX12_compared_75 : decode cX12_compared 75 = .ok (.istore_n 2, 1) := by decide +kernel
theorem dX12_compared_76 : decode cX12_compared 76 = .ok (.aload_n 0, 1) := by decide +kernel
theorem dX12_compared_77 : decode cX12_compared 77 = .ok (.dup, 1) := by decide +kernel
theorem dX12_compared_78 : decode cX12_compared 78 = .ok (.getfield 163, 3) := by decide +kernel
theorem dX12_compared_81 : decode cX12_compared 81 = .ok (.iload_n 2, 1) := by decide +kernel
theorem dX12_compared_82 : decode cX12_compared 82 = .ok (.ifCond .eq 7, 3) := by decide +kernel
theorem dX12_compared_85 : decode cX12_compared 85 = .ok (.iconst 1, 1) := by decide +kernel
theorem dX12_compared_86 : decode cX12_compared 86 = .ok (.goto 4, 3) := by decide +kernel
theorem dX12_compared_89 : decode cX12_compared 89 = .ok (.iconst 0, 1) := by decide +kernel
theorem dX12_compared_90 : decode cX12_compared 90 = .ok (.iadd, 1) := by decide +kernel
theorem dX12_compared_91 : decode cX12_compared 91 = .ok (.putfield 163, 3) := by decide +kernel
theorem dX12_compared_94 : decode cX12_compared 94 = .ok (.aload_n 0, 1) := by decide +kernel
theorem dX12_compared_95 : decode cX12_compared 95 = .ok (.invokevirtual 228, 3) := by decide +kernel
theorem dX12_compared_98 : decode cX12_compared 98 = .ok (.aload_n 0, 1) := by decide +kernel
theorem dX12_compared_99 : decode cX12_compared 99 = .ok (.iload_n 1, 1) := by decide +kernel
theorem dX12_compared_100 : decode cX12_compared 100 = .ok (.bipush 61, 2) := by decide +kernel
theorem dX12_compared_102 : decode cX12_compared 102 = .ok (.if_icmp .ne 8, 3) := by decide +kernel
theorem dX12_compared_105 : decode cX12_compared 105 = .ok (.bipush 6, 2) := by decide +kernel
theorem dX12_compared_107 : decode cX12_compared 107 = .ok (.goto 32, 3) := by decide +kernel
theorem dX12_compared_110 : decode cX12_compared 110 = .ok (.iload_n 1, 1) := by decide +kernel
theorem dX12_compared_111 : decode cX12_compared 111 = .ok (.bipush 60, 2) := by decide +kernel
theorem dX12_compared_113 : decode cX12_compared 113 = .ok (.if_icmp .ne 15, 3) := by decide +kernel
theorem dX12_compared_116 : decode cX12_compared 116 = .ok (.iload_n 2, 1) := by decide +kernel
theorem dX12_compared_117 : decode cX12_compared 117 = .ok (.ifCond .eq 7, 3) := by decide +kernel
theorem dX12_compared_120 : decode cX12_compared 120 = .ok (.iconst 5, 1) := by decide +kernel
theorem dX12_compared_121 : decode cX12_compared 121 = .ok (.goto 18, 3) := by decide +kernel
theorem dX12_compared_124 : decode cX12_compared 124 = .ok (.iconst 4, 1) := by decide +kernel
theorem dX12_compared_125 : decode cX12_compared 125 = .ok (.goto 14, 3) := by decide +kernel
theorem dX12_compared_128 : decode cX12_compared 128 = .ok (.iload_n 2, 1) := by decide +kernel
theorem dX12_compared_129 : decode cX12_compared 129 = .ok (.ifCond .eq 8, 3) := by decide +kernel
theorem dX12_compared_132 : decode cX12_compared 132 = .ok (.bipush 7, 2) := by decide +kernel
theorem dX12_compared_134 : decode cX12_compared 134 = .ok (.goto 5, 3) := by decide +kernel
theorem dX12_compared_137 : decode cX12_compared 137 = .ok (.bipush 8, 2) := by decide +kernel
theorem dX12_compared_139 : decode cX12_compared 139 = .ok (.iconst 0, 1) := by decide +kernel
theorem dX12_compared_140 : decode cX12_compared 140 = .ok (.invokevirtual 215, 3) := by decide +kernel
theorem dX12_compared_143 : decode cX12_compared 143 = .ok (.return_, 1) := by decide +kernel
theorem dX12_top_0 : decode cX12_top 0 = .ok (.aload_n 0, 1) := by decide +kernel
theorem dX12_top_1 : decode cX12_top 1 = .ok (.getfield 231, 3) := by decide +kernel
theorem dX12_top_4 : decode cX12_top 4 = .ok (.ifCond .ne 7, 3) := by decide +kernel
theorem dX12_top_7 : decode cX12_top 7 = .ok (.iconst (-1), 1) := by decide +kernel
theorem dX12_top_8 : decode cX12_top 8 = .ok (.goto 14, 3) := by decide +kernel
theorem dX12_top_11 : decode cX12_top 11 = .ok (.aload_n 0, 1) := by decide +kernel
theorem dX12_top_12 : decode cX12_top 12 = .ok (.getfield 90, 3) := by decide +kernel
theorem dX12_top_15 : decode cX12_top 15 = .ok (.aload_n 0, 1) := by decide +kernel
theorem dX12_top_16 : decode cX12_top 16 = .ok (.getfield 231, 3) := by decide +kernel
theorem dX12_top_19 : decode cX12_top 19 = .ok (.iconst 1, 1) := by decide +kernel
theorem dX12_top_20 : decode cX12_top 20 = .ok (.isub, 1) := by decide +kernel
theorem dX12_top_21 : decode cX12_top 21 = .ok (.iaload, 1) := by decide +kernel
theorem dX12_top_22 : decode cX12_top 22 = .ok (.ireturn, 1) := by decide +kernel
theorem dX12_opens_0 : decode cX12_opens 0 = .ok (.iload_n 1, 1) := by decide +kernel
theorem dX12_opens_1 : decode cX12_opens 1 = .ok (.bipush 9, 2) := by decide +kernel
theorem dX12_opens_3 : decode cX12_opens 3 = .ok (.if_icmp .eq 9, 3) := by decide +kernel
theorem dX12_opens_6 : decode cX12_opens 6 = .ok (.iload_n 1, 1) := by decide +kernel
theorem dX12_opens_7 : decode cX12_opens 7 = .ok (.bipush 12, 2) := by decide +kernel
theorem dX12_opens_9 : decode cX12_opens 9 = .ok (.if_icmp .ne 31, 3) := by decide +kernel
theorem dX12_opens_12 : decode cX12_opens 12 = .ok (.aload_n 0, 1) := by decide +kernel
theorem dX12_opens_13 : decode cX12_opens 13 = .ok (.getfield 234, 3) := by decide +kernel
theorem dX12_opens_16 : decode cX12_opens 16 = .ok (.bipush 10, 2) := by decide +kernel
theorem dX12_opens_18 : decode cX12_opens 18 = .ok (.if_icmp .ne 12, 3) := by decide +kernel
theorem dX12_opens_21 : decode cX12_opens 21 = .ok (.aload_n 0, 1) := by decide +kernel
theorem dX12_opens_22 : decode cX12_opens 22 = .ok (.iconst 2, 1) := by decide +kernel
theorem dX12_opens_23 : decode cX12_opens 23 = .ok (.aload_n 0, 1) := by decide +kernel
theorem dX12_opens_24 : decode cX12_opens 24 = .ok (.getfield 163, 3) := by decide +kernel
theorem dX12_opens_27 : decode cX12_opens 27 = .ok (.invokevirtual 199, 3) := by decide +kernel
theorem dX12_opens_30 : decode cX12_opens 30 = .ok (.aload_n 0, 1) := by decide +kernel
theorem dX12_opens_31 : decode cX12_opens 31 = .ok (.dup, 1) := by decide +kernel
theorem dX12_opens_32 : decode cX12_opens 32 = .ok (.getfield 234, 3) := by decide +kernel
theorem dX12_opens_35 : decode cX12_opens 35 = .ok (.iconst 1, 1) := by decide +kernel
theorem dX12_opens_36 : decode cX12_opens 36 = .ok (.iadd, 1) := by decide +kernel
theorem dX12_opens_37 : decode cX12_opens 37 = .ok (.putfield 234, 3) := by decide +kernel
theorem dX12_opens_40 : decode cX12_opens 40 = .ok (.aload_n 0, 1) := by decide +kernel
theorem dX12_opens_41 : decode cX12_opens 41 = .ok (.getfield 90, 3) := by decide +kernel
theorem dX12_opens_44 : decode cX12_opens 44 = .ok (.aload_n 0, 1) := by decide +kernel
theorem dX12_opens_45 : decode cX12_opens 45 = .ok (.getfield 231, 3) := by decide +kernel
theorem dX12_opens_48 : decode cX12_opens 48 = .ok (.iload_n 1, 1) := by decide +kernel
theorem dX12_opens_49 : decode cX12_opens 49 = .ok (.iastore, 1) := by decide +kernel
theorem dX12_opens_50 : decode cX12_opens 50 = .ok (.aload_n 0, 1) := by decide +kernel
theorem dX12_opens_51 : decode cX12_opens 51 = .ok (.dup, 1) := by decide +kernel
theorem dX12_opens_52 : decode cX12_opens 52 = .ok (.getfield 231, 3) := by decide +kernel
theorem dX12_opens_55 : decode cX12_opens 55 = .ok (.iconst 1, 1) := by decide +kernel
theorem dX12_opens_56 : decode cX12_opens 56 = .ok (.iadd, 1) := by decide +kernel
theorem dX12_opens_57 : decode cX12_opens 57 = .ok (.putfield 231, 3) := by decide +kernel
theorem dX12_opens_60 : decode cX12_opens 60 = .ok (.return_, 1) := by decide +kernel
theorem dX12_answers_0 : decode cX12_answers 0 = .ok (.aload_n 0, 1) := by decide +kernel
theorem dX12_answers_1 : decode cX12_answers 1 = .ok (.invokevirtual 237, 3) := by decide +kernel
theorem dX12_answers_4 : decode cX12_answers 4 = .ok (.iload_n 1, 1) := by decide +kernel
theorem dX12_answers_5 : decode cX12_answers 5 = .ok (.if_icmp .ne 49, 3) := by decide +kernel
theorem dX12_answers_8 : decode cX12_answers 8 = .ok (.aload_n 0, 1) := by decide +kernel
theorem dX12_answers_9 : decode cX12_answers 9 = .ok (.getfield 160, 3) := by decide +kernel
theorem dX12_answers_12 : decode cX12_answers 12 = .ok (.ifCond .ne 42, 3) := by decide +kernel
theorem dX12_answers_15 : decode cX12_answers 15 = .ok (.aload_n 0, 1) := by decide +kernel
theorem dX12_answers_16 : decode cX12_answers 16 = .ok (.iload_n 1, 1) := by decide +kernel
theorem dX12_answers_17 : decode cX12_answers 17 = .ok (.iconst 0, 1) := by decide +kernel
theorem dX12_answers_18 : decode cX12_answers 18 = .ok (.invokevirtual 215, 3) := by decide +kernel
theorem dX12_answers_21 : decode cX12_answers 21 = .ok (.aload_n 0, 1) := by decide +kernel
theorem dX12_answers_22 : decode cX12_answers 22 = .ok (.dup, 1) := by decide +kernel
theorem dX12_answers_23 : decode cX12_answers 23 = .ok (.getfield 231, 3) := by decide +kernel
theorem dX12_answers_26 : decode cX12_answers 26 = .ok (.iconst 1, 1) := by decide +kernel
theorem dX12_answers_27 : decode cX12_answers 27 = .ok (.isub, 1) := by decide +kernel
theorem dX12_answers_28 : decode cX12_answers 28 = .ok (.putfield 231, 3) := by decide +kernel
theorem dX12_answers_31 : decode cX12_answers 31 = .ok (.aload_n 0, 1) := by decide +kernel
theorem dX12_answers_32 : decode cX12_answers 32 = .ok (.dup, 1) := by decide +kernel
theorem dX12_answers_33 : decode cX12_answers 33 = .ok (.getfield 234, 3) := by decide +kernel
theorem dX12_answers_36 : decode cX12_answers 36 = .ok (.iload_n 1, 1) := by decide +kernel
theorem dX12_answers_37 : decode cX12_answers 37 = .ok (.bipush 9, 2) := by decide +kernel
theorem dX12_answers_39 : decode cX12_answers 39 = .ok (.if_icmp .ne 7, 3) := by decide +kernel
theorem dX12_answers_42 : decode cX12_answers 42 = .ok (.iconst 1, 1) := by decide +kernel
theorem dX12_answers_43 : decode cX12_answers 43 = .ok (.goto 4, 3) := by decide +kernel
theorem dX12_answers_46 : decode cX12_answers 46 = .ok (.iconst 0, 1) := by decide +kernel
theorem dX12_answers_47 : decode cX12_answers 47 = .ok (.isub, 1) := by decide +kernel
theorem dX12_answers_48 : decode cX12_answers 48 = .ok (.putfield 234, 3) := by decide +kernel
theorem dX12_answers_51 : decode cX12_answers 51 = .ok (.goto (-51), 3) := by decide +kernel
theorem dX12_answers_54 : decode cX12_answers 54 = .ok (.return_, 1) := by decide +kernel
theorem dX12_fact_0 : decode cX12_fact 0 = .ok (.aload_n 0, 1) := by decide +kernel
theorem dX12_fact_1 : decode cX12_fact 1 = .ok (.invokevirtual 183, 3) := by decide +kernel
theorem dX12_fact_4 : decode cX12_fact 4 = .ok (.aload_n 0, 1) := by decide +kernel
theorem dX12_fact_5 : decode cX12_fact 5 = .ok (.ldc 240, 2) := by decide +kernel
theorem dX12_fact_7 : decode cX12_fact 7 = .ok (.invokevirtual 186, 3) := by decide +kernel
theorem dX12_fact_10 : decode cX12_fact 10 = .ok (.ifCond .eq 21, 3) := by decide +kernel
theorem dX12_fact_13 : decode cX12_fact 13 = .ok (.aload_n 0, 1) := by decide +kernel
theorem dX12_fact_14 : decode cX12_fact 14 = .ok (.bipush 9, 2) := by decide +kernel
theorem dX12_fact_16 : decode cX12_fact 16 = .ok (.invokevirtual 242, 3) := by decide +kernel
theorem dX12_fact_19 : decode cX12_fact 19 = .ok (.aload_n 0, 1) := by decide +kernel
theorem dX12_fact_20 : decode cX12_fact 20 = .ok (.dup, 1) := by decide +kernel
theorem dX12_fact_21 : decode cX12_fact 21 = .ok (.getfield 163, 3) := by decide +kernel
theorem dX12_fact_24 : decode cX12_fact 24 = .ok (.iconst 3, 1) := by decide +kernel
theorem dX12_fact_25 : decode cX12_fact 25 = .ok (.iadd, 1) := by decide +kernel
theorem dX12_fact_26 : decode cX12_fact 26 = .ok (.putfield 163, 3) := by decide +kernel
theorem dX12_fact_29 : decode cX12_fact 29 = .ok (.iconst 0, 1) := by decide +kernel
theorem dX12_fact_30 : decode cX12_fact 30 = .ok (.ireturn, 1) := by decide +kernel
theorem dX12_fact_31 : decode cX12_fact 31 = .ok (.aload_n 0, 1) := by decide +kernel
theorem dX12_fact_32 : decode cX12_fact 32 = .ok (.invokevirtual 166, 3) := by decide +kernel
theorem dX12_fact_35 : decode cX12_fact 35 = .ok (.bipush 91, 2) := by decide +kernel
theorem dX12_fact_37 : decode cX12_fact 37 = .ok (.if_icmp .ne 21, 3) := by decide +kernel
theorem dX12_fact_40 : decode cX12_fact 40 = .ok (.aload_n 0, 1) := by decide +kernel
theorem dX12_fact_41 : decode cX12_fact 41 = .ok (.bipush 12, 2) := by decide +kernel
theorem dX12_fact_43 : decode cX12_fact 43 = .ok (.invokevirtual 242, 3) := by decide +kernel
theorem dX12_fact_46 : decode cX12_fact 46 = .ok (.aload_n 0, 1) := by decide +kernel
theorem dX12_fact_47 : decode cX12_fact 47 = .ok (.dup, 1) := by decide +kernel
theorem dX12_fact_48 : decode cX12_fact 48 = .ok (.getfield 163, 3) := by decide +kernel
theorem dX12_fact_51 : decode cX12_fact 51 = .ok (.iconst 1, 1) := by decide +kernel
theorem dX12_fact_52 : decode cX12_fact 52 = .ok (.iadd, 1) := by decide +kernel
theorem dX12_fact_53 : decode cX12_fact 53 = .ok (.putfield 163, 3) := by decide +kernel
theorem dX12_fact_56 : decode cX12_fact 56 = .ok (.iconst 0, 1) := by decide +kernel
theorem dX12_fact_57 : decode cX12_fact 57 = .ok (.ireturn, 1) := by decide +kernel
theorem dX12_fact_58 : decode cX12_fact 58 = .ok (.aload_n 0, 1) := by decide +kernel
theorem dX12_fact_59 : decode cX12_fact 59 = .ok (.invokevirtual 245, 3) := by decide +kernel
theorem dX12_fact_62 : decode cX12_fact 62 = .ok (.iconst 1, 1) := by decide +kernel
theorem dX12_fact_63 : decode cX12_fact 63 = .ok (.ireturn, 1) := by decide +kernel
theorem dX12_test_0 : decode cX12_test 0 = .ok (.aload_n 0, 1) := by decide +kernel
theorem dX12_test_1 : decode cX12_test 1 = .ok (.iconst 0, 1) := by decide +kernel
theorem dX12_test_2 : decode cX12_test 2 = .ok (.putfield 231, 3) := by decide +kernel
theorem dX12_test_5 : decode cX12_test 5 = .ok (.iconst 1, 1) := by decide +kernel
theorem dX12_test_6 : decode cX12_test 6 = .ok (.istore_n 1, 1) := by decide +kernel
theorem dX12_test_7 : decode cX12_test 7 = .ok (.iconst 1, 1) := by decide +kernel
theorem dX12_test_8 : decode cX12_test 8 = .ok (.istore_n 2, 1) := by decide +kernel
theorem dX12_test_9 : decode cX12_test 9 = .ok (.iload_n 2, 1) := by decide +kernel
theorem dX12_test_10 : decode cX12_test 10 = .ok (.ifCond .eq 191, 3) := by decide +kernel
theorem dX12_test_13 : decode cX12_test 13 = .ok (.aload_n 0, 1) := by decide +kernel
theorem dX12_test_14 : decode cX12_test 14 = .ok (.getfield 160, 3) := by decide +kernel
theorem dX12_test_17 : decode cX12_test 17 = .ok (.ifCond .ne 184, 3) := by decide +kernel
theorem dX12_test_20 : decode cX12_test 20 = .ok (.iload_n 1, 1) := by decide +kernel
theorem dX12_test_21 : decode cX12_test 21 = .ok (.ifCond .eq 19, 3) := by decide +kernel
theorem dX12_test_24 : decode cX12_test 24 = .ok (.aload_n 0, 1) := by decide +kernel
theorem dX12_test_25 : decode cX12_test 25 = .ok (.invokevirtual 248, 3) := by decide +kernel
theorem dX12_test_28 : decode cX12_test 28 = .ok (.ifCond .ne 7, 3) := by decide +kernel
theorem dX12_test_31 : decode cX12_test 31 = .ok (.iconst 1, 1) := by decide +kernel
theorem dX12_test_32 : decode cX12_test 32 = .ok (.goto 4, 3) := by decide +kernel
theorem dX12_test_35 : decode cX12_test 35 = .ok (.iconst 0, 1) := by decide +kernel
theorem dX12_test_36 : decode cX12_test 36 = .ok (.istore_n 1, 1) := by decide +kernel
theorem dX12_test_37 : decode cX12_test 37 = .ok (.goto (-28), 3) := by decide +kernel
theorem dX12_test_40 : decode cX12_test 40 = .ok (.aload_n 0, 1) := by decide +kernel
theorem dX12_test_41 : decode cX12_test 41 = .ok (.bipush 9, 2) := by decide +kernel
theorem dX12_test_43 : decode cX12_test 43 = .ok (.invokevirtual 251, 3) := by decide +kernel
theorem dX12_test_46 : decode cX12_test 46 = .ok (.aload_n 0, 1) := by decide +kernel
theorem dX12_test_47 : decode cX12_test 47 = .ok (.invokevirtual 183, 3) := by decide +kernel
theorem dX12_test_50 : decode cX12_test 50 = .ok (.aload_n 0, 1) := by decide +kernel
theorem dX12_test_51 : decode cX12_test 51 = .ok (.ldc 254, 2) := by decide +kernel
theorem dX12_test_53 : decode cX12_test 53 = .ok (.invokevirtual 186, 3) := by decide +kernel
theorem dX12_test_56 : decode cX12_test 56 = .ok (.istore_n 3, 1) := by decide +kernel
theorem dX12_test_57 : decode cX12_test 57 = .ok (.aload_n 0, 1) := by decide +kernel
theorem dX12_test_58 : decode cX12_test 58 = .ok (.ldc_w 256, 3) := by decide +kernel
theorem dX12_test_61 : decode cX12_test 61 = .ok (.invokevirtual 186, 3) := by decide +kernel
theorem dX12_test_64 : decode cX12_test 64 = .ok (.istore 4, 2) := by decide +kernel
theorem dX12_test_66 : decode cX12_test 66 = .ok (.aload_n 0, 1) := by decide +kernel
theorem dX12_test_67 : decode cX12_test 67 = .ok (.bipush 10, 2) := by decide +kernel
theorem dX12_test_69 : decode cX12_test 69 = .ok (.invokevirtual 251, 3) := by decide +kernel
theorem dX12_test_72 : decode cX12_test 72 = .ok (.iload_n 3, 1) := by decide +kernel
theorem dX12_test_73 : decode cX12_test 73 = .ok (.ifCond .ne 8, 3) := by decide +kernel
theorem dX12_test_76 : decode cX12_test 76 = .ok (.iload 4, 2) := by decide +kernel
theorem dX12_test_78 : decode cX12_test 78 = .ok (.ifCond .eq 52, 3) := by decide +kernel
theorem dX12_test_81 : decode cX12_test 81 = .ok (.iload 4, 2) := by decide +kernel
theorem dX12_test_83 : decode cX12_test 83 = .ok (.ifCond .eq 9, 3) := by decide +kernel
theorem dX12_test_86 : decode cX12_test 86 = .ok (.aload_n 0, 1) := by decide +kernel
theorem dX12_test_87 : decode cX12_test 87 = .ok (.bipush 11, 2) := by decide +kernel
theorem dX12_test_89 : decode cX12_test 89 = .ok (.invokevirtual 251, 3) := by decide +kernel
theorem dX12_test_92 : decode cX12_test 92 = .ok (.aload_n 0, 1) := by decide +kernel
theorem dX12_test_93 : decode cX12_test 93 = .ok (.iload_n 3, 1) := by decide +kernel
theorem dX12_test_94 : decode cX12_test 94 = .ok (.ifCond .eq 8, 3) := by decide +kernel
theorem dX12_test_97 : decode cX12_test 97 = .ok (.bipush 10, 2) := by decide +kernel
theorem dX12_test_99 : decode cX12_test 99 = .ok (.goto 5, 3) := by decide +kernel
theorem dX12_test_102 : decode cX12_test 102 = .ok (.bipush 11, 2) := by decide +kernel
theorem dX12_test_104 : decode cX12_test 104 = .ok (.invokevirtual 242, 3) := by decide +kernel
theorem dX12_test_107 : decode cX12_test 107 = .ok (.aload_n 0, 1) := by decide +kernel
theorem dX12_test_108 : decode cX12_test 108 = .ok (.dup, 1) := by decide +kernel
theorem dX12_test_109 : decode cX12_test 109 = .ok (.getfield 163, 3) := by decide +kernel
theorem dX12_test_112 : decode cX12_test 112 = .ok (.iload_n 3, 1) := by decide +kernel
theorem dX12_test_113 : decode cX12_test 113 = .ok (.ifCond .eq 7, 3) := by decide +kernel
theorem dX12_test_116 : decode cX12_test 116 = .ok (.iconst 3, 1) := by decide +kernel
theorem dX12_test_117 : decode cX12_test 117 = .ok (.goto 4, 3) := by decide +kernel
theorem dX12_test_120 : decode cX12_test 120 = .ok (.iconst 2, 1) := by decide +kernel
theorem dX12_test_121 : decode cX12_test 121 = .ok (.iadd, 1) := by decide +kernel
theorem dX12_test_122 : decode cX12_test 122 = .ok (.putfield 163, 3) := by decide +kernel
theorem dX12_test_125 : decode cX12_test 125 = .ok (.iconst 1, 1) := by decide +kernel
theorem dX12_test_126 : decode cX12_test 126 = .ok (.istore_n 1, 1) := by decide +kernel
theorem dX12_test_127 : decode cX12_test 127 = .ok (.goto 71, 3) := by decide +kernel
theorem dX12_test_130 : decode cX12_test 130 = .ok (.aload_n 0, 1) := by decide +kernel
theorem dX12_test_131 : decode cX12_test 131 = .ok (.bipush 11, 2) := by decide +kernel
theorem dX12_test_133 : decode cX12_test 133 = .ok (.invokevirtual 251, 3) := by decide +kernel
theorem dX12_test_136 : decode cX12_test 136 = .ok (.aload_n 0, 1) := by decide +kernel
theorem dX12_test_137 : decode cX12_test 137 = .ok (.invokevirtual 237, 3) := by decide +kernel
theorem dX12_test_140 : decode cX12_test 140 = .ok (.bipush 12, 2) := by decide +kernel
theorem dX12_test_142 : decode cX12_test 142 = .ok (.if_icmp .ne 54, 3) := by decide +kernel
theorem dX12_test_145 : decode cX12_test 145 = .ok (.aload_n 0, 1) := by decide +kernel
theorem dX12_test_146 : decode cX12_test 146 = .ok (.invokevirtual 166, 3) := by decide +kernel
theorem dX12_test_149 : decode cX12_test 149 = .ok (.bipush 93, 2) := by decide +kernel
theorem dX12_test_151 : decode cX12_test 151 = .ok (.if_icmp .eq 12, 3) := by decide +kernel
theorem dX12_test_154 : decode cX12_test 154 = .ok (.aload_n 0, 1) := by decide +kernel
theorem dX12_test_155 : decode cX12_test 155 = .ok (.iconst 0, 1) := by decide +kernel
theorem dX12_test_156 : decode cX12_test 156 = .ok (.aload_n 0, 1) := by decide +kernel
theorem dX12_test_157 : decode cX12_test 157 = .ok (.getfield 163, 3) := by decide +kernel
theorem dX12_test_160 : decode cX12_test 160 = .ok (.invokevirtual 199, 3) := by decide +kernel
theorem dX12_test_163 : decode cX12_test 163 = .ok (.aload_n 0, 1) := by decide +kernel
theorem dX12_test_164 : decode cX12_test 164 = .ok (.dup, 1) := by decide +kernel
theorem dX12_test_165 : decode cX12_test 165 = .ok (.getfield 163, 3) := by decide +kernel
theorem dX12_test_168 : decode cX12_test 168 = .ok (.iconst 1, 1) := by decide +kernel
theorem dX12_test_169 : decode cX12_test 169 = .ok (.iadd, 1) := by decide +kernel
theorem dX12_test_170 : decode cX12_test 170 = .ok (.putfield 163, 3) := by decide +kernel
theorem dX12_test_173 : decode cX12_test 173 = .ok (.aload_n 0, 1) := by decide +kernel
theorem dX12_test_174 : decode cX12_test 174 = .ok (.dup, 1) := by decide +kernel
theorem dX12_test_175 : decode cX12_test 175 = .ok (.getfield 231, 3) := by decide +kernel
theorem dX12_test_178 : decode cX12_test 178 = .ok (.iconst 1, 1) := by decide +kernel
theorem dX12_test_179 : decode cX12_test 179 = .ok (.isub, 1) := by decide +kernel
theorem dX12_test_180 : decode cX12_test 180 = .ok (.putfield 231, 3) := by decide +kernel
theorem dX12_test_183 : decode cX12_test 183 = .ok (.aload_n 0, 1) := by decide +kernel
theorem dX12_test_184 : decode cX12_test 184 = .ok (.dup, 1) := by decide +kernel
theorem dX12_test_185 : decode cX12_test 185 = .ok (.getfield 234, 3) := by decide +kernel
theorem dX12_test_188 : decode cX12_test 188 = .ok (.iconst 1, 1) := by decide +kernel
theorem dX12_test_189 : decode cX12_test 189 = .ok (.isub, 1) := by decide +kernel
theorem dX12_test_190 : decode cX12_test 190 = .ok (.putfield 234, 3) := by decide +kernel
theorem dX12_test_193 : decode cX12_test 193 = .ok (.goto 5, 3) := by decide +kernel
theorem dX12_test_196 : decode cX12_test 196 = .ok (.iconst 0, 1) := by decide +kernel
theorem dX12_test_197 : decode cX12_test 197 = .ok (.istore_n 2, 1) := by decide +kernel
theorem dX12_test_198 : decode cX12_test 198 = .ok (.goto (-189), 3) := by decide +kernel
theorem dX12_test_201 : decode cX12_test 201 = .ok (.return_, 1) := by decide +kernel
theorem dX12_amount_0 : decode cX12_amount 0 = .ok (.aload_n 0, 1) := by decide +kernel
theorem dX12_amount_1 : decode cX12_amount 1 = .ok (.invokevirtual 183, 3) := by decide +kernel
theorem dX12_amount_4 : decode cX12_amount 4 = .ok (.aload_n 0, 1) := by decide +kernel
theorem dX12_amount_5 : decode cX12_amount 5 = .ok (.getfield 163, 3) := by decide +kernel
theorem dX12_amount_8 : decode cX12_amount 8 = .ok (.istore_n 3, 1) := by decide +kernel
theorem dX12_amount_9 : decode cX12_amount 9 = .ok (.aload_n 0, 1) := by decide +kernel
theorem dX12_amount_10 : decode cX12_amount 10 = .ok (.getfield 160, 3) := by decide +kernel
theorem dX12_amount_13 : decode cX12_amount 13 = .ok (.ifCond .ne 12, 3) := by decide +kernel
theorem dX12_amount_16 : decode cX12_amount 16 = .ok (.aload_n 0, 1) := by decide +kernel
theorem dX12_amount_17 : decode cX12_amount 17 = .ok (.ldc 207, 2) := by decide +kernel
theorem dX12_amount_19 : decode cX12_amount 19 = .ok (.invokevirtual 208, 3) := by decide +kernel
theorem dX12_amount_22 : decode cX12_amount 22 = .ok (.goto 4, 3) := by decide +kernel
theorem dX12_amount_25 : decode cX12_amount 25 = .ok (.iconst 0, 1) := by decide +kernel
theorem dX12_amount_26 : decode cX12_amount 26 = .ok (.istore 4, 2) := by decide +kernel
theorem dX12_amount_28 : decode cX12_amount 28 = .ok (.aload_n 0, 1) := by decide +kernel
theorem dX12_amount_29 : decode cX12_amount 29 = .ok (.getfield 160, 3) := by decide +kernel
theorem dX12_amount_32 : decode cX12_amount 32 = .ok (.ifCond .ne 22, 3) := by decide +kernel
theorem dX12_amount_35 : decode cX12_amount 35 = .ok (.iload 4, 2) := by decide +kernel
theorem dX12_amount_37 : decode cX12_amount 37 = .ok (.i2l, 1) := by decide +kernel
theorem dX12_amount_38 : decode cX12_amount 38 = .ok (.iload_n 1, 1) := by decide +kernel
theorem dX12_amount_39 : decode cX12_amount 39 = .ok (.i2l, 1) := by decide +kernel
theorem dX12_amount_40 : decode cX12_amount 40 = .ok (.iload_n 2, 1) := by decide +kernel
theorem dX12_amount_41 : decode cX12_amount 41 = .ok (.i2l, 1) := by decide +kernel
theorem dX12_amount_42 : decode cX12_amount 42 = .ok (.invokestatic 128, 3) := by decide +kernel
theorem dX12_amount_45 : decode cX12_amount 45 = .ok (.ifCond .ne 9, 3) := by decide +kernel
theorem dX12_amount_48 : decode cX12_amount 48 = .ok (.aload_n 0, 1) := by decide +kernel
theorem dX12_amount_49 : decode cX12_amount 49 = .ok (.iconst 1, 1) := by decide +kernel
theorem dX12_amount_50 : decode cX12_amount 50 = .ok (.iload_n 3, 1) := by decide +kernel
theorem dX12_amount_51 : decode cX12_amount 51 = .ok (.invokevirtual 199, 3) := by decide +kernel
theorem dX12_amount_54 : decode cX12_amount 54 = .ok (.iload 4, 2) := by decide +kernel
theorem dX12_amount_56 : decode cX12_amount 56 = .ok (.ireturn, 1) := by decide +kernel
theorem dX12_roadWord_0 : decode cX12_roadWord 0 = .ok (.iload_n 0, 1) := by decide +kernel
theorem dX12_roadWord_1 : decode cX12_roadWord 1 = .ok (.tableswitch 44 0 3 #[31, 34, 38, 41], 31) := by decide +kernel
theorem dX12_roadWord_32 : decode cX12_roadWord 32 = .ok (.ldc 156, 2) := by decide +kernel
theorem dX12_roadWord_34 : decode cX12_roadWord 34 = .ok (.areturn, 1) := by decide +kernel
theorem dX12_roadWord_35 : decode cX12_roadWord 35 = .ok (.ldc_w 258, 3) := by decide +kernel
theorem dX12_roadWord_38 : decode cX12_roadWord 38 = .ok (.areturn, 1) := by decide +kernel
theorem dX12_roadWord_39 : decode cX12_roadWord 39 = .ok (.ldc 139, 2) := by decide +kernel
theorem dX12_roadWord_41 : decode cX12_roadWord 41 = .ok (.areturn, 1) := by decide +kernel
theorem dX12_roadWord_42 : decode cX12_roadWord 42 = .ok (.ldc 141, 2) := by decide +kernel
theorem dX12_roadWord_44 : decode cX12_roadWord 44 = .ok (.areturn, 1) := by decide +kernel
theorem dX12_roadWord_45 : decode cX12_roadWord 45 = .ok (.ldc 145, 2) := by decide +kernel
theorem dX12_roadWord_47 : decode cX12_roadWord 47 = .ok (.areturn, 1) := by decide +kernel
theorem dX12_newHas_0 : decode cX12_newHas 0 = .ok (.iconst 0, 1) := by decide +kernel
theorem dX12_newHas_1 : decode cX12_newHas 1 = .ok (.istore_n 2, 1) := by decide +kernel
theorem dX12_newHas_2 : decode cX12_newHas 2 = .ok (.iconst 0, 1) := by decide +kernel
theorem dX12_newHas_3 : decode cX12_newHas 3 = .ok (.istore_n 3, 1) := by decide +kernel
theorem dX12_newHas_4 : decode cX12_newHas 4 = .ok (.iload_n 3, 1) := by decide +kernel
theorem dX12_newHas_5 : decode cX12_newHas 5 = .ok (.aload_n 0, 1) := by decide +kernel
theorem dX12_newHas_6 : decode cX12_newHas 6 = .ok (.getfield 46, 3) := by decide +kernel
theorem dX12_newHas_9 : decode cX12_newHas 9 = .ok (.iconst 4, 1) := by decide +kernel
theorem dX12_newHas_10 : decode cX12_newHas 10 = .ok (.iaload, 1) := by decide +kernel
theorem dX12_newHas_11 : decode cX12_newHas 11 = .ok (.if_icmp .ge 27, 3) := by decide +kernel
theorem dX12_newHas_14 : decode cX12_newHas 14 = .ok (.iload_n 2, 1) := by decide +kernel
theorem dX12_newHas_15 : decode cX12_newHas 15 = .ok (.aload_n 0, 1) := by decide +kernel
theorem dX12_newHas_16 : decode cX12_newHas 16 = .ok (.getfield 61, 3) := by decide +kernel
theorem dX12_newHas_19 : decode cX12_newHas 19 = .ok (.iload_n 3, 1) := by decide +kernel
theorem dX12_newHas_20 : decode cX12_newHas 20 = .ok (.iaload, 1) := by decide +kernel
theorem dX12_newHas_21 : decode cX12_newHas 21 = .ok (.iload_n 1, 1) := by decide +kernel
theorem dX12_newHas_22 : decode cX12_newHas 22 = .ok (.if_icmp .ne 7, 3) := by decide +kernel
theorem dX12_newHas_25 : decode cX12_newHas 25 = .ok (.iconst 1, 1) := by decide +kernel
theorem dX12_newHas_26 : decode cX12_newHas 26 = .ok (.goto 4, 3) := by decide +kernel
theorem dX12_newHas_29 : decode cX12_newHas 29 = .ok (.iconst 0, 1) := by decide +kernel
theorem dX12_newHas_30 : decode cX12_newHas 30 = .ok (.iadd, 1) := by decide +kernel
theorem dX12_newHas_31 : decode cX12_newHas 31 = .ok (.istore_n 2, 1) := by decide +kernel
theorem dX12_newHas_32 : decode cX12_newHas 32 = .ok (.iinc 3 1, 3) := by decide +kernel
theorem dX12_newHas_35 : decode cX12_newHas 35 = .ok (.goto (-31), 3) := by decide +kernel
theorem dX12_newHas_38 : decode cX12_newHas 38 = .ok (.iload_n 2, 1) := by decide +kernel
theorem dX12_newHas_39 : decode cX12_newHas 39 = .ok (.ireturn, 1) := by decide +kernel
theorem dX12_hasPart_0 : decode cX12_hasPart 0 = .ok (.aload_n 0, 1) := by decide +kernel
theorem dX12_hasPart_1 : decode cX12_hasPart 1 = .ok (.invokevirtual 183, 3) := by decide +kernel
theorem dX12_hasPart_4 : decode cX12_hasPart 4 = .ok (.aload_n 0, 1) := by decide +kernel
theorem dX12_hasPart_5 : decode cX12_hasPart 5 = .ok (.getfield 163, 3) := by decide +kernel
theorem dX12_hasPart_8 : decode cX12_hasPart 8 = .ok (.istore_n 1, 1) := by decide +kernel
theorem dX12_hasPart_9 : decode cX12_hasPart 9 = .ok (.aload_n 0, 1) := by decide +kernel
theorem dX12_hasPart_10 : decode cX12_hasPart 10 = .ok (.iconst 0, 1) := by decide +kernel
theorem dX12_hasPart_11 : decode cX12_hasPart 11 = .ok (.aload_n 0, 1) := by decide +kernel
theorem dX12_hasPart_12 : decode cX12_hasPart 12 = .ok (.getfield 46, 3) := by decide +kernel
theorem dX12_hasPart_15 : decode cX12_hasPart 15 = .ok (.iconst 3, 1) := by decide +kernel
theorem dX12_hasPart_16 : decode cX12_hasPart 16 = .ok (.iaload, 1) := by decide +kernel
theorem dX12_hasPart_17 : decode cX12_hasPart 17 = .ok (.iconst 1, 1) := by decide +kernel
theorem dX12_hasPart_18 : decode cX12_hasPart 18 = .ok (.isub, 1) := by decide +kernel
theorem dX12_hasPart_19 : decode cX12_hasPart 19 = .ok (.invokevirtual 260, 3) := by decide +kernel
theorem dX12_hasPart_22 : decode cX12_hasPart 22 = .ok (.istore_n 2, 1) := by decide +kernel
theorem dX12_hasPart_23 : decode cX12_hasPart 23 = .ok (.aload_n 0, 1) := by decide +kernel
theorem dX12_hasPart_24 : decode cX12_hasPart 24 = .ok (.getfield 160, 3) := by decide +kernel
theorem dX12_hasPart_27 : decode cX12_hasPart 27 = .ok (.ifCond .ne 23, 3) := by decide +kernel
theorem dX12_hasPart_30 : decode cX12_hasPart 30 = .ok (.aload_n 0, 1) := by decide +kernel
theorem dX12_hasPart_31 : decode cX12_hasPart 31 = .ok (.iload_n 2, 1) := by decide +kernel
theorem dX12_hasPart_32 : decode cX12_hasPart 32 = .ok (.invokevirtual 264, 3) := by decide +kernel
theorem dX12_hasPart_35 : decode cX12_hasPart 35 = .ok (.aload_n 0, 1) := by decide +kernel
theorem dX12_hasPart_36 : decode cX12_hasPart 36 = .ok (.getfield 46, 3) := by decide +kernel
theorem dX12_hasPart_39 : decode cX12_hasPart 39 = .ok (.iconst 1, 1) := by decide +kernel
theorem dX12_hasPart_40 : decode cX12_hasPart 40 = .ok (.iaload, 1) := by decide +kernel
theorem dX12_hasPart_41 : decode cX12_hasPart 41 = .ok (.if_icmp .lt 9, 3) := by decide +kernel
theorem dX12_hasPart_44 : decode cX12_hasPart 44 = .ok (.aload_n 0, 1) := by decide +kernel
theorem dX12_hasPart_45 : decode cX12_hasPart 45 = .ok (.iconst 1, 1) := by decide +kernel
theorem dX12_hasPart_46 : decode cX12_hasPart 46 = .ok (.iload_n 1, 1) := by decide +kernel
theorem dX12_hasPart_47 : decode cX12_hasPart 47 = .ok (.invokevirtual 199, 3) := by decide +kernel
theorem dX12_hasPart_50 : decode cX12_hasPart 50 = .ok (.aload_n 0, 1) := by decide +kernel
theorem dX12_hasPart_51 : decode cX12_hasPart 51 = .ok (.invokevirtual 183, 3) := by decide +kernel
theorem dX12_hasPart_54 : decode cX12_hasPart 54 = .ok (.aload_n 0, 1) := by decide +kernel
theorem dX12_hasPart_55 : decode cX12_hasPart 55 = .ok (.getfield 163, 3) := by decide +kernel
theorem dX12_hasPart_58 : decode cX12_hasPart 58 = .ok (.istore_n 1, 1) := by decide +kernel
theorem dX12_hasPart_59 : decode cX12_hasPart 59 = .ok (.aload_n 0, 1) := by decide +kernel
theorem dX12_hasPart_60 : decode cX12_hasPart 60 = .ok (.iconst 0, 1) := by decide +kernel
theorem dX12_hasPart_61 : decode cX12_hasPart 61 = .ok (.aload_n 0, 1) := by decide +kernel
theorem dX12_hasPart_62 : decode cX12_hasPart 62 = .ok (.getfield 46, 3) := by decide +kernel
theorem dX12_hasPart_65 : decode cX12_hasPart 65 = .ok (.iconst 4, 1) := by decide +kernel
theorem dX12_hasPart_66 : decode cX12_hasPart 66 = .ok (.iaload, 1) := by decide +kernel
theorem dX12_hasPart_67 : decode cX12_hasPart 67 = .ok (.iconst 1, 1) := by decide +kernel
theorem dX12_hasPart_68 : decode cX12_hasPart 68 = .ok (.isub, 1) := by decide +kernel
theorem dX12_hasPart_69 : decode cX12_hasPart 69 = .ok (.invokevirtual 260, 3) := by decide +kernel
theorem dX12_hasPart_72 : decode cX12_hasPart 72 = .ok (.istore_n 3, 1) := by decide +kernel
theorem dX12_hasPart_73 : decode cX12_hasPart 73 = .ok (.aload_n 0, 1) := by decide +kernel
theorem dX12_hasPart_74 : decode cX12_hasPart 74 = .ok (.getfield 160, 3) := by decide +kernel
theorem dX12_hasPart_77 : decode cX12_hasPart 77 = .ok (.ifCond .ne 20, 3) := by decide +kernel
theorem dX12_hasPart_80 : decode cX12_hasPart 80 = .ok (.aload_n 0, 1) := by decide +kernel
theorem dX12_hasPart_81 : decode cX12_hasPart 81 = .ok (.getfield 61, 3) := by decide +kernel
theorem dX12_hasPart_84 : decode cX12_hasPart 84 = .ok (.iload_n 3, 1) := by decide +kernel
theorem dX12_hasPart_85 : decode cX12_hasPart 85 = .ok (.iaload, 1) := by decide +kernel
theorem dX12_hasPart_86 : decode cX12_hasPart 86 = .ok (.bipush 10, 2) := by decide +kernel
theorem dX12_hasPart_88 : decode cX12_hasPart 88 = .ok (.if_icmp .eq 9, 3) := by decide +kernel
theorem dX12_hasPart_91 : decode cX12_hasPart 91 = .ok (.aload_n 0, 1) := by decide +kernel
theorem dX12_hasPart_92 : decode cX12_hasPart 92 = .ok (.iconst 1, 1) := by decide +kernel
theorem dX12_hasPart_93 : decode cX12_hasPart 93 = .ok (.iload_n 1, 1) := by decide +kernel
theorem dX12_hasPart_94 : decode cX12_hasPart 94 = .ok (.invokevirtual 199, 3) := by decide +kernel
theorem dX12_hasPart_97 : decode cX12_hasPart 97 = .ok (.aload_n 0, 1) := by decide +kernel
theorem dX12_hasPart_98 : decode cX12_hasPart 98 = .ok (.getfield 160, 3) := by decide +kernel
theorem dX12_hasPart_101 : decode cX12_hasPart 101 = .ok (.ifCond .ne 10, 3) := by decide +kernel
theorem dX12_hasPart_104 : decode cX12_hasPart 104 = .ok (.aload_n 0, 1) := by decide +kernel
theorem dX12_hasPart_105 : decode cX12_hasPart 105 = .ok (.getfield 61, 3) := by decide +kernel
theorem dX12_hasPart_108 : decode cX12_hasPart 108 = .ok (.iload_n 3, 1) := by decide +kernel
theorem dX12_hasPart_109 : decode cX12_hasPart 109 = .ok (.iload_n 2, 1) := by decide +kernel
theorem dX12_hasPart_110 : decode cX12_hasPart 110 = .ok (.iastore, 1) := by decide +kernel
theorem dX12_hasPart_111 : decode cX12_hasPart 111 = .ok (.return_, 1) := by decide +kernel
theorem dX12_roadPart_0 : decode cX12_roadPart 0 = .ok (.iload_n 1, 1) := by decide +kernel
theorem dX12_roadPart_1 : decode cX12_roadPart 1 = .ok (.tableswitch 169 0 3 #[31, 53, 84, 115], 31) := by decide +kernel
theorem dX12_roadPart_32 : decode cX12_roadPart 32 = .ok (.aload_n 0, 1) := by decide +kernel
theorem dX12_roadPart_33 : decode cX12_roadPart 33 = .ok (.getfield 46, 3) := by decide +kernel
theorem dX12_roadPart_36 : decode cX12_roadPart 36 = .ok (.iconst 1, 1) := by decide +kernel
theorem dX12_roadPart_37 : decode cX12_roadPart 37 = .ok (.aload_n 0, 1) := by decide +kernel
theorem dX12_roadPart_38 : decode cX12_roadPart 38 = .ok (.iconst 0, 1) := by decide +kernel
theorem dX12_roadPart_39 : decode cX12_roadPart 39 = .ok (.iconst 4, 1) := by decide +kernel
theorem dX12_roadPart_40 : decode cX12_roadPart 40 = .ok (.invokevirtual 260, 3) := by decide +kernel
theorem dX12_roadPart_43 : decode cX12_roadPart 43 = .ok (.iastore, 1) := by decide +kernel
theorem dX12_roadPart_44 : decode cX12_roadPart 44 = .ok (.aload_n 0, 1) := by decide +kernel
theorem dX12_roadPart_45 : decode cX12_roadPart 45 = .ok (.getfield 46, 3) := by decide +kernel
theorem dX12_roadPart_48 : decode cX12_roadPart 48 = .ok (.iconst 0, 1) := by decide +kernel
theorem dX12_roadPart_49 : decode cX12_roadPart 49 = .ok (.iconst 1, 1) := by decide +kernel
theorem dX12_roadPart_50 : decode cX12_roadPart 50 = .ok (.iastore, 1) := by decide +kernel
theorem dX12_roadPart_51 : decode cX12_roadPart 51 = .ok (.goto 123, 3) := by decide +kernel
theorem dX12_roadPart_54 : decode cX12_roadPart 54 = .ok (.aload_n 0, 1) := by decide +kernel
theorem dX12_roadPart_55 : decode cX12_roadPart 55 = .ok (.getfield 49, 3) := by decide +kernel
theorem dX12_roadPart_58 : decode cX12_roadPart 58 = .ok (.aload_n 0, 1) := by decide +kernel
theorem dX12_roadPart_59 : decode cX12_roadPart 59 = .ok (.getfield 46, 3) := by decide +kernel
theorem dX12_roadPart_62 : decode cX12_roadPart 62 = .ok (.iconst 2, 1) := by decide +kernel
theorem dX12_roadPart_63 : decode cX12_roadPart 63 = .ok (.iaload, 1) := by decide +kernel
theorem dX12_roadPart_64 : decode cX12_roadPart 64 = .ok (.aload_n 0, 1) := by decide +kernel
theorem dX12_roadPart_65 : decode cX12_roadPart 65 = .ok (.iconst 1, 1) := by decide +kernel
theorem dX12_roadPart_66 : decode cX12_roadPart 66 = .ok (.bipush 60, 2) := by decide +kernel
theorem dX12_roadPart_68 : decode cX12_roadPart 68 = .ok (.invokevirtual 260, 3) := by decide +kernel
theorem dX12_roadPart_71 : decode cX12_roadPart 71 = .ok (.iastore, 1) := by decide +kernel
theorem dX12_roadPart_72 : decode cX12_roadPart 72 = .ok (.aload_n 0, 1) := by decide +kernel
theorem dX12_roadPart_73 : decode cX12_roadPart 73 = .ok (.getfield 46, 3) := by decide +kernel
theorem dX12_roadPart_76 : decode cX12_roadPart 76 = .ok (.iconst 2, 1) := by decide +kernel
theorem dX12_roadPart_77 : decode cX12_roadPart 77 = .ok (.dup2, 1) := by decide +kernel
theorem dX12_roadPart_78 : decode cX12_roadPart 78 = .ok (.iaload, 1) := by decide +kernel
theorem dX12_roadPart_79 : decode cX12_roadPart 79 = .ok (.iconst 1, 1) := by decide +kernel
theorem dX12_roadPart_80 : decode cX12_roadPart 80 = .ok (.iadd, 1) := by decide +kernel
theorem dX12_roadPart_81 : decode cX12_roadPart 81 = .ok (.iastore, 1) := by decide +kernel
theorem dX12_roadPart_82 : decode cX12_roadPart 82 = .ok (.goto 92, 3) := by decide +kernel
theorem dX12_roadPart_85 : decode cX12_roadPart 85 = .ok (.aload_n 0, 1) := by decide +kernel
theorem dX12_roadPart_86 : decode cX12_roadPart 86 = .ok (.getfield 52, 3) := by decide +kernel
theorem dX12_roadPart_89 : decode cX12_roadPart 89 = .ok (.aload_n 0, 1) := by decide +kernel
theorem dX12_roadPart_90 : decode cX12_roadPart 90 = .ok (.getfield 46, 3) := by decide +kernel
theorem dX12_roadPart_93 : decode cX12_roadPart 93 = .ok (.iconst 3, 1) := by decide +kernel
theorem dX12_roadPart_94 : decode cX12_roadPart 94 = .ok (.iaload, 1) := by decide +kernel
theorem dX12_roadPart_95 : decode cX12_roadPart 95 = .ok (.aload_n 0, 1) := by decide +kernel
theorem dX12_roadPart_96 : decode cX12_roadPart 96 = .ok (.iconst 1, 1) := by decide +kernel
theorem dX12_roadPart_97 : decode cX12_roadPart 97 = .ok (.bipush 20, 2) := by decide +kernel
theorem dX12_roadPart_99 : decode cX12_roadPart 99 = .ok (.invokevirtual 260, 3) := by decide +kernel
theorem dX12_roadPart_102 : decode cX12_roadPart 102 = .ok (.iastore, 1) := by decide +kernel
theorem dX12_roadPart_103 : decode cX12_roadPart 103 = .ok (.aload_n 0, 1) := by decide +kernel
theorem dX12_roadPart_104 : decode cX12_roadPart 104 = .ok (.getfield 46, 3) := by decide +kernel
theorem dX12_roadPart_107 : decode cX12_roadPart 107 = .ok (.iconst 3, 1) := by decide +kernel
theorem dX12_roadPart_108 : decode cX12_roadPart 108 = .ok (.dup2, 1) := by decide +kernel
theorem dX12_roadPart_109 : decode cX12_roadPart 109 = .ok (.iaload, 1) := by decide +kernel
theorem dX12_roadPart_110 : decode cX12_roadPart 110 = .ok (.iconst 1, 1) := by decide +kernel
theorem dX12_roadPart_111 : decode cX12_roadPart 111 = .ok (.iadd, 1) := by decide +kernel
theorem dX12_roadPart_112 : decode cX12_roadPart 112 = .ok (.iastore, 1) := by decide +kernel
theorem dX12_roadPart_113 : decode cX12_roadPart 113 = .ok (.goto 61, 3) := by decide +kernel
theorem dX12_roadPart_116 : decode cX12_roadPart 116 = .ok (.aload_n 0, 1) := by decide +kernel
theorem dX12_roadPart_117 : decode cX12_roadPart 117 = .ok (.getfield 46, 3) := by decide +kernel
theorem dX12_roadPart_120 : decode cX12_roadPart 120 = .ok (.iconst 4, 1) := by decide +kernel
theorem dX12_roadPart_121 : decode cX12_roadPart 121 = .ok (.iaload, 1) := by decide +kernel
theorem dX12_roadPart_122 : decode cX12_roadPart 122 = .ok (.istore_n 2, 1) := by decide +kernel
theorem dX12_roadPart_123 : decode cX12_roadPart 123 = .ok (.aload_n 0, 1) := by decide +kernel
theorem dX12_roadPart_124 : decode cX12_roadPart 124 = .ok (.getfield 55, 3) := by decide +kernel
theorem dX12_roadPart_127 : decode cX12_roadPart 127 = .ok (.iload_n 2, 1) := by decide +kernel
theorem dX12_roadPart_128 : decode cX12_roadPart 128 = .ok (.aload_n 0, 1) := by decide +kernel
theorem dX12_roadPart_129 : decode cX12_roadPart 129 = .ok (.iconst 0, 1) := by decide +kernel
theorem dX12_roadPart_130 : decode cX12_roadPart 130 = .ok (.bipush 9, 2) := by decide +kernel
theorem dX12_roadPart_132 : decode cX12_roadPart 132 = .ok (.invokevirtual 260, 3) := by decide +kernel
theorem dX12_roadPart_135 : decode cX12_roadPart 135 = .ok (.iastore, 1) := by decide +kernel
theorem dX12_roadPart_136 : decode cX12_roadPart 136 = .ok (.aload_n 0, 1) := by decide +kernel
theorem dX12_roadPart_137 : decode cX12_roadPart 137 = .ok (.getfield 58, 3) := by decide +kernel
theorem dX12_roadPart_140 : decode cX12_roadPart 140 = .ok (.iload_n 2, 1) := by decide +kernel
theorem dX12_roadPart_141 : decode cX12_roadPart 141 = .ok (.aload_n 0, 1) := by decide +kernel
theorem dX12_roadPart_142 : decode cX12_roadPart 142 = .ok (.iconst 0, 1) := by decide +kernel
theorem dX12_roadPart_143 : decode cX12_roadPart 143 = .ok (.bipush 50, 2) := by decide +kernel
theorem dX12_roadPart_145 : decode cX12_roadPart 145 = .ok (.invokevirtual 260, 3) := by decide +kernel
theorem dX12_roadPart_148 : decode cX12_roadPart 148 = .ok (.iastore, 1) := by decide +kernel
theorem dX12_roadPart_149 : decode cX12_roadPart 149 = .ok (.aload_n 0, 1) := by decide +kernel
theorem dX12_roadPart_150 : decode cX12_roadPart 150 = .ok (.getfield 61, 3) := by decide +kernel
theorem dX12_roadPart_153 : decode cX12_roadPart 153 = .ok (.iload_n 2, 1) := by decide +kernel
theorem dX12_roadPart_154 : decode cX12_roadPart 154 = .ok (.bipush 10, 2) := by decide +kernel
theorem dX12_roadPart_156 : decode cX12_roadPart 156 = .ok (.iastore, 1) := by decide +kernel
theorem dX12_roadPart_157 : decode cX12_roadPart 157 = .ok (.aload_n 0, 1) := by decide +kernel
theorem dX12_roadPart_158 : decode cX12_roadPart 158 = .ok (.getfield 46, 3) := by decide +kernel
theorem dX12_roadPart_161 : decode cX12_roadPart 161 = .ok (.iconst 4, 1) := by decide +kernel
theorem dX12_roadPart_162 : decode cX12_roadPart 162 = .ok (.dup2, 1) := by decide +kernel
theorem dX12_roadPart_163 : decode cX12_roadPart 163 = .ok (.iaload, 1) := by decide +kernel
theorem dX12_roadPart_164 : decode cX12_roadPart 164 = .ok (.iconst 1, 1) := by decide +kernel
theorem dX12_roadPart_165 : decode cX12_roadPart 165 = .ok (.iadd, 1) := by decide +kernel
theorem dX12_roadPart_166 : decode cX12_roadPart 166 = .ok (.iastore, 1) := by decide +kernel
theorem dX12_roadPart_167 : decode cX12_roadPart 167 = .ok (.goto 7, 3) := by decide +kernel
theorem dX12_roadPart_170 : decode cX12_roadPart 170 = .ok (.aload_n 0, 1) := by decide +kernel
theorem dX12_roadPart_171 : decode cX12_roadPart 171 = .ok (.invokevirtual 267, 3) := by decide +kernel
theorem dX12_roadPart_174 : decode cX12_roadPart 174 = .ok (.return_, 1) := by decide +kernel
theorem dX12_isFull_0 : decode cX12_isFull 0 = .ok (.iload_n 2, 1) := by decide +kernel
theorem dX12_isFull_1 : decode cX12_isFull 1 = .ok (.bipush 40, 2) := by decide +kernel
theorem dX12_isFull_3 : decode cX12_isFull 3 = .ok (.if_icmp .eq 24, 3) := by decide +kernel
theorem dX12_isFull_6 : decode cX12_isFull 6 = .ok (.iload_n 1, 1) := by decide +kernel
theorem dX12_isFull_7 : decode cX12_isFull 7 = .ok (.ifCond .ne 7, 3) := by decide +kernel
theorem dX12_isFull_10 : decode cX12_isFull 10 = .ok (.iconst 1, 1) := by decide +kernel
theorem dX12_isFull_11 : decode cX12_isFull 11 = .ok (.goto 4, 3) := by decide +kernel
theorem dX12_isFull_14 : decode cX12_isFull 14 = .ok (.iconst 0, 1) := by decide +kernel
theorem dX12_isFull_15 : decode cX12_isFull 15 = .ok (.iload_n 2, 1) := by decide +kernel
theorem dX12_isFull_16 : decode cX12_isFull 16 = .ok (.ifCond .ne 7, 3) := by decide +kernel
theorem dX12_isFull_19 : decode cX12_isFull 19 = .ok (.iconst 1, 1) := by decide +kernel
theorem dX12_isFull_20 : decode cX12_isFull 20 = .ok (.goto 4, 3) := by decide +kernel
theorem dX12_isFull_23 : decode cX12_isFull 23 = .ok (.iconst 0, 1) := by decide +kernel
theorem dX12_isFull_24 : decode cX12_isFull 24 = .ok (.if_icmp .eq 5, 3) := by decide +kernel
theorem dX12_isFull_27 : decode cX12_isFull 27 = .ok (.iconst 1, 1) := by decide +kernel
theorem dX12_isFull_28 : decode cX12_isFull 28 = .ok (.ireturn, 1) := by decide +kernel
theorem dX12_isFull_29 : decode cX12_isFull 29 = .ok (.iload_n 1, 1) := by decide +kernel
theorem dX12_isFull_30 : decode cX12_isFull 30 = .ok (.iconst 1, 1) := by decide +kernel
theorem dX12_isFull_31 : decode cX12_isFull 31 = .ok (.if_icmp .ne 14, 3) := by decide +kernel
theorem dX12_isFull_34 : decode cX12_isFull 34 = .ok (.aload_n 0, 1) := by decide +kernel
theorem dX12_isFull_35 : decode cX12_isFull 35 = .ok (.getfield 46, 3) := by decide +kernel
theorem dX12_isFull_38 : decode cX12_isFull 38 = .ok (.iconst 2, 1) := by decide +kernel
theorem dX12_isFull_39 : decode cX12_isFull 39 = .ok (.iaload, 1) := by decide +kernel
theorem dX12_isFull_40 : decode cX12_isFull 40 = .ok (.bipush 8, 2) := by decide +kernel
theorem dX12_isFull_42 : decode cX12_isFull 42 = .ok (.if_icmp .eq 34, 3) := by decide +kernel
theorem dX12_isFull_45 : decode cX12_isFull 45 = .ok (.iload_n 1, 1) := by decide +kernel
theorem dX12_isFull_46 : decode cX12_isFull 46 = .ok (.iconst 2, 1) := by decide +kernel
theorem dX12_isFull_47 : decode cX12_isFull 47 = .ok (.if_icmp .ne 13, 3) := by decide +kernel
theorem dX12_isFull_50 : decode cX12_isFull 50 = .ok (.aload_n 0, 1) := by decide +kernel
theorem dX12_isFull_51 : decode cX12_isFull 51 = .ok (.getfield 46, 3) := by decide +kernel
theorem dX12_isFull_54 : decode cX12_isFull 54 = .ok (.iconst 3, 1) := by decide +kernel
theorem dX12_isFull_55 : decode cX12_isFull 55 = .ok (.iaload, 1) := by decide +kernel
theorem dX12_isFull_56 : decode cX12_isFull 56 = .ok (.iconst 4, 1) := by decide +kernel
theorem dX12_isFull_57 : decode cX12_isFull 57 = .ok (.if_icmp .eq 19, 3) := by decide +kernel
theorem dX12_isFull_60 : decode cX12_isFull 60 = .ok (.iload_n 1, 1) := by decide +kernel
theorem dX12_isFull_61 : decode cX12_isFull 61 = .ok (.iconst 3, 1) := by decide +kernel
theorem dX12_isFull_62 : decode cX12_isFull 62 = .ok (.if_icmp .ne 18, 3) := by decide +kernel
theorem dX12_isFull_65 : decode cX12_isFull 65 = .ok (.aload_n 0, 1) := by decide +kernel
theorem dX12_isFull_66 : decode cX12_isFull 66 = .ok (.getfield 46, 3) := by decide +kernel
theorem dX12_isFull_69 : decode cX12_isFull 69 = .ok (.iconst 4, 1) := by decide +kernel
theorem dX12_isFull_70 : decode cX12_isFull 70 = .ok (.iaload, 1) := by decide +kernel
theorem dX12_isFull_71 : decode cX12_isFull 71 = .ok (.bipush 6, 2) := by decide +kernel
theorem dX12_isFull_73 : decode cX12_isFull 73 = .ok (.if_icmp .ne 7, 3) := by decide +kernel
theorem dX12_isFull_76 : decode cX12_isFull 76 = .ok (.iconst 1, 1) := by decide +kernel
theorem dX12_isFull_77 : decode cX12_isFull 77 = .ok (.goto 4, 3) := by decide +kernel
theorem dX12_isFull_80 : decode cX12_isFull 80 = .ok (.iconst 0, 1) := by decide +kernel
theorem dX12_isFull_81 : decode cX12_isFull 81 = .ok (.ireturn, 1) := by decide +kernel
theorem dX12_roadClause_0 : decode cX12_roadClause 0 = .ok (.aload_n 0, 1) := by decide +kernel
theorem dX12_roadClause_1 : decode cX12_roadClause 1 = .ok (.invokevirtual 183, 3) := by decide +kernel
theorem dX12_roadClause_4 : decode cX12_roadClause 4 = .ok (.aload_n 0, 1) := by decide +kernel
theorem dX12_roadClause_5 : decode cX12_roadClause 5 = .ok (.getfield 163, 3) := by decide +kernel
theorem dX12_roadClause_8 : decode cX12_roadClause 8 = .ok (.istore_n 2, 1) := by decide +kernel
theorem dX12_roadClause_9 : decode cX12_roadClause 9 = .ok (.iconst 0, 1) := by decide +kernel
theorem dX12_roadClause_10 : decode cX12_roadClause 10 = .ok (.istore_n 3, 1) := by decide +kernel
theorem dX12_roadClause_11 : decode cX12_roadClause 11 = .ok (.iload_n 3, 1) := by decide +kernel
theorem dX12_roadClause_12 : decode cX12_roadClause 12 = .ok (.iconst 5, 1) := by decide +kernel
theorem dX12_roadClause_13 : decode cX12_roadClause 13 = .ok (.if_icmp .ge 20, 3) := by decide +kernel
theorem dX12_roadClause_16 : decode cX12_roadClause 16 = .ok (.aload_n 0, 1) := by decide +kernel
theorem dX12_roadClause_17 : decode cX12_roadClause 17 = .ok (.iload_n 3, 1) := by decide +kernel
theorem dX12_roadClause_18 : decode cX12_roadClause 18 = .ok (.invokestatic 270, 3) := by decide +kernel
theorem dX12_roadClause_21 : decode cX12_roadClause 21 = .ok (.invokevirtual 186, 3) := by decide +kernel
theorem dX12_roadClause_24 : decode cX12_roadClause 24 = .ok (.ifCond .ne 9, 3) := by decide +kernel
theorem dX12_roadClause_27 : decode cX12_roadClause 27 = .ok (.iinc 3 1, 3) := by decide +kernel
theorem dX12_roadClause_30 : decode cX12_roadClause 30 = .ok (.goto (-19), 3) := by decide +kernel
theorem dX12_roadClause_33 : decode cX12_roadClause 33 = .ok (.iload_n 3, 1) := by decide +kernel
theorem dX12_roadClause_34 : decode cX12_roadClause 34 = .ok (.iconst 5, 1) := by decide +kernel
theorem dX12_roadClause_35 : decode cX12_roadClause 35 = .ok (.if_icmp .ne 10, 3) := by decide +kernel
theorem dX12_roadClause_38 : decode cX12_roadClause 38 = .ok (.aload_n 0, 1) := by decide +kernel
theorem dX12_roadClause_39 : decode cX12_roadClause 39 = .ok (.iconst 0, 1) := by decide +kernel
theorem dX12_roadClause_40 : decode cX12_roadClause 40 = .ok (.iload_n 2, 1) := by decide +kernel
theorem dX12_roadClause_41 : decode cX12_roadClause 41 = .ok (.invokevirtual 199, 3) := by decide +kernel
theorem dX12_roadClause_44 : decode cX12_roadClause 44 = .ok (.return_, 1) := by decide +kernel
theorem dX12_roadClause_45 : decode cX12_roadClause 45 = .ok (.aload_n 0, 1) := by decide +kernel
theorem dX12_roadClause_46 : decode cX12_roadClause 46 = .ok (.iload_n 3, 1) := by decide +kernel
theorem dX12_roadClause_47 : decode cX12_roadClause 47 = .ok (.iload_n 1, 1) := by decide +kernel
theorem dX12_roadClause_48 : decode cX12_roadClause 48 = .ok (.invokevirtual 273, 3) := by decide +kernel
theorem dX12_roadClause_51 : decode cX12_roadClause 51 = .ok (.ifCond .eq 10, 3) := by decide +kernel
theorem dX12_roadClause_54 : decode cX12_roadClause 54 = .ok (.aload_n 0, 1) := by decide +kernel
theorem dX12_roadClause_55 : decode cX12_roadClause 55 = .ok (.iconst 4, 1) := by decide +kernel
theorem dX12_roadClause_56 : decode cX12_roadClause 56 = .ok (.iload_n 2, 1) := by decide +kernel
theorem dX12_roadClause_57 : decode cX12_roadClause 57 = .ok (.invokevirtual 199, 3) := by decide +kernel
theorem dX12_roadClause_60 : decode cX12_roadClause 60 = .ok (.return_, 1) := by decide +kernel
theorem dX12_roadClause_61 : decode cX12_roadClause 61 = .ok (.aload_n 0, 1) := by decide +kernel
theorem dX12_roadClause_62 : decode cX12_roadClause 62 = .ok (.dup, 1) := by decide +kernel
theorem dX12_roadClause_63 : decode cX12_roadClause 63 = .ok (.getfield 163, 3) := by decide +kernel
theorem dX12_roadClause_66 : decode cX12_roadClause 66 = .ok (.iload_n 3, 1) := by decide +kernel
theorem dX12_roadClause_67 : decode cX12_roadClause 67 = .ok (.invokestatic 270, 3) := by decide +kernel
theorem dX12_roadClause_70 : decode cX12_roadClause 70 = .ok (.invokevirtual 174, 3) := by decide +kernel
theorem dX12_roadClause_73 : decode cX12_roadClause 73 = .ok (.iadd, 1) := by decide +kernel
theorem dX12_roadClause_74 : decode cX12_roadClause 74 = .ok (.putfield 163, 3) := by decide +kernel
theorem dX12_roadClause_77 : decode cX12_roadClause 77 = .ok (.aload_n 0, 1) := by decide +kernel
theorem dX12_roadClause_78 : decode cX12_roadClause 78 = .ok (.iload_n 3, 1) := by decide +kernel
theorem dX12_roadClause_79 : decode cX12_roadClause 79 = .ok (.invokevirtual 277, 3) := by decide +kernel
theorem dX12_roadClause_82 : decode cX12_roadClause 82 = .ok (.return_, 1) := by decide +kernel
theorem dX12_copies_0 : decode cX12_copies 0 = .ok (.iconst 0, 1) := by decide +kernel
theorem dX12_copies_1 : decode cX12_copies 1 = .ok (.istore_n 2, 1) := by decide +kernel
theorem dX12_copies_2 : decode cX12_copies 2 = .ok (.iload_n 2, 1) := by decide +kernel
theorem dX12_copies_3 : decode cX12_copies 3 = .ok (.aload_n 0, 1) := by decide +kernel
theorem dX12_copies_4 : decode cX12_copies 4 = .ok (.arraylength, 1) := by decide +kernel
theorem dX12_copies_5 : decode cX12_copies 5 = .ok (.if_icmp .ge 15, 3) := by decide +kernel
theorem dX12_copies_8 : decode cX12_copies 8 = .ok (.aload_n 1, 1) := by decide +kernel
theorem dX12_copies_9 : decode cX12_copies 9 = .ok (.iload_n 2, 1) := by decide +kernel
theorem dX12_copies_10 : decode cX12_copies 10 = .ok (.aload_n 0, 1) := by decide +kernel
theorem dX12_copies_11 : decode cX12_copies 11 = .ok (.iload_n 2, 1) := by decide +kernel
theorem dX12_copies_12 : decode cX12_copies 12 = .ok (.iaload, 1) := by decide +kernel
theorem dX12_copies_13 : decode cX12_copies 13 = .ok (.iastore, 1) := by decide +kernel
theorem dX12_copies_14 : decode cX12_copies 14 = .ok (.iinc 2 1, 3) := by decide +kernel
theorem dX12_copies_17 : decode cX12_copies 17 = .ok (.goto (-15), 3) := by decide +kernel
theorem dX12_copies_20 : decode cX12_copies 20 = .ok (.return_, 1) := by decide +kernel
theorem dX12_goesOn_0 : decode cX12_goesOn 0 = .ok (.aload_n 0, 1) := by decide +kernel
theorem dX12_goesOn_1 : decode cX12_goesOn 1 = .ok (.invokevirtual 183, 3) := by decide +kernel
theorem dX12_goesOn_4 : decode cX12_goesOn 4 = .ok (.aload_n 0, 1) := by decide +kernel
theorem dX12_goesOn_5 : decode cX12_goesOn 5 = .ok (.getfield 160, 3) := by decide +kernel
theorem dX12_goesOn_8 : decode cX12_goesOn 8 = .ok (.ifCond .ne 32, 3) := by decide +kernel
theorem dX12_goesOn_11 : decode cX12_goesOn 11 = .ok (.aload_n 0, 1) := by decide +kernel
theorem dX12_goesOn_12 : decode cX12_goesOn 12 = .ok (.getfield 163, 3) := by decide +kernel
theorem dX12_goesOn_15 : decode cX12_goesOn 15 = .ok (.aload_n 0, 1) := by decide +kernel
theorem dX12_goesOn_16 : decode cX12_goesOn 16 = .ok (.getfield 132, 3) := by decide +kernel
theorem dX12_goesOn_19 : decode cX12_goesOn 19 = .ok (.if_icmp .ge 21, 3) := by decide +kernel
theorem dX12_goesOn_22 : decode cX12_goesOn 22 = .ok (.aload_n 0, 1) := by decide +kernel
theorem dX12_goesOn_23 : decode cX12_goesOn 23 = .ok (.invokevirtual 166, 3) := by decide +kernel
theorem dX12_goesOn_26 : decode cX12_goesOn 26 = .ok (.bipush 59, 2) := by decide +kernel
theorem dX12_goesOn_28 : decode cX12_goesOn 28 = .ok (.if_icmp .eq 12, 3) := by decide +kernel
theorem dX12_goesOn_31 : decode cX12_goesOn 31 = .ok (.aload_n 0, 1) := by decide +kernel
theorem dX12_goesOn_32 : decode cX12_goesOn 32 = .ok (.iconst 0, 1) := by decide +kernel
theorem dX12_goesOn_33 : decode cX12_goesOn 33 = .ok (.aload_n 0, 1) := by decide +kernel
theorem dX12_goesOn_34 : decode cX12_goesOn 34 = .ok (.getfield 163, 3) := by decide +kernel
theorem dX12_goesOn_37 : decode cX12_goesOn 37 = .ok (.invokevirtual 199, 3) := by decide +kernel
theorem dX12_goesOn_40 : decode cX12_goesOn 40 = .ok (.aload_n 0, 1) := by decide +kernel
theorem dX12_goesOn_41 : decode cX12_goesOn 41 = .ok (.getfield 160, 3) := by decide +kernel
theorem dX12_goesOn_44 : decode cX12_goesOn 44 = .ok (.ifCond .ne 18, 3) := by decide +kernel
theorem dX12_goesOn_47 : decode cX12_goesOn 47 = .ok (.aload_n 0, 1) := by decide +kernel
theorem dX12_goesOn_48 : decode cX12_goesOn 48 = .ok (.getfield 163, 3) := by decide +kernel
theorem dX12_goesOn_51 : decode cX12_goesOn 51 = .ok (.aload_n 0, 1) := by decide +kernel
theorem dX12_goesOn_52 : decode cX12_goesOn 52 = .ok (.getfield 132, 3) := by decide +kernel
theorem dX12_goesOn_55 : decode cX12_goesOn 55 = .ok (.if_icmp .ge 7, 3) := by decide +kernel
theorem dX12_goesOn_58 : decode cX12_goesOn 58 = .ok (.iconst 1, 1) := by decide +kernel
theorem dX12_goesOn_59 : decode cX12_goesOn 59 = .ok (.goto 4, 3) := by decide +kernel
theorem dX12_goesOn_62 : decode cX12_goesOn 62 = .ok (.iconst 0, 1) := by decide +kernel
theorem dX12_goesOn_63 : decode cX12_goesOn 63 = .ok (.istore_n 1, 1) := by decide +kernel
theorem dX12_goesOn_64 : decode cX12_goesOn 64 = .ok (.aload_n 0, 1) := by decide +kernel
theorem dX12_goesOn_65 : decode cX12_goesOn 65 = .ok (.dup, 1) := by decide +kernel
theorem dX12_goesOn_66 : decode cX12_goesOn 66 = .ok (.getfield 163, 3) := by decide +kernel
theorem dX12_goesOn_69 : decode cX12_goesOn 69 = .ok (.iconst 1, 1) := by decide +kernel
theorem dX12_goesOn_70 : decode cX12_goesOn 70 = .ok (.iadd, 1) := by decide +kernel
theorem dX12_goesOn_71 : decode cX12_goesOn 71 = .ok (.putfield 163, 3) := by decide +kernel
theorem dX12_goesOn_74 : decode cX12_goesOn 74 = .ok (.iload_n 1, 1) := by decide +kernel
theorem dX12_goesOn_75 : decode cX12_goesOn 75 = .ok (.ireturn, 1) := by decide +kernel
theorem dX12_starts_0 : decode cX12_starts 0 = .ok (.aload_n 0, 1) := by decide +kernel
theorem dX12_starts_1 : decode cX12_starts 1 = .ok (.iconst 0, 1) := by decide +kernel
theorem dX12_starts_2 : decode cX12_starts 2 = .ok (.putfield 163, 3) := by decide +kernel
theorem dX12_starts_5 : decode cX12_starts 5 = .ok (.aload_n 0, 1) := by decide +kernel
theorem dX12_starts_6 : decode cX12_starts 6 = .ok (.iconst 0, 1) := by decide +kernel
theorem dX12_starts_7 : decode cX12_starts 7 = .ok (.putfield 160, 3) := by decide +kernel
theorem dX12_starts_10 : decode cX12_starts 10 = .ok (.aload_n 0, 1) := by decide +kernel
theorem dX12_starts_11 : decode cX12_starts 11 = .ok (.iconst 0, 1) := by decide +kernel
theorem dX12_starts_12 : decode cX12_starts 12 = .ok (.putfield 193, 3) := by decide +kernel
theorem dX12_starts_15 : decode cX12_starts 15 = .ok (.aload_n 0, 1) := by decide +kernel
theorem dX12_starts_16 : decode cX12_starts 16 = .ok (.iconst 0, 1) := by decide +kernel
theorem dX12_starts_17 : decode cX12_starts 17 = .ok (.putfield 234, 3) := by decide +kernel
theorem dX12_starts_20 : decode cX12_starts 20 = .ok (.aload_n 0, 1) := by decide +kernel
theorem dX12_starts_21 : decode cX12_starts 21 = .ok (.iconst 0, 1) := by decide +kernel
theorem dX12_starts_22 : decode cX12_starts 22 = .ok (.putfield 196, 3) := by decide +kernel
theorem dX12_starts_25 : decode cX12_starts 25 = .ok (.return_, 1) := by decide +kernel
theorem dX12_readsAll_0 : decode cX12_readsAll 0 = .ok (.aload_n 0, 1) := by decide +kernel
theorem dX12_readsAll_1 : decode cX12_readsAll 1 = .ok (.invokevirtual 280, 3) := by decide +kernel
theorem dX12_readsAll_4 : decode cX12_readsAll 4 = .ok (.iconst 0, 1) := by decide +kernel
theorem dX12_readsAll_5 : decode cX12_readsAll 5 = .ok (.istore_n 1, 1) := by decide +kernel
theorem dX12_readsAll_6 : decode cX12_readsAll 6 = .ok (.iload_n 1, 1) := by decide +kernel
theorem dX12_readsAll_7 : decode cX12_readsAll 7 = .ok (.iconst 5, 1) := by decide +kernel
theorem dX12_readsAll_8 : decode cX12_readsAll 8 = .ok (.if_icmp .ge 16, 3) := by decide +kernel
theorem dX12_readsAll_11 : decode cX12_readsAll 11 = .ok (.aload_n 0, 1) := by decide +kernel
theorem dX12_readsAll_12 : decode cX12_readsAll 12 = .ok (.getfield 46, 3) := by decide +kernel
theorem dX12_readsAll_15 : decode cX12_readsAll 15 = .ok (.iload_n 1, 1) := by decide +kernel
theorem dX12_readsAll_16 : decode cX12_readsAll 16 = .ok (.iconst 0, 1) := by decide +kernel
theorem dX12_readsAll_17 : decode cX12_readsAll 17 = .ok (.iastore, 1) := by decide +kernel
theorem dX12_readsAll_18 : decode cX12_readsAll 18 = .ok (.iinc 1 1, 3) := by decide +kernel
theorem dX12_readsAll_21 : decode cX12_readsAll 21 = .ok (.goto (-15), 3) := by decide +kernel
theorem dX12_readsAll_24 : decode cX12_readsAll 24 = .ok (.iconst 0, 1) := by decide +kernel
theorem dX12_readsAll_25 : decode cX12_readsAll 25 = .ok (.istore_n 1, 1) := by decide +kernel
theorem dX12_readsAll_26 : decode cX12_readsAll 26 = .ok (.iconst 1, 1) := by decide +kernel
theorem dX12_readsAll_27 : decode cX12_readsAll 27 = .ok (.istore_n 2, 1) := by decide +kernel
theorem dX12_readsAll_28 : decode cX12_readsAll 28 = .ok (.iload_n 2, 1) := by decide +kernel
theorem dX12_readsAll_29 : decode cX12_readsAll 29 = .ok (.ifCond .eq 19, 3) := by decide +kernel
theorem dX12_readsAll_32 : decode cX12_readsAll 32 = .ok (.aload_n 0, 1) := by decide +kernel
theorem dX12_readsAll_33 : decode cX12_readsAll 33 = .ok (.iload_n 1, 1) := by decide +kernel
theorem dX12_readsAll_34 : decode cX12_readsAll 34 = .ok (.invokevirtual 283, 3) := by decide +kernel
theorem dX12_readsAll_37 : decode cX12_readsAll 37 = .ok (.iinc 1 1, 3) := by decide +kernel
theorem dX12_readsAll_40 : decode cX12_readsAll 40 = .ok (.aload_n 0, 1) := by decide +kernel
theorem dX12_readsAll_41 : decode cX12_readsAll 41 = .ok (.invokevirtual 286, 3) := by decide +kernel
theorem dX12_readsAll_44 : decode cX12_readsAll 44 = .ok (.istore_n 2, 1) := by decide +kernel
theorem dX12_readsAll_45 : decode cX12_readsAll 45 = .ok (.goto (-17), 3) := by decide +kernel
theorem dX12_readsAll_48 : decode cX12_readsAll 48 = .ok (.aload_n 0, 1) := by decide +kernel
theorem dX12_readsAll_49 : decode cX12_readsAll 49 = .ok (.iconst 0, 1) := by decide +kernel
theorem dX12_readsAll_50 : decode cX12_readsAll 50 = .ok (.putfield 132, 3) := by decide +kernel
theorem dX12_readsAll_53 : decode cX12_readsAll 53 = .ok (.return_, 1) := by decide +kernel
theorem dX12_begins_0 : decode cX12_begins 0 = .ok (.aload_n 0, 1) := by decide +kernel
theorem dX12_begins_1 : decode cX12_begins 1 = .ok (.getfield 43, 3) := by decide +kernel
theorem dX12_begins_4 : decode cX12_begins 4 = .ok (.aload_n 0, 1) := by decide +kernel
theorem dX12_begins_5 : decode cX12_begins 5 = .ok (.getfield 19, 3) := by decide +kernel
theorem dX12_begins_8 : decode cX12_begins 8 = .ok (.invokestatic 289, 3) := by decide +kernel
theorem dX12_begins_11 : decode cX12_begins 11 = .ok (.aload_n 0, 1) := by decide +kernel
theorem dX12_begins_12 : decode cX12_begins 12 = .ok (.getfield 9, 3) := by decide +kernel
theorem dX12_begins_15 : decode cX12_begins 15 = .ok (.iconst 5, 1) := by decide +kernel
theorem dX12_begins_16 : decode cX12_begins 16 = .ok (.iconst 0, 1) := by decide +kernel
theorem dX12_begins_17 : decode cX12_begins 17 = .ok (.iastore, 1) := by decide +kernel
theorem dX12_begins_18 : decode cX12_begins 18 = .ok (.iconst 0, 1) := by decide +kernel
theorem dX12_begins_19 : decode cX12_begins 19 = .ok (.istore_n 1, 1) := by decide +kernel
theorem dX12_begins_20 : decode cX12_begins 20 = .ok (.iload_n 1, 1) := by decide +kernel
theorem dX12_begins_21 : decode cX12_begins 21 = .ok (.iconst 4, 1) := by decide +kernel
theorem dX12_begins_22 : decode cX12_begins 22 = .ok (.if_icmp .ge 23, 3) := by decide +kernel
theorem dX12_begins_25 : decode cX12_begins 25 = .ok (.aload_n 0, 1) := by decide +kernel
theorem dX12_begins_26 : decode cX12_begins 26 = .ok (.getfield 13, 3) := by decide +kernel
theorem dX12_begins_29 : decode cX12_begins 29 = .ok (.iload_n 1, 1) := by decide +kernel
theorem dX12_begins_30 : decode cX12_begins 30 = .ok (.iconst 0, 1) := by decide +kernel
theorem dX12_begins_31 : decode cX12_begins 31 = .ok (.iastore, 1) := by decide +kernel
theorem dX12_begins_32 : decode cX12_begins 32 = .ok (.aload_n 0, 1) := by decide +kernel
theorem dX12_begins_33 : decode cX12_begins 33 = .ok (.getfield 16, 3) := by decide +kernel
theorem dX12_begins_36 : decode cX12_begins 36 = .ok (.iload_n 1, 1) := by decide +kernel
theorem dX12_begins_37 : decode cX12_begins 37 = .ok (.iconst 0, 1) := by decide +kernel
theorem dX12_begins_38 : decode cX12_begins 38 = .ok (.iastore, 1) := by decide +kernel
theorem dX12_begins_39 : decode cX12_begins 39 = .ok (.iinc 1 1, 3) := by decide +kernel
theorem dX12_begins_42 : decode cX12_begins 42 = .ok (.goto (-22), 3) := by decide +kernel
theorem dX12_begins_45 : decode cX12_begins 45 = .ok (.return_, 1) := by decide +kernel
theorem dX12_road_0 : decode cX12_road 0 = .ok (.aload_n 0, 1) := by decide +kernel
theorem dX12_road_1 : decode cX12_road 1 = .ok (.invokevirtual 293, 3) := by decide +kernel
theorem dX12_road_4 : decode cX12_road 4 = .ok (.aload_n 0, 1) := by decide +kernel
theorem dX12_road_5 : decode cX12_road 5 = .ok (.getfield 160, 3) := by decide +kernel
theorem dX12_road_8 : decode cX12_road 8 = .ok (.ifCond .le 11, 3) := by decide +kernel
theorem dX12_road_11 : decode cX12_road 11 = .ok (.bipush (-2), 2) := by decide +kernel
theorem dX12_road_13 : decode cX12_road 13 = .ok (.aload_n 0, 1) := by decide +kernel
theorem dX12_road_14 : decode cX12_road 14 = .ok (.getfield 160, 3) := by decide +kernel
theorem dX12_road_17 : decode cX12_road 17 = .ok (.isub, 1) := by decide +kernel
theorem dX12_road_18 : decode cX12_road 18 = .ok (.ireturn, 1) := by decide +kernel
theorem dX12_road_19 : decode cX12_road 19 = .ok (.iconst 0, 1) := by decide +kernel
theorem dX12_road_20 : decode cX12_road 20 = .ok (.istore_n 1, 1) := by decide +kernel
theorem dX12_road_21 : decode cX12_road 21 = .ok (.iload_n 1, 1) := by decide +kernel
theorem dX12_road_22 : decode cX12_road 22 = .ok (.iconst 5, 1) := by decide +kernel
theorem dX12_road_23 : decode cX12_road 23 = .ok (.if_icmp .ge 21, 3) := by decide +kernel
theorem dX12_road_26 : decode cX12_road 26 = .ok (.aload_n 0, 1) := by decide +kernel
theorem dX12_road_27 : decode cX12_road 27 = .ok (.getfield 9, 3) := by decide +kernel
theorem dX12_road_30 : decode cX12_road 30 = .ok (.iload_n 1, 1) := by decide +kernel
theorem dX12_road_31 : decode cX12_road 31 = .ok (.aload_n 0, 1) := by decide +kernel
theorem dX12_road_32 : decode cX12_road 32 = .ok (.getfield 46, 3) := by decide +kernel
theorem dX12_road_35 : decode cX12_road 35 = .ok (.iload_n 1, 1) := by decide +kernel
theorem dX12_road_36 : decode cX12_road 36 = .ok (.iaload, 1) := by decide +kernel
theorem dX12_road_37 : decode cX12_road 37 = .ok (.iastore, 1) := by decide +kernel
theorem dX12_road_38 : decode cX12_road 38 = .ok (.iinc 1 1, 3) := by decide +kernel
theorem dX12_road_41 : decode cX12_road 41 = .ok (.goto (-20), 3) := by decide +kernel
theorem dX12_road_44 : decode cX12_road 44 = .ok (.aload_n 0, 1) := by decide +kernel
theorem dX12_road_45 : decode cX12_road 45 = .ok (.getfield 9, 3) := by decide +kernel
theorem dX12_road_48 : decode cX12_road 48 = .ok (.bipush 6, 2) := by decide +kernel
theorem dX12_road_50 : decode cX12_road 50 = .ok (.iconst 0, 1) := by decide +kernel
theorem dX12_road_51 : decode cX12_road 51 = .ok (.iastore, 1) := by decide +kernel
theorem dX12_road_52 : decode cX12_road 52 = .ok (.aload_n 0, 1) := by decide +kernel
theorem dX12_road_53 : decode cX12_road 53 = .ok (.getfield 49, 3) := by decide +kernel
theorem dX12_road_56 : decode cX12_road 56 = .ok (.aload_n 0, 1) := by decide +kernel
theorem dX12_road_57 : decode cX12_road 57 = .ok (.getfield 22, 3) := by decide +kernel
theorem dX12_road_60 : decode cX12_road 60 = .ok (.invokestatic 289, 3) := by decide +kernel
theorem dX12_road_63 : decode cX12_road 63 = .ok (.aload_n 0, 1) := by decide +kernel
theorem dX12_road_64 : decode cX12_road 64 = .ok (.getfield 52, 3) := by decide +kernel
theorem dX12_road_67 : decode cX12_road 67 = .ok (.aload_n 0, 1) := by decide +kernel
theorem dX12_road_68 : decode cX12_road 68 = .ok (.getfield 25, 3) := by decide +kernel
theorem dX12_road_71 : decode cX12_road 71 = .ok (.invokestatic 289, 3) := by decide +kernel
theorem dX12_road_74 : decode cX12_road 74 = .ok (.aload_n 0, 1) := by decide +kernel
theorem dX12_road_75 : decode cX12_road 75 = .ok (.getfield 55, 3) := by decide +kernel
theorem dX12_road_78 : decode cX12_road 78 = .ok (.aload_n 0, 1) := by decide +kernel
theorem dX12_road_79 : decode cX12_road 79 = .ok (.getfield 28, 3) := by decide +kernel
theorem dX12_road_82 : decode cX12_road 82 = .ok (.invokestatic 289, 3) := by decide +kernel
theorem dX12_road_85 : decode cX12_road 85 = .ok (.aload_n 0, 1) := by decide +kernel
theorem dX12_road_86 : decode cX12_road 86 = .ok (.getfield 58, 3) := by decide +kernel
theorem dX12_road_89 : decode cX12_road 89 = .ok (.aload_n 0, 1) := by decide +kernel
theorem dX12_road_90 : decode cX12_road 90 = .ok (.getfield 31, 3) := by decide +kernel
theorem dX12_road_93 : decode cX12_road 93 = .ok (.invokestatic 289, 3) := by decide +kernel
theorem dX12_road_96 : decode cX12_road 96 = .ok (.aload_n 0, 1) := by decide +kernel
theorem dX12_road_97 : decode cX12_road 97 = .ok (.getfield 61, 3) := by decide +kernel
theorem dX12_road_100 : decode cX12_road 100 = .ok (.aload_n 0, 1) := by decide +kernel
theorem dX12_road_101 : decode cX12_road 101 = .ok (.getfield 43, 3) := by decide +kernel
theorem dX12_road_104 : decode cX12_road 104 = .ok (.invokestatic 289, 3) := by decide +kernel
theorem dX12_road_107 : decode cX12_road 107 = .ok (.aload_n 0, 1) := by decide +kernel
theorem dX12_road_108 : decode cX12_road 108 = .ok (.invokevirtual 296, 3) := by decide +kernel
theorem dX12_road_111 : decode cX12_road 111 = .ok (.aload_n 0, 1) := by decide +kernel
theorem dX12_road_112 : decode cX12_road 112 = .ok (.iconst 0, 1) := by decide +kernel
theorem dX12_road_113 : decode cX12_road 113 = .ok (.putfield 299, 3) := by decide +kernel
theorem dX12_road_116 : decode cX12_road 116 = .ok (.aload_n 0, 1) := by decide +kernel
theorem dX12_road_117 : decode cX12_road 117 = .ok (.getfield 9, 3) := by decide +kernel
theorem dX12_road_120 : decode cX12_road 120 = .ok (.iconst 3, 1) := by decide +kernel
theorem dX12_road_121 : decode cX12_road 121 = .ok (.iaload, 1) := by decide +kernel
theorem dX12_road_122 : decode cX12_road 122 = .ok (.ireturn, 1) := by decide +kernel
theorem dX12_ruleClause_0 : decode cX12_ruleClause 0 = .ok (.aload_n 0, 1) := by decide +kernel
theorem dX12_ruleClause_1 : decode cX12_ruleClause 1 = .ok (.invokevirtual 183, 3) := by decide +kernel
theorem dX12_ruleClause_4 : decode cX12_ruleClause 4 = .ok (.aload_n 0, 1) := by decide +kernel
theorem dX12_ruleClause_5 : decode cX12_ruleClause 5 = .ok (.getfield 163, 3) := by decide +kernel
theorem dX12_ruleClause_8 : decode cX12_ruleClause 8 = .ok (.istore_n 2, 1) := by decide +kernel
theorem dX12_ruleClause_9 : decode cX12_ruleClause 9 = .ok (.aload_n 0, 1) := by decide +kernel
theorem dX12_ruleClause_10 : decode cX12_ruleClause 10 = .ok (.ldc_w 302, 3) := by decide +kernel
theorem dX12_ruleClause_13 : decode cX12_ruleClause 13 = .ok (.invokevirtual 186, 3) := by decide +kernel
theorem dX12_ruleClause_16 : decode cX12_ruleClause 16 = .ok (.ifCond .ne 10, 3) := by decide +kernel
theorem dX12_ruleClause_19 : decode cX12_ruleClause 19 = .ok (.aload_n 0, 1) := by decide +kernel
theorem dX12_ruleClause_20 : decode cX12_ruleClause 20 = .ok (.iconst 0, 1) := by decide +kernel
theorem dX12_ruleClause_21 : decode cX12_ruleClause 21 = .ok (.iload_n 2, 1) := by decide +kernel
theorem dX12_ruleClause_22 : decode cX12_ruleClause 22 = .ok (.invokevirtual 199, 3) := by decide +kernel
theorem dX12_ruleClause_25 : decode cX12_ruleClause 25 = .ok (.return_, 1) := by decide +kernel
theorem dX12_ruleClause_26 : decode cX12_ruleClause 26 = .ok (.iload_n 1, 1) := by decide +kernel
theorem dX12_ruleClause_27 : decode cX12_ruleClause 27 = .ok (.bipush 12, 2) := by decide +kernel
theorem dX12_ruleClause_29 : decode cX12_ruleClause 29 = .ok (.if_icmp .ne 10, 3) := by decide +kernel
theorem dX12_ruleClause_32 : decode cX12_ruleClause 32 = .ok (.aload_n 0, 1) := by decide +kernel
theorem dX12_ruleClause_33 : decode cX12_ruleClause 33 = .ok (.iconst 4, 1) := by decide +kernel
theorem dX12_ruleClause_34 : decode cX12_ruleClause 34 = .ok (.iload_n 2, 1) := by decide +kernel
theorem dX12_ruleClause_35 : decode cX12_ruleClause 35 = .ok (.invokevirtual 199, 3) := by decide +kernel
theorem dX12_ruleClause_38 : decode cX12_ruleClause 38 = .ok (.return_, 1) := by decide +kernel
theorem dX12_ruleClause_39 : decode cX12_ruleClause 39 = .ok (.aload_n 0, 1) := by decide +kernel
theorem dX12_ruleClause_40 : decode cX12_ruleClause 40 = .ok (.dup, 1) := by decide +kernel
theorem dX12_ruleClause_41 : decode cX12_ruleClause 41 = .ok (.getfield 163, 3) := by decide +kernel
theorem dX12_ruleClause_44 : decode cX12_ruleClause 44 = .ok (.iconst 5, 1) := by decide +kernel
theorem dX12_ruleClause_45 : decode cX12_ruleClause 45 = .ok (.iadd, 1) := by decide +kernel
theorem dX12_ruleClause_46 : decode cX12_ruleClause 46 = .ok (.putfield 163, 3) := by decide +kernel
theorem dX12_ruleClause_49 : decode cX12_ruleClause 49 = .ok (.bipush 12, 2) := by decide +kernel
theorem dX12_ruleClause_51 : decode cX12_ruleClause 51 = .ok (.aload_n 0, 1) := by decide +kernel
theorem dX12_ruleClause_52 : decode cX12_ruleClause 52 = .ok (.getfield 190, 3) := by decide +kernel
theorem dX12_ruleClause_55 : decode cX12_ruleClause 55 = .ok (.imul, 1) := by decide +kernel
theorem dX12_ruleClause_56 : decode cX12_ruleClause 56 = .ok (.iload_n 1, 1) := by decide +kernel
theorem dX12_ruleClause_57 : decode cX12_ruleClause 57 = .ok (.iadd, 1) := by decide +kernel
theorem dX12_ruleClause_58 : decode cX12_ruleClause 58 = .ok (.istore_n 3, 1) := by decide +kernel
theorem dX12_ruleClause_59 : decode cX12_ruleClause 59 = .ok (.aload_n 0, 1) := by decide +kernel
theorem dX12_ruleClause_60 : decode cX12_ruleClause 60 = .ok (.getfield 81, 3) := by decide +kernel
theorem dX12_ruleClause_63 : decode cX12_ruleClause 63 = .ok (.iload_n 3, 1) := by decide +kernel
theorem dX12_ruleClause_64 : decode cX12_ruleClause 64 = .ok (.aload_n 0, 1) := by decide +kernel
theorem dX12_ruleClause_65 : decode cX12_ruleClause 65 = .ok (.getfield 193, 3) := by decide +kernel
theorem dX12_ruleClause_68 : decode cX12_ruleClause 68 = .ok (.iastore, 1) := by decide +kernel
theorem dX12_ruleClause_69 : decode cX12_ruleClause 69 = .ok (.aload_n 0, 1) := by decide +kernel
theorem dX12_ruleClause_70 : decode cX12_ruleClause 70 = .ok (.invokevirtual 228, 3) := by decide +kernel
theorem dX12_ruleClause_73 : decode cX12_ruleClause 73 = .ok (.aload_n 0, 1) := by decide +kernel
theorem dX12_ruleClause_74 : decode cX12_ruleClause 74 = .ok (.getfield 84, 3) := by decide +kernel
theorem dX12_ruleClause_77 : decode cX12_ruleClause 77 = .ok (.iload_n 3, 1) := by decide +kernel
theorem dX12_ruleClause_78 : decode cX12_ruleClause 78 = .ok (.aload_n 0, 1) := by decide +kernel
theorem dX12_ruleClause_79 : decode cX12_ruleClause 79 = .ok (.getfield 193, 3) := by decide +kernel
theorem dX12_ruleClause_82 : decode cX12_ruleClause 82 = .ok (.iastore, 1) := by decide +kernel
theorem dX12_ruleClause_83 : decode cX12_ruleClause 83 = .ok (.aload_n 0, 1) := by decide +kernel
theorem dX12_ruleClause_84 : decode cX12_ruleClause 84 = .ok (.getfield 160, 3) := by decide +kernel
theorem dX12_ruleClause_87 : decode cX12_ruleClause 87 = .ok (.ifCond .ne 17, 3) := by decide +kernel
theorem dX12_ruleClause_90 : decode cX12_ruleClause 90 = .ok (.aload_n 0, 1) := by decide +kernel
theorem dX12_ruleClause_91 : decode cX12_ruleClause 91 = .ok (.ldc_w 304, 3) := by decide +kernel
theorem dX12_ruleClause_94 : decode cX12_ruleClause 94 = .ok (.invokevirtual 306, 3) := by decide +kernel
theorem dX12_ruleClause_97 : decode cX12_ruleClause 97 = .ok (.ifCond .eq 7, 3) := by decide +kernel
theorem dX12_ruleClause_100 : decode cX12_ruleClause 100 = .ok (.aload_n 0, 1) := by decide +kernel
theorem dX12_ruleClause_101 : decode cX12_ruleClause 101 = .ok (.invokevirtual 309, 3) := by decide +kernel
theorem dX12_ruleClause_104 : decode cX12_ruleClause 104 = .ok (.aload_n 0, 1) := by decide +kernel
theorem dX12_ruleClause_105 : decode cX12_ruleClause 105 = .ok (.getfield 87, 3) := by decide +kernel
theorem dX12_ruleClause_108 : decode cX12_ruleClause 108 = .ok (.iload_n 3, 1) := by decide +kernel
theorem dX12_ruleClause_109 : decode cX12_ruleClause 109 = .ok (.aload_n 0, 1) := by decide +kernel
theorem dX12_ruleClause_110 : decode cX12_ruleClause 110 = .ok (.getfield 193, 3) := by decide +kernel
theorem dX12_ruleClause_113 : decode cX12_ruleClause 113 = .ok (.iastore, 1) := by decide +kernel
theorem dX12_ruleClause_114 : decode cX12_ruleClause 114 = .ok (.return_, 1) := by decide +kernel
theorem dX12_rule_0 : decode cX12_rule 0 = .ok (.aload_n 0, 1) := by decide +kernel
theorem dX12_rule_1 : decode cX12_rule 1 = .ok (.getfield 312, 3) := by decide +kernel
theorem dX12_rule_4 : decode cX12_rule 4 = .ok (.bipush 6, 2) := by decide +kernel
theorem dX12_rule_6 : decode cX12_rule 6 = .ok (.if_icmp .ne 5, 3) := by decide +kernel
theorem dX12_rule_9 : decode cX12_rule 9 = .ok (.iconst (-1), 1) := by decide +kernel
theorem dX12_rule_10 : decode cX12_rule 10 = .ok (.ireturn, 1) := by decide +kernel
theorem dX12_rule_11 : decode cX12_rule 11 = .ok (.aload_n 0, 1) := by decide +kernel
theorem dX12_rule_12 : decode cX12_rule 12 = .ok (.aload_n 0, 1) := by decide +kernel
theorem dX12_rule_13 : decode cX12_rule 13 = .ok (.getfield 312, 3) := by decide +kernel
theorem dX12_rule_16 : decode cX12_rule 16 = .ok (.putfield 190, 3) := by decide +kernel
theorem dX12_rule_19 : decode cX12_rule 19 = .ok (.aload_n 0, 1) := by decide +kernel
theorem dX12_rule_20 : decode cX12_rule 20 = .ok (.invokevirtual 280, 3) := by decide +kernel
theorem dX12_rule_23 : decode cX12_rule 23 = .ok (.iconst 0, 1) := by decide +kernel
theorem dX12_rule_24 : decode cX12_rule 24 = .ok (.istore_n 1, 1) := by decide +kernel
theorem dX12_rule_25 : decode cX12_rule 25 = .ok (.iconst 1, 1) := by decide +kernel
theorem dX12_rule_26 : decode cX12_rule 26 = .ok (.istore_n 2, 1) := by decide +kernel
theorem dX12_rule_27 : decode cX12_rule 27 = .ok (.iload_n 2, 1) := by decide +kernel
theorem dX12_rule_28 : decode cX12_rule 28 = .ok (.ifCond .eq 19, 3) := by decide +kernel
theorem dX12_rule_31 : decode cX12_rule 31 = .ok (.aload_n 0, 1) := by decide +kernel
theorem dX12_rule_32 : decode cX12_rule 32 = .ok (.iload_n 1, 1) := by decide +kernel
theorem dX12_rule_33 : decode cX12_rule 33 = .ok (.invokevirtual 315, 3) := by decide +kernel
theorem dX12_rule_36 : decode cX12_rule 36 = .ok (.iinc 1 1, 3) := by decide +kernel
theorem dX12_rule_39 : decode cX12_rule 39 = .ok (.aload_n 0, 1) := by decide +kernel
theorem dX12_rule_40 : decode cX12_rule 40 = .ok (.invokevirtual 286, 3) := by decide +kernel
theorem dX12_rule_43 : decode cX12_rule 43 = .ok (.istore_n 2, 1) := by decide +kernel
theorem dX12_rule_44 : decode cX12_rule 44 = .ok (.goto (-17), 3) := by decide +kernel
theorem dX12_rule_47 : decode cX12_rule 47 = .ok (.aload_n 0, 1) := by decide +kernel
theorem dX12_rule_48 : decode cX12_rule 48 = .ok (.iconst 0, 1) := by decide +kernel
theorem dX12_rule_49 : decode cX12_rule 49 = .ok (.putfield 132, 3) := by decide +kernel
theorem dX12_rule_52 : decode cX12_rule 52 = .ok (.aload_n 0, 1) := by decide +kernel
theorem dX12_rule_53 : decode cX12_rule 53 = .ok (.getfield 78, 3) := by decide +kernel
theorem dX12_rule_56 : decode cX12_rule 56 = .ok (.aload_n 0, 1) := by decide +kernel
theorem dX12_rule_57 : decode cX12_rule 57 = .ok (.getfield 190, 3) := by decide +kernel
theorem dX12_rule_60 : decode cX12_rule 60 = .ok (.iload_n 1, 1) := by decide +kernel
theorem dX12_rule_61 : decode cX12_rule 61 = .ok (.iastore, 1) := by decide +kernel
theorem dX12_rule_62 : decode cX12_rule 62 = .ok (.aload_n 0, 1) := by decide +kernel
theorem dX12_rule_63 : decode cX12_rule 63 = .ok (.dup, 1) := by decide +kernel
theorem dX12_rule_64 : decode cX12_rule 64 = .ok (.getfield 312, 3) := by decide +kernel
theorem dX12_rule_67 : decode cX12_rule 67 = .ok (.aload_n 0, 1) := by decide +kernel
theorem dX12_rule_68 : decode cX12_rule 68 = .ok (.getfield 160, 3) := by decide +kernel
theorem dX12_rule_71 : decode cX12_rule 71 = .ok (.ifCond .ne 7, 3) := by decide +kernel
theorem dX12_rule_74 : decode cX12_rule 74 = .ok (.iconst 1, 1) := by decide +kernel
theorem dX12_rule_75 : decode cX12_rule 75 = .ok (.goto 4, 3) := by decide +kernel
theorem dX12_rule_78 : decode cX12_rule 78 = .ok (.iconst 0, 1) := by decide +kernel
theorem dX12_rule_79 : decode cX12_rule 79 = .ok (.iadd, 1) := by decide +kernel
theorem dX12_rule_80 : decode cX12_rule 80 = .ok (.putfield 312, 3) := by decide +kernel
theorem dX12_rule_83 : decode cX12_rule 83 = .ok (.aload_n 0, 1) := by decide +kernel
theorem dX12_rule_84 : decode cX12_rule 84 = .ok (.getfield 160, 3) := by decide +kernel
theorem dX12_rule_87 : decode cX12_rule 87 = .ok (.ifCond .le 13, 3) := by decide +kernel
theorem dX12_rule_90 : decode cX12_rule 90 = .ok (.bipush (-2), 2) := by decide +kernel
theorem dX12_rule_92 : decode cX12_rule 92 = .ok (.aload_n 0, 1) := by decide +kernel
theorem dX12_rule_93 : decode cX12_rule 93 = .ok (.getfield 160, 3) := by decide +kernel
theorem dX12_rule_96 : decode cX12_rule 96 = .ok (.isub, 1) := by decide +kernel
theorem dX12_rule_97 : decode cX12_rule 97 = .ok (.goto 9, 3) := by decide +kernel
theorem dX12_rule_100 : decode cX12_rule 100 = .ok (.aload_n 0, 1) := by decide +kernel
theorem dX12_rule_101 : decode cX12_rule 101 = .ok (.getfield 312, 3) := by decide +kernel
theorem dX12_rule_104 : decode cX12_rule 104 = .ok (.iconst 1, 1) := by decide +kernel
theorem dX12_rule_105 : decode cX12_rule 105 = .ok (.isub, 1) := by decide +kernel
theorem dX12_rule_106 : decode cX12_rule 106 = .ok (.ireturn, 1) := by decide +kernel
theorem dX12_force_0 : decode cX12_force 0 = .ok (.iload_n 1, 1) := by decide +kernel
theorem dX12_force_1 : decode cX12_force 1 = .ok (.i2l, 1) := by decide +kernel
theorem dX12_force_2 : decode cX12_force 2 = .ok (.ldc2_w 318, 3) := by decide +kernel
theorem dX12_force_5 : decode cX12_force 5 = .ok (.aload_n 0, 1) := by decide +kernel
theorem dX12_force_6 : decode cX12_force 6 = .ok (.getfield 312, 3) := by decide +kernel
theorem dX12_force_9 : decode cX12_force 9 = .ok (.iconst 1, 1) := by decide +kernel
theorem dX12_force_10 : decode cX12_force 10 = .ok (.isub, 1) := by decide +kernel
theorem dX12_force_11 : decode cX12_force 11 = .ok (.i2l, 1) := by decide +kernel
theorem dX12_force_12 : decode cX12_force 12 = .ok (.invokestatic 128, 3) := by decide +kernel
theorem dX12_force_15 : decode cX12_force 15 = .ok (.ifCond .ne 6, 3) := by decide +kernel
theorem dX12_force_18 : decode cX12_force 18 = .ok (.bipush (-2), 2) := by decide +kernel
theorem dX12_force_20 : decode cX12_force 20 = .ok (.ireturn, 1) := by decide +kernel
theorem dX12_force_21 : decode cX12_force 21 = .ok (.aload_n 0, 1) := by decide +kernel
theorem dX12_force_22 : decode cX12_force 22 = .ok (.getfield 9, 3) := by decide +kernel
theorem dX12_force_25 : decode cX12_force 25 = .ok (.bipush 8, 2) := by decide +kernel
theorem dX12_force_27 : decode cX12_force 27 = .ok (.iaload, 1) := by decide +kernel
theorem dX12_force_28 : decode cX12_force 28 = .ok (.istore_n 2, 1) := by decide +kernel
theorem dX12_force_29 : decode cX12_force 29 = .ok (.aload_n 0, 1) := by decide +kernel
theorem dX12_force_30 : decode cX12_force 30 = .ok (.getfield 9, 3) := by decide +kernel
theorem dX12_force_33 : decode cX12_force 33 = .ok (.bipush 8, 2) := by decide +kernel
theorem dX12_force_35 : decode cX12_force 35 = .ok (.iload_n 1, 1) := by decide +kernel
theorem dX12_force_36 : decode cX12_force 36 = .ok (.iastore, 1) := by decide +kernel
theorem dX12_force_37 : decode cX12_force 37 = .ok (.iload_n 2, 1) := by decide +kernel
theorem dX12_force_38 : decode cX12_force 38 = .ok (.ireturn, 1) := by decide +kernel
theorem dX12_wanted_0 : decode cX12_wanted 0 = .ok (.aload_n 0, 1) := by decide +kernel
theorem dX12_wanted_1 : decode cX12_wanted 1 = .ok (.getfield 9, 3) := by decide +kernel
theorem dX12_wanted_4 : decode cX12_wanted 4 = .ok (.bipush 8, 2) := by decide +kernel
theorem dX12_wanted_6 : decode cX12_wanted 6 = .ok (.iaload, 1) := by decide +kernel
theorem dX12_wanted_7 : decode cX12_wanted 7 = .ok (.istore_n 1, 1) := by decide +kernel
theorem dX12_wanted_8 : decode cX12_wanted 8 = .ok (.bipush 12, 2) := by decide +kernel
theorem dX12_wanted_10 : decode cX12_wanted 10 = .ok (.iload_n 1, 1) := by decide +kernel
theorem dX12_wanted_11 : decode cX12_wanted 11 = .ok (.imul, 1) := by decide +kernel
theorem dX12_wanted_12 : decode cX12_wanted 12 = .ok (.istore_n 2, 1) := by decide +kernel
theorem dX12_wanted_13 : decode cX12_wanted 13 = .ok (.iload_n 2, 1) := by decide +kernel
theorem dX12_wanted_14 : decode cX12_wanted 14 = .ok (.bipush 12, 2) := by decide +kernel
theorem dX12_wanted_16 : decode cX12_wanted 16 = .ok (.iload_n 1, 1) := by decide +kernel
theorem dX12_wanted_17 : decode cX12_wanted 17 = .ok (.imul, 1) := by decide +kernel
theorem dX12_wanted_18 : decode cX12_wanted 18 = .ok (.aload_n 0, 1) := by decide +kernel
theorem dX12_wanted_19 : decode cX12_wanted 19 = .ok (.getfield 78, 3) := by decide +kernel
theorem dX12_wanted_22 : decode cX12_wanted 22 = .ok (.iload_n 1, 1) := by decide +kernel
theorem dX12_wanted_23 : decode cX12_wanted 23 = .ok (.iaload, 1) := by decide +kernel
theorem dX12_wanted_24 : decode cX12_wanted 24 = .ok (.iadd, 1) := by decide +kernel
theorem dX12_wanted_25 : decode cX12_wanted 25 = .ok (.if_icmp .ge 64, 3) := by decide +kernel
theorem dX12_wanted_28 : decode cX12_wanted 28 = .ok (.aload_n 0, 1) := by decide +kernel
theorem dX12_wanted_29 : decode cX12_wanted 29 = .ok (.getfield 84, 3) := by decide +kernel
theorem dX12_wanted_32 : decode cX12_wanted 32 = .ok (.iload_n 2, 1) := by decide +kernel
theorem dX12_wanted_33 : decode cX12_wanted 33 = .ok (.iaload, 1) := by decide +kernel
theorem dX12_wanted_34 : decode cX12_wanted 34 = .ok (.aload_n 0, 1) := by decide +kernel
theorem dX12_wanted_35 : decode cX12_wanted 35 = .ok (.getfield 87, 3) := by decide +kernel
theorem dX12_wanted_38 : decode cX12_wanted 38 = .ok (.iload_n 2, 1) := by decide +kernel
theorem dX12_wanted_39 : decode cX12_wanted 39 = .ok (.iaload, 1) := by decide +kernel
theorem dX12_wanted_40 : decode cX12_wanted 40 = .ok (.if_icmp .eq 25, 3) := by decide +kernel
theorem dX12_wanted_43 : decode cX12_wanted 43 = .ok (.aload_n 0, 1) := by decide +kernel
theorem dX12_wanted_44 : decode cX12_wanted 44 = .ok (.iload_n 1, 1) := by decide +kernel
theorem dX12_wanted_45 : decode cX12_wanted 45 = .ok (.aload_n 0, 1) := by decide +kernel
theorem dX12_wanted_46 : decode cX12_wanted 46 = .ok (.getfield 84, 3) := by decide +kernel
theorem dX12_wanted_49 : decode cX12_wanted 49 = .ok (.iload_n 2, 1) := by decide +kernel
theorem dX12_wanted_50 : decode cX12_wanted 50 = .ok (.iaload, 1) := by decide +kernel
theorem dX12_wanted_51 : decode cX12_wanted 51 = .ok (.aload_n 0, 1) := by decide +kernel
theorem dX12_wanted_52 : decode cX12_wanted 52 = .ok (.getfield 87, 3) := by decide +kernel
theorem dX12_wanted_55 : decode cX12_wanted 55 = .ok (.iload_n 2, 1) := by decide +kernel
theorem dX12_wanted_56 : decode cX12_wanted 56 = .ok (.iaload, 1) := by decide +kernel
theorem dX12_wanted_57 : decode cX12_wanted 57 = .ok (.invokevirtual 320, 3) := by decide +kernel
theorem dX12_wanted_60 : decode cX12_wanted 60 = .ok (.lconst 1, 1) := by decide +kernel
theorem dX12_wanted_61 : decode cX12_wanted 61 = .ok (.lcmp, 1) := by decide +kernel
theorem dX12_wanted_62 : decode cX12_wanted 62 = .ok (.ifCond .ne 21, 3) := by decide +kernel
theorem dX12_wanted_65 : decode cX12_wanted 65 = .ok (.aload_n 0, 1) := by decide +kernel
theorem dX12_wanted_66 : decode cX12_wanted 66 = .ok (.iload_n 1, 1) := by decide +kernel
theorem dX12_wanted_67 : decode cX12_wanted 67 = .ok (.aload_n 0, 1) := by decide +kernel
theorem dX12_wanted_68 : decode cX12_wanted 68 = .ok (.getfield 81, 3) := by decide +kernel
theorem dX12_wanted_71 : decode cX12_wanted 71 = .ok (.iload_n 2, 1) := by decide +kernel
theorem dX12_wanted_72 : decode cX12_wanted 72 = .ok (.iaload, 1) := by decide +kernel
theorem dX12_wanted_73 : decode cX12_wanted 73 = .ok (.aload_n 0, 1) := by decide +kernel
theorem dX12_wanted_74 : decode cX12_wanted 74 = .ok (.getfield 84, 3) := by decide +kernel
theorem dX12_wanted_77 : decode cX12_wanted 77 = .ok (.iload_n 2, 1) := by decide +kernel
theorem dX12_wanted_78 : decode cX12_wanted 78 = .ok (.iaload, 1) := by decide +kernel
theorem dX12_wanted_79 : decode cX12_wanted 79 = .ok (.invokevirtual 320, 3) := by decide +kernel
theorem dX12_wanted_82 : decode cX12_wanted 82 = .ok (.lreturn, 1) := by decide +kernel
theorem dX12_wanted_83 : decode cX12_wanted 83 = .ok (.iinc 2 1, 3) := by decide +kernel
theorem dX12_wanted_86 : decode cX12_wanted 86 = .ok (.goto (-73), 3) := by decide +kernel
theorem dX12_wanted_89 : decode cX12_wanted 89 = .ok (.lconst 0, 1) := by decide +kernel
theorem dX12_wanted_90 : decode cX12_wanted 90 = .ok (.lreturn, 1) := by decide +kernel
theorem dX12_truth_0 : decode cX12_truth 0 = .ok (.iload_n 0, 1) := by decide +kernel
theorem dX12_truth_1 : decode cX12_truth 1 = .ok (.ifCond .eq 7, 3) := by decide +kernel
theorem dX12_truth_4 : decode cX12_truth 4 = .ok (.lconst 1, 1) := by decide +kernel
theorem dX12_truth_5 : decode cX12_truth 5 = .ok (.goto 4, 3) := by decide +kernel
theorem dX12_truth_8 : decode cX12_truth 8 = .ok (.lconst 0, 1) := by decide +kernel
theorem dX12_truth_9 : decode cX12_truth 9 = .ok (.lreturn, 1) := by decide +kernel
theorem dX12_both_0 : decode cX12_both 0 = .ok (.iload_n 0, 1) := by decide +kernel
theorem dX12_both_1 : decode cX12_both 1 = .ok (.tableswitch 190 2 15 #[71, 75, 111, 126, 141, 156, 171, 190, 186, 190, 190, 79, 83, 97], 71) := by decide +kernel
theorem dX12_both_72 : decode cX12_both 72 = .ok (.lload_n 1, 1) := by decide +kernel
theorem dX12_both_73 : decode cX12_both 73 = .ok (.lload_n 3, 1) := by decide +kernel
theorem dX12_both_74 : decode cX12_both 74 = .ok (.ladd, 1) := by decide +kernel
theorem dX12_both_75 : decode cX12_both 75 = .ok (.lreturn, 1) := by decide +kernel
theorem dX12_both_76 : decode cX12_both 76 = .ok (.lload_n 1, 1) := by decide +kernel
theorem dX12_both_77 : decode cX12_both 77 = .ok (.lload_n 3, 1) := by decide +kernel
theorem dX12_both_78 : decode cX12_both 78 = .ok (.lsub, 1) := by decide +kernel
theorem dX12_both_79 : decode cX12_both 79 = .ok (.lreturn, 1) := by decide +kernel
theorem dX12_both_80 : decode cX12_both 80 = .ok (.lload_n 1, 1) := by decide +kernel
theorem dX12_both_81 : decode cX12_both 81 = .ok (.lload_n 3, 1) := by decide +kernel
theorem dX12_both_82 : decode cX12_both 82 = .ok (.lmul, 1) := by decide +kernel
theorem dX12_both_83 : decode cX12_both 83 = .ok (.lreturn, 1) := by decide +kernel
theorem dX12_both_84 : decode cX12_both 84 = .ok (.lload_n 3, 1) := by decide +kernel
theorem dX12_both_85 : decode cX12_both 85 = .ok (.lconst 0, 1) := by decide +kernel
theorem dX12_both_86 : decode cX12_both 86 = .ok (.lcmp, 1) := by decide +kernel
theorem dX12_both_87 : decode cX12_both 87 = .ok (.ifCond .ne 7, 3) := by decide +kernel
theorem dX12_both_90 : decode cX12_both 90 = .ok (.lconst 0, 1) := by decide +kernel
theorem dX12_both_91 : decode cX12_both 91 = .ok (.goto 6, 3) := by decide +kernel
theorem dX12_both_94 : decode cX12_both 94 = .ok (.lload_n 1, 1) := by decide +kernel
theorem dX12_both_95 : decode cX12_both 95 = .ok (.lload_n 3, 1) := by decide +kernel
theorem dX12_both_96 : decode cX12_both 96 = .ok (.ldiv, 1) := by decide +kernel
theorem dX12_both_97 : decode cX12_both 97 = .ok (.lreturn, 1) := by decide +kernel
theorem dX12_both_98 : decode cX12_both 98 = .ok (.lload_n 3, 1) := by decide +kernel
theorem dX12_both_99 : decode cX12_both 99 = .ok (.lconst 0, 1) := by decide +kernel
theorem dX12_both_100 : decode cX12_both 100 = .ok (.lcmp, 1) := by decide +kernel
theorem dX12_both_101 : decode cX12_both 101 = .ok (.ifCond .ne 7, 3) := by decide +kernel
theorem dX12_both_104 : decode cX12_both 104 = .ok (.lconst 0, 1) := by decide +kernel
theorem dX12_both_105 : decode cX12_both 105 = .ok (.goto 6, 3) := by decide +kernel
theorem dX12_both_108 : decode cX12_both 108 = .ok (.lload_n 1, 1) := by decide +kernel
theorem dX12_both_109 : decode cX12_both 109 = .ok (.lload_n 3, 1) := by decide +kernel
theorem dX12_both_110 : decode cX12_both 110 = .ok (.lrem, 1) := by decide +kernel
theorem dX12_both_111 : decode cX12_both 111 = .ok (.lreturn, 1) := by decide +kernel
theorem dX12_both_112 : decode cX12_both 112 = .ok (.lload_n 1, 1) := by decide +kernel
theorem dX12_both_113 : decode cX12_both 113 = .ok (.lload_n 3, 1) := by decide +kernel
theorem dX12_both_114 : decode cX12_both 114 = .ok (.lcmp, 1) := by decide +kernel
theorem dX12_both_115 : decode cX12_both 115 = .ok (.ifCond .ge 7, 3) := by decide +kernel
theorem dX12_both_118 : decode cX12_both 118 = .ok (.iconst 1, 1) := by decide +kernel
theorem dX12_both_119 : decode cX12_both 119 = .ok (.goto 4, 3) := by decide +kernel
theorem dX12_both_122 : decode cX12_both 122 = .ok (.iconst 0, 1) := by decide +kernel
theorem dX12_both_123 : decode cX12_both 123 = .ok (.invokestatic 324, 3) := by decide +kernel
theorem dX12_both_126 : decode cX12_both 126 = .ok (.lreturn, 1) := by decide +kernel
theorem dX12_both_127 : decode cX12_both 127 = .ok (.lload_n 1, 1) := by decide +kernel
theorem dX12_both_128 : decode cX12_both 128 = .ok (.lload_n 3, 1) := by decide +kernel
theorem dX12_both_129 : decode cX12_both 129 = .ok (.lcmp, 1) := by decide +kernel
theorem dX12_both_130 : decode cX12_both 130 = .ok (.ifCond .gt 7, 3) := by decide +kernel
theorem dX12_both_133 : decode cX12_both 133 = .ok (.iconst 1, 1) := by decide +kernel
theorem dX12_both_134 : decode cX12_both 134 = .ok (.goto 4, 3) := by decide +kernel
theorem dX12_both_137 : decode cX12_both 137 = .ok (.iconst 0, 1) := by decide +kernel
theorem dX12_both_138 : decode cX12_both 138 = .ok (.invokestatic 324, 3) := by decide +kernel
theorem dX12_both_141 : decode cX12_both 141 = .ok (.lreturn, 1) := by decide +kernel
theorem dX12_both_142 : decode cX12_both 142 = .ok (.lload_n 1, 1) := by decide +kernel
theorem dX12_both_143 : decode cX12_both 143 = .ok (.lload_n 3, 1) := by decide +kernel
theorem dX12_both_144 : decode cX12_both 144 = .ok (.lcmp, 1) := by decide +kernel
theorem dX12_both_145 : decode cX12_both 145 = .ok (.ifCond .ne 7, 3) := by decide +kernel
theorem dX12_both_148 : decode cX12_both 148 = .ok (.iconst 1, 1) := by decide +kernel
theorem dX12_both_149 : decode cX12_both 149 = .ok (.goto 4, 3) := by decide +kernel
theorem dX12_both_152 : decode cX12_both 152 = .ok (.iconst 0, 1) := by decide +kernel
theorem dX12_both_153 : decode cX12_both 153 = .ok (.invokestatic 324, 3) := by decide +kernel
theorem dX12_both_156 : decode cX12_both 156 = .ok (.lreturn, 1) := by decide +kernel
theorem dX12_both_157 : decode cX12_both 157 = .ok (.lload_n 1, 1) := by decide +kernel
theorem dX12_both_158 : decode cX12_both 158 = .ok (.lload_n 3, 1) := by decide +kernel
theorem dX12_both_159 : decode cX12_both 159 = .ok (.lcmp, 1) := by decide +kernel
theorem dX12_both_160 : decode cX12_both 160 = .ok (.ifCond .lt 7, 3) := by decide +kernel
theorem dX12_both_163 : decode cX12_both 163 = .ok (.iconst 1, 1) := by decide +kernel
theorem dX12_both_164 : decode cX12_both 164 = .ok (.goto 4, 3) := by decide +kernel
theorem dX12_both_167 : decode cX12_both 167 = .ok (.iconst 0, 1) := by decide +kernel
theorem dX12_both_168 : decode cX12_both 168 = .ok (.invokestatic 324, 3) := by decide +kernel
theorem dX12_both_171 : decode cX12_both 171 = .ok (.lreturn, 1) := by decide +kernel
theorem dX12_both_172 : decode cX12_both 172 = .ok (.lload_n 1, 1) := by decide +kernel
theorem dX12_both_173 : decode cX12_both 173 = .ok (.lload_n 3, 1) := by decide +kernel
theorem dX12_both_174 : decode cX12_both 174 = .ok (.lcmp, 1) := by decide +kernel
theorem dX12_both_175 : decode cX12_both 175 = .ok (.ifCond .le 7, 3) := by decide +kernel
theorem dX12_both_178 : decode cX12_both 178 = .ok (.iconst 1, 1) := by decide +kernel
theorem dX12_both_179 : decode cX12_both 179 = .ok (.goto 4, 3) := by decide +kernel
theorem dX12_both_182 : decode cX12_both 182 = .ok (.iconst 0, 1) := by decide +kernel
theorem dX12_both_183 : decode cX12_both 183 = .ok (.invokestatic 324, 3) := by decide +kernel
theorem dX12_both_186 : decode cX12_both 186 = .ok (.lreturn, 1) := by decide +kernel
theorem dX12_both_187 : decode cX12_both 187 = .ok (.lload_n 1, 1) := by decide +kernel
theorem dX12_both_188 : decode cX12_both 188 = .ok (.lload_n 3, 1) := by decide +kernel
theorem dX12_both_189 : decode cX12_both 189 = .ok (.land, 1) := by decide +kernel
theorem dX12_both_190 : decode cX12_both 190 = .ok (.lreturn, 1) := by decide +kernel
theorem dX12_both_191 : decode cX12_both 191 = .ok (.lload_n 1, 1) := by decide +kernel
theorem dX12_both_192 : decode cX12_both 192 = .ok (.lload_n 3, 1) := by decide +kernel
theorem dX12_both_193 : decode cX12_both 193 = .ok (.lor, 1) := by decide +kernel
theorem dX12_both_194 : decode cX12_both 194 = .ok (.lreturn, 1) := by decide +kernel
theorem dX12_answer_0 : decode cX12_answer 0 = .ok (.iconst 0, 1) := by decide +kernel
theorem dX12_answer_1 : decode cX12_answer 1 = .ok (.istore 4, 2) := by decide +kernel
theorem dX12_answer_3 : decode cX12_answer 3 = .ok (.iload_n 2, 1) := by decide +kernel
theorem dX12_answer_4 : decode cX12_answer 4 = .ok (.istore 5, 2) := by decide +kernel
theorem dX12_answer_6 : decode cX12_answer 6 = .ok (.iload 5, 2) := by decide +kernel
theorem dX12_answer_8 : decode cX12_answer 8 = .ok (.iload_n 3, 1) := by decide +kernel
theorem dX12_answer_9 : decode cX12_answer 9 = .ok (.if_icmp .ge 144, 3) := by decide +kernel
theorem dX12_answer_12 : decode cX12_answer 12 = .ok (.aload_n 0, 1) := by decide +kernel
theorem dX12_answer_13 : decode cX12_answer 13 = .ok (.getfield 72, 3) := by decide +kernel
theorem dX12_answer_16 : decode cX12_answer 16 = .ok (.sipush 300, 3) := by decide +kernel
theorem dX12_answer_19 : decode cX12_answer 19 = .ok (.iload_n 1, 1) := by decide +kernel
theorem dX12_answer_20 : decode cX12_answer 20 = .ok (.imul, 1) := by decide +kernel
theorem dX12_answer_21 : decode cX12_answer 21 = .ok (.iload 5, 2) := by decide +kernel
theorem dX12_answer_23 : decode cX12_answer 23 = .ok (.iadd, 1) := by decide +kernel
theorem dX12_answer_24 : decode cX12_answer 24 = .ok (.iaload, 1) := by decide +kernel
theorem dX12_answer_25 : decode cX12_answer 25 = .ok (.istore 6, 2) := by decide +kernel
theorem dX12_answer_27 : decode cX12_answer 27 = .ok (.aload_n 0, 1) := by decide +kernel
theorem dX12_answer_28 : decode cX12_answer 28 = .ok (.getfield 75, 3) := by decide +kernel
theorem dX12_answer_31 : decode cX12_answer 31 = .ok (.sipush 300, 3) := by decide +kernel
theorem dX12_answer_34 : decode cX12_answer 34 = .ok (.iload_n 1, 1) := by decide +kernel
theorem dX12_answer_35 : decode cX12_answer 35 = .ok (.imul, 1) := by decide +kernel
theorem dX12_answer_36 : decode cX12_answer 36 = .ok (.iload 5, 2) := by decide +kernel
theorem dX12_answer_38 : decode cX12_answer 38 = .ok (.iadd, 1) := by decide +kernel
theorem dX12_answer_39 : decode cX12_answer 39 = .ok (.iaload, 1) := by decide +kernel
theorem dX12_answer_40 : decode cX12_answer 40 = .ok (.istore 7, 2) := by decide +kernel
theorem dX12_answer_42 : decode cX12_answer 42 = .ok (.iload 6, 2) := by decide +kernel
theorem dX12_answer_44 : decode cX12_answer 44 = .ok (.ifCond .eq 9, 3) := by decide +kernel
theorem dX12_answer_47 : decode cX12_answer 47 = .ok (.iload 6, 2) := by decide +kernel
theorem dX12_answer_49 : decode cX12_answer 49 = .ok (.iconst 1, 1) := by decide +kernel
theorem dX12_answer_50 : decode cX12_answer 50 = .ok (.if_icmp .ne 34, 3) := by decide +kernel
theorem dX12_answer_53 : decode cX12_answer 53 = .ok (.aload_n 0, 1) := by decide +kernel
theorem dX12_answer_54 : decode cX12_answer 54 = .ok (.getfield 97, 3) := by decide +kernel
theorem dX12_answer_57 : decode cX12_answer 57 = .ok (.iload 4, 2) := by decide +kernel
theorem dX12_answer_59 : decode cX12_answer 59 = .ok (.iload 6, 2) := by decide +kernel
theorem dX12_answer_61 : decode cX12_answer 61 = .ok (.ifCond .ne 9, 3) := by decide +kernel
theorem dX12_answer_64 : decode cX12_answer 64 = .ok (.iload 7, 2) := by decide +kernel
theorem dX12_answer_66 : decode cX12_answer 66 = .ok (.i2l, 1) := by decide +kernel
theorem dX12_answer_67 : decode cX12_answer 67 = .ok (.goto 10, 3) := by decide +kernel
theorem dX12_answer_70 : decode cX12_answer 70 = .ok (.aload_n 0, 1) := by decide +kernel
theorem dX12_answer_71 : decode cX12_answer 71 = .ok (.getfield 93, 3) := by decide +kernel
theorem dX12_answer_74 : decode cX12_answer 74 = .ok (.iload 7, 2) := by decide +kernel
theorem dX12_answer_76 : decode cX12_answer 76 = .ok (.laload, 1) := by decide +kernel
theorem dX12_answer_77 : decode cX12_answer 77 = .ok (.lastore, 1) := by decide +kernel
theorem dX12_answer_78 : decode cX12_answer 78 = .ok (.iinc 4 1, 3) := by decide +kernel
theorem dX12_answer_81 : decode cX12_answer 81 = .ok (.goto 66, 3) := by decide +kernel
theorem dX12_answer_84 : decode cX12_answer 84 = .ok (.iload 6, 2) := by decide +kernel
theorem dX12_answer_86 : decode cX12_answer 86 = .ok (.bipush 9, 2) := by decide +kernel
theorem dX12_answer_88 : decode cX12_answer 88 = .ok (.if_icmp .ne 26, 3) := by decide +kernel
theorem dX12_answer_91 : decode cX12_answer 91 = .ok (.aload_n 0, 1) := by decide +kernel
theorem dX12_answer_92 : decode cX12_answer 92 = .ok (.getfield 97, 3) := by decide +kernel
theorem dX12_answer_95 : decode cX12_answer 95 = .ok (.iload 4, 2) := by decide +kernel
theorem dX12_answer_97 : decode cX12_answer 97 = .ok (.iconst 1, 1) := by decide +kernel
theorem dX12_answer_98 : decode cX12_answer 98 = .ok (.isub, 1) := by decide +kernel
theorem dX12_answer_99 : decode cX12_answer 99 = .ok (.lconst 1, 1) := by decide +kernel
theorem dX12_answer_100 : decode cX12_answer 100 = .ok (.aload_n 0, 1) := by decide +kernel
theorem dX12_answer_101 : decode cX12_answer 101 = .ok (.getfield 97, 3) := by decide +kernel
theorem dX12_answer_104 : decode cX12_answer 104 = .ok (.iload 4, 2) := by decide +kernel
theorem dX12_answer_106 : decode cX12_answer 106 = .ok (.iconst 1, 1) := by decide +kernel
theorem dX12_answer_107 : decode cX12_answer 107 = .ok (.isub, 1) := by decide +kernel
theorem dX12_answer_108 : decode cX12_answer 108 = .ok (.laload, 1) := by decide +kernel
theorem dX12_answer_109 : decode cX12_answer 109 = .ok (.lsub, 1) := by decide +kernel
theorem dX12_answer_110 : decode cX12_answer 110 = .ok (.lastore, 1) := by decide +kernel
theorem dX12_answer_111 : decode cX12_answer 111 = .ok (.goto 36, 3) := by decide +kernel
theorem dX12_answer_114 : decode cX12_answer 114 = .ok (.iinc 4 (-1), 3) := by decide +kernel
theorem dX12_answer_117 : decode cX12_answer 117 = .ok (.aload_n 0, 1) := by decide +kernel
theorem dX12_answer_118 : decode cX12_answer 118 = .ok (.getfield 97, 3) := by decide +kernel
theorem dX12_answer_121 : decode cX12_answer 121 = .ok (.iload 4, 2) := by decide +kernel
theorem dX12_answer_123 : decode cX12_answer 123 = .ok (.iconst 1, 1) := by decide +kernel
theorem dX12_answer_124 : decode cX12_answer 124 = .ok (.isub, 1) := by decide +kernel
theorem dX12_answer_125 : decode cX12_answer 125 = .ok (.iload 6, 2) := by decide +kernel
theorem dX12_answer_127 : decode cX12_answer 127 = .ok (.aload_n 0, 1) := by decide +kernel
theorem dX12_answer_128 : decode cX12_answer 128 = .ok (.getfield 97, 3) := by decide +kernel
theorem dX12_answer_131 : decode cX12_answer 131 = .ok (.iload 4, 2) := by decide +kernel
theorem dX12_answer_133 : decode cX12_answer 133 = .ok (.iconst 1, 1) := by decide +kernel
theorem dX12_answer_134 : decode cX12_answer 134 = .ok (.isub, 1) := by decide +kernel
theorem dX12_answer_135 : decode cX12_answer 135 = .ok (.laload, 1) := by decide +kernel
theorem dX12_answer_136 : decode cX12_answer 136 = .ok (.aload_n 0, 1) := by decide +kernel
theorem dX12_answer_137 : decode cX12_answer 137 = .ok (.getfield 97, 3) := by decide +kernel
theorem dX12_answer_140 : decode cX12_answer 140 = .ok (.iload 4, 2) := by decide +kernel
theorem dX12_answer_142 : decode cX12_answer 142 = .ok (.laload, 1) := by decide +kernel
theorem dX12_answer_143 : decode cX12_answer 143 = .ok (.invokestatic 328, 3) := by decide +kernel
theorem dX12_answer_146 : decode cX12_answer 146 = .ok (.lastore, 1) := by decide +kernel
theorem dX12_answer_147 : decode cX12_answer 147 = .ok (.iinc 5 1, 3) := by decide +kernel
theorem dX12_answer_150 : decode cX12_answer 150 = .ok (.goto (-144), 3) := by decide +kernel
theorem dX12_answer_153 : decode cX12_answer 153 = .ok (.aload_n 0, 1) := by decide +kernel
theorem dX12_answer_154 : decode cX12_answer 154 = .ok (.getfield 97, 3) := by decide +kernel
theorem dX12_answer_157 : decode cX12_answer 157 = .ok (.iconst 0, 1) := by decide +kernel
theorem dX12_answer_158 : decode cX12_answer 158 = .ok (.laload, 1) := by decide +kernel
theorem dX12_answer_159 : decode cX12_answer 159 = .ok (.lreturn, 1) := by decide +kernel
theorem dX12_thingsOf_0 : decode cX12_thingsOf 0 = .ok (.iconst 0, 1) := by decide +kernel
theorem dX12_thingsOf_1 : decode cX12_thingsOf 1 = .ok (.istore_n 2, 1) := by decide +kernel
theorem dX12_thingsOf_2 : decode cX12_thingsOf 2 = .ok (.iconst 0, 1) := by decide +kernel
theorem dX12_thingsOf_3 : decode cX12_thingsOf 3 = .ok (.istore_n 3, 1) := by decide +kernel
theorem dX12_thingsOf_4 : decode cX12_thingsOf 4 = .ok (.iload_n 3, 1) := by decide +kernel
theorem dX12_thingsOf_5 : decode cX12_thingsOf 5 = .ok (.aload_n 0, 1) := by decide +kernel
theorem dX12_thingsOf_6 : decode cX12_thingsOf 6 = .ok (.getfield 9, 3) := by decide +kernel
theorem dX12_thingsOf_9 : decode cX12_thingsOf 9 = .ok (.iconst 4, 1) := by decide +kernel
theorem dX12_thingsOf_10 : decode cX12_thingsOf 10 = .ok (.iaload, 1) := by decide +kernel
theorem dX12_thingsOf_11 : decode cX12_thingsOf 11 = .ok (.if_icmp .ge 29, 3) := by decide +kernel
theorem dX12_thingsOf_14 : decode cX12_thingsOf 14 = .ok (.iload_n 2, 1) := by decide +kernel
theorem dX12_thingsOf_15 : decode cX12_thingsOf 15 = .ok (.aload_n 0, 1) := by decide +kernel
theorem dX12_thingsOf_16 : decode cX12_thingsOf 16 = .ok (.getfield 19, 3) := by decide +kernel
theorem dX12_thingsOf_19 : decode cX12_thingsOf 19 = .ok (.iload_n 3, 1) := by decide +kernel
theorem dX12_thingsOf_20 : decode cX12_thingsOf 20 = .ok (.iaload, 1) := by decide +kernel
theorem dX12_thingsOf_21 : decode cX12_thingsOf 21 = .ok (.iload_n 1, 1) := by decide +kernel
theorem dX12_thingsOf_22 : decode cX12_thingsOf 22 = .ok (.if_icmp .ne 9, 3) := by decide +kernel
theorem dX12_thingsOf_25 : decode cX12_thingsOf 25 = .ok (.iconst 1, 1) := by decide +kernel
theorem dX12_thingsOf_26 : decode cX12_thingsOf 26 = .ok (.iload_n 3, 1) := by decide +kernel
theorem dX12_thingsOf_27 : decode cX12_thingsOf 27 = .ok (.ishl, 1) := by decide +kernel
theorem dX12_thingsOf_28 : decode cX12_thingsOf 28 = .ok (.goto 4, 3) := by decide +kernel
theorem dX12_thingsOf_31 : decode cX12_thingsOf 31 = .ok (.iconst 0, 1) := by decide +kernel
theorem dX12_thingsOf_32 : decode cX12_thingsOf 32 = .ok (.ior, 1) := by decide +kernel
theorem dX12_thingsOf_33 : decode cX12_thingsOf 33 = .ok (.istore_n 2, 1) := by decide +kernel
theorem dX12_thingsOf_34 : decode cX12_thingsOf 34 = .ok (.iinc 3 1, 3) := by decide +kernel
theorem dX12_thingsOf_37 : decode cX12_thingsOf 37 = .ok (.goto (-33), 3) := by decide +kernel
theorem dX12_thingsOf_40 : decode cX12_thingsOf 40 = .ok (.iload_n 2, 1) := by decide +kernel
theorem dX12_thingsOf_41 : decode cX12_thingsOf 41 = .ok (.ireturn, 1) := by decide +kernel
theorem dX12_weightOf_0 : decode cX12_weightOf 0 = .ok (.iconst 0, 1) := by decide +kernel
theorem dX12_weightOf_1 : decode cX12_weightOf 1 = .ok (.istore_n 2, 1) := by decide +kernel
theorem dX12_weightOf_2 : decode cX12_weightOf 2 = .ok (.iconst 0, 1) := by decide +kernel
theorem dX12_weightOf_3 : decode cX12_weightOf 3 = .ok (.istore_n 3, 1) := by decide +kernel
theorem dX12_weightOf_4 : decode cX12_weightOf 4 = .ok (.iload_n 3, 1) := by decide +kernel
theorem dX12_weightOf_5 : decode cX12_weightOf 5 = .ok (.aload_n 0, 1) := by decide +kernel
theorem dX12_weightOf_6 : decode cX12_weightOf 6 = .ok (.getfield 9, 3) := by decide +kernel
theorem dX12_weightOf_9 : decode cX12_weightOf 9 = .ok (.iconst 4, 1) := by decide +kernel
theorem dX12_weightOf_10 : decode cX12_weightOf 10 = .ok (.iaload, 1) := by decide +kernel
theorem dX12_weightOf_11 : decode cX12_weightOf 11 = .ok (.if_icmp .ge 30, 3) := by decide +kernel
theorem dX12_weightOf_14 : decode cX12_weightOf 14 = .ok (.iload_n 2, 1) := by decide +kernel
theorem dX12_weightOf_15 : decode cX12_weightOf 15 = .ok (.iload_n 1, 1) := by decide +kernel
theorem dX12_weightOf_16 : decode cX12_weightOf 16 = .ok (.iload_n 3, 1) := by decide +kernel
theorem dX12_weightOf_17 : decode cX12_weightOf 17 = .ok (.invokestatic 332, 3) := by decide +kernel
theorem dX12_weightOf_20 : decode cX12_weightOf 20 = .ok (.ifCond .eq 12, 3) := by decide +kernel
theorem dX12_weightOf_23 : decode cX12_weightOf 23 = .ok (.aload_n 0, 1) := by decide +kernel
theorem dX12_weightOf_24 : decode cX12_weightOf 24 = .ok (.getfield 28, 3) := by decide +kernel
theorem dX12_weightOf_27 : decode cX12_weightOf 27 = .ok (.iload_n 3, 1) := by decide +kernel
theorem dX12_weightOf_28 : decode cX12_weightOf 28 = .ok (.iaload, 1) := by decide +kernel
theorem dX12_weightOf_29 : decode cX12_weightOf 29 = .ok (.goto 4, 3) := by decide +kernel
theorem dX12_weightOf_32 : decode cX12_weightOf 32 = .ok (.iconst 0, 1) := by decide +kernel
theorem dX12_weightOf_33 : decode cX12_weightOf 33 = .ok (.iadd, 1) := by decide +kernel
theorem dX12_weightOf_34 : decode cX12_weightOf 34 = .ok (.istore_n 2, 1) := by decide +kernel
theorem dX12_weightOf_35 : decode cX12_weightOf 35 = .ok (.iinc 3 1, 3) := by decide +kernel
theorem dX12_weightOf_38 : decode cX12_weightOf 38 = .ok (.goto (-34), 3) := by decide +kernel
theorem dX12_weightOf_41 : decode cX12_weightOf 41 = .ok (.iload_n 2, 1) := by decide +kernel
theorem dX12_weightOf_42 : decode cX12_weightOf 42 = .ok (.ireturn, 1) := by decide +kernel
theorem dX12_worthOf_0 : decode cX12_worthOf 0 = .ok (.iconst 0, 1) := by decide +kernel
theorem dX12_worthOf_1 : decode cX12_worthOf 1 = .ok (.istore_n 2, 1) := by decide +kernel
theorem dX12_worthOf_2 : decode cX12_worthOf 2 = .ok (.iconst 0, 1) := by decide +kernel
theorem dX12_worthOf_3 : decode cX12_worthOf 3 = .ok (.istore_n 3, 1) := by decide +kernel
theorem dX12_worthOf_4 : decode cX12_worthOf 4 = .ok (.iload_n 3, 1) := by decide +kernel
theorem dX12_worthOf_5 : decode cX12_worthOf 5 = .ok (.aload_n 0, 1) := by decide +kernel
theorem dX12_worthOf_6 : decode cX12_worthOf 6 = .ok (.getfield 9, 3) := by decide +kernel
theorem dX12_worthOf_9 : decode cX12_worthOf 9 = .ok (.iconst 4, 1) := by decide +kernel
theorem dX12_worthOf_10 : decode cX12_worthOf 10 = .ok (.iaload, 1) := by decide +kernel
theorem dX12_worthOf_11 : decode cX12_worthOf 11 = .ok (.if_icmp .ge 30, 3) := by decide +kernel
theorem dX12_worthOf_14 : decode cX12_worthOf 14 = .ok (.iload_n 2, 1) := by decide +kernel
theorem dX12_worthOf_15 : decode cX12_worthOf 15 = .ok (.iload_n 1, 1) := by decide +kernel
theorem dX12_worthOf_16 : decode cX12_worthOf 16 = .ok (.iload_n 3, 1) := by decide +kernel
theorem dX12_worthOf_17 : decode cX12_worthOf 17 = .ok (.invokestatic 332, 3) := by decide +kernel
theorem dX12_worthOf_20 : decode cX12_worthOf 20 = .ok (.ifCond .eq 12, 3) := by decide +kernel
theorem dX12_worthOf_23 : decode cX12_worthOf 23 = .ok (.aload_n 0, 1) := by decide +kernel
theorem dX12_worthOf_24 : decode cX12_worthOf 24 = .ok (.getfield 31, 3) := by decide +kernel
theorem dX12_worthOf_27 : decode cX12_worthOf 27 = .ok (.iload_n 3, 1) := by decide +kernel
theorem dX12_worthOf_28 : decode cX12_worthOf 28 = .ok (.iaload, 1) := by decide +kernel
theorem dX12_worthOf_29 : decode cX12_worthOf 29 = .ok (.goto 4, 3) := by decide +kernel
theorem dX12_worthOf_32 : decode cX12_worthOf 32 = .ok (.iconst 0, 1) := by decide +kernel
theorem dX12_worthOf_33 : decode cX12_worthOf 33 = .ok (.iadd, 1) := by decide +kernel
theorem dX12_worthOf_34 : decode cX12_worthOf 34 = .ok (.istore_n 2, 1) := by decide +kernel
theorem dX12_worthOf_35 : decode cX12_worthOf 35 = .ok (.iinc 3 1, 3) := by decide +kernel
theorem dX12_worthOf_38 : decode cX12_worthOf 38 = .ok (.goto (-34), 3) := by decide +kernel
theorem dX12_worthOf_41 : decode cX12_worthOf 41 = .ok (.iload_n 2, 1) := by decide +kernel
theorem dX12_worthOf_42 : decode cX12_worthOf 42 = .ok (.ireturn, 1) := by decide +kernel
theorem dX12_person_0 : decode cX12_person 0 = .ok (.aload_n 0, 1) := by decide +kernel
theorem dX12_person_1 : decode cX12_person 1 = .ok (.iload_n 1, 1) := by decide +kernel
theorem dX12_person_2 : decode cX12_person 2 = .ok (.invokevirtual 334, 3) := by decide +kernel
theorem dX12_person_5 : decode cX12_person 5 = .ok (.ifCond .ne 5, 3) := by decide +kernel
theorem dX12_person_8 : decode cX12_person 8 = .ok (.iconst (-1), 1) := by decide +kernel
theorem dX12_person_9 : decode cX12_person 9 = .ok (.ireturn, 1) := by decide +kernel
theorem dX12_person_10 : decode cX12_person 10 = .ok (.iload_n 2, 1) := by decide +kernel
theorem dX12_person_11 : decode cX12_person 11 = .ok (.tableswitch 84 0 5 #[37, 44, 51, 58, 64, 74], 37) := by decide +kernel
theorem dX12_person_48 : decode cX12_person 48 = .ok (.aload_n 0, 1) := by decide +kernel
theorem dX12_person_49 : decode cX12_person 49 = .ok (.getfield 25, 3) := by decide +kernel
theorem dX12_person_52 : decode cX12_person 52 = .ok (.iload_n 1, 1) := by decide +kernel
theorem dX12_person_53 : decode cX12_person 53 = .ok (.iaload, 1) := by decide +kernel
theorem dX12_person_54 : decode cX12_person 54 = .ok (.ireturn, 1) := by decide +kernel
theorem dX12_person_55 : decode cX12_person 55 = .ok (.aload_n 0, 1) := by decide +kernel
theorem dX12_person_56 : decode cX12_person 56 = .ok (.getfield 13, 3) := by decide +kernel
theorem dX12_person_59 : decode cX12_person 59 = .ok (.iload_n 1, 1) := by decide +kernel
theorem dX12_person_60 : decode cX12_person 60 = .ok (.iaload, 1) := by decide +kernel
theorem dX12_person_61 : decode cX12_person 61 = .ok (.ireturn, 1) := by decide +kernel
theorem dX12_person_62 : decode cX12_person 62 = .ok (.aload_n 0, 1) := by decide +kernel
theorem dX12_person_63 : decode cX12_person 63 = .ok (.getfield 16, 3) := by decide +kernel
theorem dX12_person_66 : decode cX12_person 66 = .ok (.iload_n 1, 1) := by decide +kernel
theorem dX12_person_67 : decode cX12_person 67 = .ok (.iaload, 1) := by decide +kernel
theorem dX12_person_68 : decode cX12_person 68 = .ok (.ireturn, 1) := by decide +kernel
theorem dX12_person_69 : decode cX12_person 69 = .ok (.aload_n 0, 1) := by decide +kernel
theorem dX12_person_70 : decode cX12_person 70 = .ok (.iload_n 1, 1) := by decide +kernel
theorem dX12_person_71 : decode cX12_person 71 = .ok (.invokevirtual 338, 3) := by decide +kernel
theorem dX12_person_74 : decode cX12_person 74 = .ok (.ireturn, 1) := by decide +kernel
theorem dX12_person_75 : decode cX12_person 75 = .ok (.aload_n 0, 1) := by decide +kernel
theorem dX12_person_76 : decode cX12_person 76 = .ok (.aload_n 0, 1) := by decide +kernel
theorem dX12_person_77 : decode cX12_person 77 = .ok (.iload_n 1, 1) := by decide +kernel
theorem dX12_person_78 : decode cX12_person 78 = .ok (.invokevirtual 338, 3) := by decide +kernel
theorem dX12_person_81 : decode cX12_person 81 = .ok (.invokevirtual 341, 3) := by decide +kernel
theorem dX12_person_84 : decode cX12_person 84 = .ok (.ireturn, 1) := by decide +kernel
theorem dX12_person_85 : decode cX12_person 85 = .ok (.aload_n 0, 1) := by decide +kernel
theorem dX12_person_86 : decode cX12_person 86 = .ok (.aload_n 0, 1) := by decide +kernel
theorem dX12_person_87 : decode cX12_person 87 = .ok (.iload_n 1, 1) := by decide +kernel
theorem dX12_person_88 : decode cX12_person 88 = .ok (.invokevirtual 338, 3) := by decide +kernel
theorem dX12_person_91 : decode cX12_person 91 = .ok (.invokevirtual 344, 3) := by decide +kernel
theorem dX12_person_94 : decode cX12_person 94 = .ok (.ireturn, 1) := by decide +kernel
theorem dX12_person_95 : decode cX12_person 95 = .ok (.iconst (-1), 1) := by decide +kernel
theorem dX12_person_96 : decode cX12_person 96 = .ok (.ireturn, 1) := by decide +kernel
theorem dX12_thing_0 : decode cX12_thing 0 = .ok (.aload_n 0, 1) := by decide +kernel
theorem dX12_thing_1 : decode cX12_thing 1 = .ok (.iload_n 1, 1) := by decide +kernel
theorem dX12_thing_2 : decode cX12_thing 2 = .ok (.invokevirtual 347, 3) := by decide +kernel
theorem dX12_thing_5 : decode cX12_thing 5 = .ok (.ifCond .eq 15, 3) := by decide +kernel
theorem dX12_thing_8 : decode cX12_thing 8 = .ok (.iload_n 2, 1) := by decide +kernel
theorem dX12_thing_9 : decode cX12_thing 9 = .ok (.i2l, 1) := by decide +kernel
theorem dX12_thing_10 : decode cX12_thing 10 = .ok (.lconst 0, 1) := by decide +kernel
theorem dX12_thing_11 : decode cX12_thing 11 = .ok (.ldc2_w 350, 3) := by decide +kernel
theorem dX12_thing_14 : decode cX12_thing 14 = .ok (.invokestatic 128, 3) := by decide +kernel
theorem dX12_thing_17 : decode cX12_thing 17 = .ok (.ifCond .ne 6, 3) := by decide +kernel
theorem dX12_thing_20 : decode cX12_thing 20 = .ok (.bipush (-2), 2) := by decide +kernel
theorem dX12_thing_22 : decode cX12_thing 22 = .ok (.ireturn, 1) := by decide +kernel
theorem dX12_thing_23 : decode cX12_thing 23 = .ok (.iload_n 2, 1) := by decide +kernel
theorem dX12_thing_24 : decode cX12_thing 24 = .ok (.ifCond .ne 12, 3) := by decide +kernel
theorem dX12_thing_27 : decode cX12_thing 27 = .ok (.aload_n 0, 1) := by decide +kernel
theorem dX12_thing_28 : decode cX12_thing 28 = .ok (.getfield 28, 3) := by decide +kernel
theorem dX12_thing_31 : decode cX12_thing 31 = .ok (.iload_n 1, 1) := by decide +kernel
theorem dX12_thing_32 : decode cX12_thing 32 = .ok (.iaload, 1) := by decide +kernel
theorem dX12_thing_33 : decode cX12_thing 33 = .ok (.goto 23, 3) := by decide +kernel
theorem dX12_thing_36 : decode cX12_thing 36 = .ok (.iload_n 2, 1) := by decide +kernel
theorem dX12_thing_37 : decode cX12_thing 37 = .ok (.iconst 1, 1) := by decide +kernel
theorem dX12_thing_38 : decode cX12_thing 38 = .ok (.if_icmp .ne 12, 3) := by decide +kernel
theorem dX12_thing_41 : decode cX12_thing 41 = .ok (.aload_n 0, 1) := by decide +kernel
theorem dX12_thing_42 : decode cX12_thing 42 = .ok (.getfield 31, 3) := by decide +kernel
theorem dX12_thing_45 : decode cX12_thing 45 = .ok (.iload_n 1, 1) := by decide +kernel
theorem dX12_thing_46 : decode cX12_thing 46 = .ok (.iaload, 1) := by decide +kernel
theorem dX12_thing_47 : decode cX12_thing 47 = .ok (.goto 9, 3) := by decide +kernel
theorem dX12_thing_50 : decode cX12_thing 50 = .ok (.aload_n 0, 1) := by decide +kernel
theorem dX12_thing_51 : decode cX12_thing 51 = .ok (.getfield 19, 3) := by decide +kernel
theorem dX12_thing_54 : decode cX12_thing 54 = .ok (.iload_n 1, 1) := by decide +kernel
theorem dX12_thing_55 : decode cX12_thing 55 = .ok (.iaload, 1) := by decide +kernel
theorem dX12_thing_56 : decode cX12_thing 56 = .ok (.ireturn, 1) := by decide +kernel
theorem dX12_stage_0 : decode cX12_stage 0 = .ok (.iload_n 1, 1) := by decide +kernel
theorem dX12_stage_1 : decode cX12_stage 1 = .ok (.i2l, 1) := by decide +kernel
theorem dX12_stage_2 : decode cX12_stage 2 = .ok (.lconst 0, 1) := by decide +kernel
theorem dX12_stage_3 : decode cX12_stage 3 = .ok (.aload_n 0, 1) := by decide +kernel
theorem dX12_stage_4 : decode cX12_stage 4 = .ok (.getfield 9, 3) := by decide +kernel
theorem dX12_stage_7 : decode cX12_stage 7 = .ok (.iconst 2, 1) := by decide +kernel
theorem dX12_stage_8 : decode cX12_stage 8 = .ok (.iaload, 1) := by decide +kernel
theorem dX12_stage_9 : decode cX12_stage 9 = .ok (.iconst 1, 1) := by decide +kernel
theorem dX12_stage_10 : decode cX12_stage 10 = .ok (.isub, 1) := by decide +kernel
theorem dX12_stage_11 : decode cX12_stage 11 = .ok (.i2l, 1) := by decide +kernel
theorem dX12_stage_12 : decode cX12_stage 12 = .ok (.invokestatic 128, 3) := by decide +kernel
theorem dX12_stage_15 : decode cX12_stage 15 = .ok (.ifCond .eq 12, 3) := by decide +kernel
theorem dX12_stage_18 : decode cX12_stage 18 = .ok (.aload_n 0, 1) := by decide +kernel
theorem dX12_stage_19 : decode cX12_stage 19 = .ok (.getfield 22, 3) := by decide +kernel
theorem dX12_stage_22 : decode cX12_stage 22 = .ok (.iload_n 1, 1) := by decide +kernel
theorem dX12_stage_23 : decode cX12_stage 23 = .ok (.iaload, 1) := by decide +kernel
theorem dX12_stage_24 : decode cX12_stage 24 = .ok (.goto 4, 3) := by decide +kernel
theorem dX12_stage_27 : decode cX12_stage 27 = .ok (.iconst (-1), 1) := by decide +kernel
theorem dX12_stage_28 : decode cX12_stage 28 = .ok (.ireturn, 1) := by decide +kernel
theorem dX12_inTown_0 : decode cX12_inTown 0 = .ok (.iconst 0, 1) := by decide +kernel
theorem dX12_inTown_1 : decode cX12_inTown 1 = .ok (.istore_n 1, 1) := by decide +kernel
theorem dX12_inTown_2 : decode cX12_inTown 2 = .ok (.iconst 0, 1) := by decide +kernel
theorem dX12_inTown_3 : decode cX12_inTown 3 = .ok (.istore_n 2, 1) := by decide +kernel
theorem dX12_inTown_4 : decode cX12_inTown 4 = .ok (.iload_n 2, 1) := by decide +kernel
theorem dX12_inTown_5 : decode cX12_inTown 5 = .ok (.aload_n 0, 1) := by decide +kernel
theorem dX12_inTown_6 : decode cX12_inTown 6 = .ok (.getfield 9, 3) := by decide +kernel
theorem dX12_inTown_9 : decode cX12_inTown 9 = .ok (.iconst 3, 1) := by decide +kernel
theorem dX12_inTown_10 : decode cX12_inTown 10 = .ok (.iaload, 1) := by decide +kernel
theorem dX12_inTown_11 : decode cX12_inTown 11 = .ok (.if_icmp .ge 32, 3) := by decide +kernel
theorem dX12_inTown_14 : decode cX12_inTown 14 = .ok (.iload_n 1, 1) := by decide +kernel
theorem dX12_inTown_15 : decode cX12_inTown 15 = .ok (.aload_n 0, 1) := by decide +kernel
theorem dX12_inTown_16 : decode cX12_inTown 16 = .ok (.getfield 13, 3) := by decide +kernel
theorem dX12_inTown_19 : decode cX12_inTown 19 = .ok (.iload_n 2, 1) := by decide +kernel
theorem dX12_inTown_20 : decode cX12_inTown 20 = .ok (.iaload, 1) := by decide +kernel
theorem dX12_inTown_21 : decode cX12_inTown 21 = .ok (.aload_n 0, 1) := by decide +kernel
theorem dX12_inTown_22 : decode cX12_inTown 22 = .ok (.invokevirtual 352, 3) := by decide +kernel
theorem dX12_inTown_25 : decode cX12_inTown 25 = .ok (.if_icmp .ne 9, 3) := by decide +kernel
theorem dX12_inTown_28 : decode cX12_inTown 28 = .ok (.iconst 1, 1) := by decide +kernel
theorem dX12_inTown_29 : decode cX12_inTown 29 = .ok (.iload_n 2, 1) := by decide +kernel
theorem dX12_inTown_30 : decode cX12_inTown 30 = .ok (.ishl, 1) := by decide +kernel
theorem dX12_inTown_31 : decode cX12_inTown 31 = .ok (.goto 4, 3) := by decide +kernel
theorem dX12_inTown_34 : decode cX12_inTown 34 = .ok (.iconst 0, 1) := by decide +kernel
theorem dX12_inTown_35 : decode cX12_inTown 35 = .ok (.ior, 1) := by decide +kernel
theorem dX12_inTown_36 : decode cX12_inTown 36 = .ok (.istore_n 1, 1) := by decide +kernel
theorem dX12_inTown_37 : decode cX12_inTown 37 = .ok (.iinc 2 1, 3) := by decide +kernel
theorem dX12_inTown_40 : decode cX12_inTown 40 = .ok (.goto (-36), 3) := by decide +kernel
theorem dX12_inTown_43 : decode cX12_inTown 43 = .ok (.iload_n 1, 1) := by decide +kernel
theorem dX12_inTown_44 : decode cX12_inTown 44 = .ok (.ireturn, 1) := by decide +kernel
theorem dX12_wealthNow_0 : decode cX12_wealthNow 0 = .ok (.aload_n 0, 1) := by decide +kernel
theorem dX12_wealthNow_1 : decode cX12_wealthNow 1 = .ok (.aload_n 0, 1) := by decide +kernel
theorem dX12_wealthNow_2 : decode cX12_wealthNow 2 = .ok (.bipush 10, 2) := by decide +kernel
theorem dX12_wealthNow_4 : decode cX12_wealthNow 4 = .ok (.aload_n 0, 1) := by decide +kernel
theorem dX12_wealthNow_5 : decode cX12_wealthNow 5 = .ok (.invokevirtual 352, 3) := by decide +kernel
theorem dX12_wealthNow_8 : decode cX12_wealthNow 8 = .ok (.iadd, 1) := by decide +kernel
theorem dX12_wealthNow_9 : decode cX12_wealthNow 9 = .ok (.invokevirtual 338, 3) := by decide +kernel
theorem dX12_wealthNow_12 : decode cX12_wealthNow 12 = .ok (.invokevirtual 344, 3) := by decide +kernel
theorem dX12_wealthNow_15 : decode cX12_wealthNow 15 = .ok (.istore_n 1, 1) := by decide +kernel
theorem dX12_wealthNow_16 : decode cX12_wealthNow 16 = .ok (.iconst 0, 1) := by decide +kernel
theorem dX12_wealthNow_17 : decode cX12_wealthNow 17 = .ok (.istore_n 2, 1) := by decide +kernel
theorem dX12_wealthNow_18 : decode cX12_wealthNow 18 = .ok (.iload_n 2, 1) := by decide +kernel
theorem dX12_wealthNow_19 : decode cX12_wealthNow 19 = .ok (.aload_n 0, 1) := by decide +kernel
theorem dX12_wealthNow_20 : decode cX12_wealthNow 20 = .ok (.getfield 9, 3) := by decide +kernel
theorem dX12_wealthNow_23 : decode cX12_wealthNow 23 = .ok (.iconst 3, 1) := by decide +kernel
theorem dX12_wealthNow_24 : decode cX12_wealthNow 24 = .ok (.iaload, 1) := by decide +kernel
theorem dX12_wealthNow_25 : decode cX12_wealthNow 25 = .ok (.if_icmp .ge 38, 3) := by decide +kernel
theorem dX12_wealthNow_28 : decode cX12_wealthNow 28 = .ok (.iload_n 1, 1) := by decide +kernel
theorem dX12_wealthNow_29 : decode cX12_wealthNow 29 = .ok (.aload_n 0, 1) := by decide +kernel
theorem dX12_wealthNow_30 : decode cX12_wealthNow 30 = .ok (.getfield 13, 3) := by decide +kernel
theorem dX12_wealthNow_33 : decode cX12_wealthNow 33 = .ok (.iload_n 2, 1) := by decide +kernel
theorem dX12_wealthNow_34 : decode cX12_wealthNow 34 = .ok (.iaload, 1) := by decide +kernel
theorem dX12_wealthNow_35 : decode cX12_wealthNow 35 = .ok (.aload_n 0, 1) := by decide +kernel
theorem dX12_wealthNow_36 : decode cX12_wealthNow 36 = .ok (.invokevirtual 352, 3) := by decide +kernel
theorem dX12_wealthNow_39 : decode cX12_wealthNow 39 = .ok (.if_icmp .ne 15, 3) := by decide +kernel
theorem dX12_wealthNow_42 : decode cX12_wealthNow 42 = .ok (.aload_n 0, 1) := by decide +kernel
theorem dX12_wealthNow_43 : decode cX12_wealthNow 43 = .ok (.aload_n 0, 1) := by decide +kernel
theorem dX12_wealthNow_44 : decode cX12_wealthNow 44 = .ok (.iload_n 2, 1) := by decide +kernel
theorem dX12_wealthNow_45 : decode cX12_wealthNow 45 = .ok (.invokevirtual 338, 3) := by decide +kernel
theorem dX12_wealthNow_48 : decode cX12_wealthNow 48 = .ok (.invokevirtual 344, 3) := by decide +kernel
theorem dX12_wealthNow_51 : decode cX12_wealthNow 51 = .ok (.goto 4, 3) := by decide +kernel
theorem dX12_wealthNow_54 : decode cX12_wealthNow 54 = .ok (.iconst 0, 1) := by decide +kernel
theorem dX12_wealthNow_55 : decode cX12_wealthNow 55 = .ok (.iadd, 1) := by decide +kernel
theorem dX12_wealthNow_56 : decode cX12_wealthNow 56 = .ok (.istore_n 1, 1) := by decide +kernel
theorem dX12_wealthNow_57 : decode cX12_wealthNow 57 = .ok (.iinc 2 1, 3) := by decide +kernel
theorem dX12_wealthNow_60 : decode cX12_wealthNow 60 = .ok (.goto (-42), 3) := by decide +kernel
theorem dX12_wealthNow_63 : decode cX12_wealthNow 63 = .ok (.iload_n 1, 1) := by decide +kernel
theorem dX12_wealthNow_64 : decode cX12_wealthNow 64 = .ok (.ireturn, 1) := by decide +kernel
theorem dX12_wants_0 : decode cX12_wants 0 = .ok (.aload_n 0, 1) := by decide +kernel
theorem dX12_wants_1 : decode cX12_wants 1 = .ok (.getfield 93, 3) := by decide +kernel
theorem dX12_wants_4 : decode cX12_wants 4 = .ok (.iconst 0, 1) := by decide +kernel
theorem dX12_wants_5 : decode cX12_wants 5 = .ok (.iload_n 1, 1) := by decide +kernel
theorem dX12_wants_6 : decode cX12_wants 6 = .ok (.i2l, 1) := by decide +kernel
theorem dX12_wants_7 : decode cX12_wants 7 = .ok (.lastore, 1) := by decide +kernel
theorem dX12_wants_8 : decode cX12_wants 8 = .ok (.aload_n 0, 1) := by decide +kernel
theorem dX12_wants_9 : decode cX12_wants 9 = .ok (.getfield 93, 3) := by decide +kernel
theorem dX12_wants_12 : decode cX12_wants 12 = .ok (.iconst 1, 1) := by decide +kernel
theorem dX12_wants_13 : decode cX12_wants 13 = .ok (.iload_n 2, 1) := by decide +kernel
theorem dX12_wants_14 : decode cX12_wants 14 = .ok (.i2l, 1) := by decide +kernel
theorem dX12_wants_15 : decode cX12_wants 15 = .ok (.lastore, 1) := by decide +kernel
theorem dX12_wants_16 : decode cX12_wants 16 = .ok (.aload_n 0, 1) := by decide +kernel
theorem dX12_wants_17 : decode cX12_wants 17 = .ok (.getfield 93, 3) := by decide +kernel
theorem dX12_wants_20 : decode cX12_wants 20 = .ok (.iconst 2, 1) := by decide +kernel
theorem dX12_wants_21 : decode cX12_wants 21 = .ok (.aload_n 0, 1) := by decide +kernel
theorem dX12_wants_22 : decode cX12_wants 22 = .ok (.getfield 28, 3) := by decide +kernel
theorem dX12_wants_25 : decode cX12_wants 25 = .ok (.iload_n 2, 1) := by decide +kernel
theorem dX12_wants_26 : decode cX12_wants 26 = .ok (.iaload, 1) := by decide +kernel
theorem dX12_wants_27 : decode cX12_wants 27 = .ok (.i2l, 1) := by decide +kernel
theorem dX12_wants_28 : decode cX12_wants 28 = .ok (.lastore, 1) := by decide +kernel
theorem dX12_wants_29 : decode cX12_wants 29 = .ok (.aload_n 0, 1) := by decide +kernel
theorem dX12_wants_30 : decode cX12_wants 30 = .ok (.getfield 93, 3) := by decide +kernel
theorem dX12_wants_33 : decode cX12_wants 33 = .ok (.iconst 3, 1) := by decide +kernel
theorem dX12_wants_34 : decode cX12_wants 34 = .ok (.aload_n 0, 1) := by decide +kernel
theorem dX12_wants_35 : decode cX12_wants 35 = .ok (.getfield 31, 3) := by decide +kernel
theorem dX12_wants_38 : decode cX12_wants 38 = .ok (.iload_n 2, 1) := by decide +kernel
theorem dX12_wants_39 : decode cX12_wants 39 = .ok (.iaload, 1) := by decide +kernel
theorem dX12_wants_40 : decode cX12_wants 40 = .ok (.i2l, 1) := by decide +kernel
theorem dX12_wants_41 : decode cX12_wants 41 = .ok (.lastore, 1) := by decide +kernel
theorem dX12_wants_42 : decode cX12_wants 42 = .ok (.aload_n 0, 1) := by decide +kernel
theorem dX12_wants_43 : decode cX12_wants 43 = .ok (.getfield 93, 3) := by decide +kernel
theorem dX12_wants_46 : decode cX12_wants 46 = .ok (.iconst 4, 1) := by decide +kernel
theorem dX12_wants_47 : decode cX12_wants 47 = .ok (.aload_n 0, 1) := by decide +kernel
theorem dX12_wants_48 : decode cX12_wants 48 = .ok (.getfield 19, 3) := by decide +kernel
theorem dX12_wants_51 : decode cX12_wants 51 = .ok (.iload_n 2, 1) := by decide +kernel
theorem dX12_wants_52 : decode cX12_wants 52 = .ok (.iaload, 1) := by decide +kernel
theorem dX12_wants_53 : decode cX12_wants 53 = .ok (.iload_n 1, 1) := by decide +kernel
theorem dX12_wants_54 : decode cX12_wants 54 = .ok (.if_icmp .ne 7, 3) := by decide +kernel
theorem dX12_wants_57 : decode cX12_wants 57 = .ok (.lconst 1, 1) := by decide +kernel
theorem dX12_wants_58 : decode cX12_wants 58 = .ok (.goto 4, 3) := by decide +kernel
theorem dX12_wants_61 : decode cX12_wants 61 = .ok (.lconst 0, 1) := by decide +kernel
theorem dX12_wants_62 : decode cX12_wants 62 = .ok (.lastore, 1) := by decide +kernel
theorem dX12_wants_63 : decode cX12_wants 63 = .ok (.aload_n 0, 1) := by decide +kernel
theorem dX12_wants_64 : decode cX12_wants 64 = .ok (.getfield 93, 3) := by decide +kernel
theorem dX12_wants_67 : decode cX12_wants 67 = .ok (.iconst 5, 1) := by decide +kernel
theorem dX12_wants_68 : decode cX12_wants 68 = .ok (.aload_n 0, 1) := by decide +kernel
theorem dX12_wants_69 : decode cX12_wants 69 = .ok (.iload_n 1, 1) := by decide +kernel
theorem dX12_wants_70 : decode cX12_wants 70 = .ok (.invokevirtual 338, 3) := by decide +kernel
theorem dX12_wants_73 : decode cX12_wants 73 = .ok (.invokestatic 355, 3) := by decide +kernel
theorem dX12_wants_76 : decode cX12_wants 76 = .ok (.i2l, 1) := by decide +kernel
theorem dX12_wants_77 : decode cX12_wants 77 = .ok (.lastore, 1) := by decide +kernel
theorem dX12_wants_78 : decode cX12_wants 78 = .ok (.aload_n 0, 1) := by decide +kernel
theorem dX12_wants_79 : decode cX12_wants 79 = .ok (.getfield 93, 3) := by decide +kernel
theorem dX12_wants_82 : decode cX12_wants 82 = .ok (.bipush 6, 2) := by decide +kernel
theorem dX12_wants_84 : decode cX12_wants 84 = .ok (.aload_n 0, 1) := by decide +kernel
theorem dX12_wants_85 : decode cX12_wants 85 = .ok (.aload_n 0, 1) := by decide +kernel
theorem dX12_wants_86 : decode cX12_wants 86 = .ok (.iload_n 1, 1) := by decide +kernel
theorem dX12_wants_87 : decode cX12_wants 87 = .ok (.invokevirtual 338, 3) := by decide +kernel
theorem dX12_wants_90 : decode cX12_wants 90 = .ok (.invokevirtual 341, 3) := by decide +kernel
theorem dX12_wants_93 : decode cX12_wants 93 = .ok (.i2l, 1) := by decide +kernel
theorem dX12_wants_94 : decode cX12_wants 94 = .ok (.lastore, 1) := by decide +kernel
theorem dX12_wants_95 : decode cX12_wants 95 = .ok (.aload_n 0, 1) := by decide +kernel
theorem dX12_wants_96 : decode cX12_wants 96 = .ok (.getfield 93, 3) := by decide +kernel
theorem dX12_wants_99 : decode cX12_wants 99 = .ok (.bipush 7, 2) := by decide +kernel
theorem dX12_wants_101 : decode cX12_wants 101 = .ok (.aload_n 0, 1) := by decide +kernel
theorem dX12_wants_102 : decode cX12_wants 102 = .ok (.getfield 13, 3) := by decide +kernel
theorem dX12_wants_105 : decode cX12_wants 105 = .ok (.iload_n 1, 1) := by decide +kernel
theorem dX12_wants_106 : decode cX12_wants 106 = .ok (.iaload, 1) := by decide +kernel
theorem dX12_wants_107 : decode cX12_wants 107 = .ok (.i2l, 1) := by decide +kernel
theorem dX12_wants_108 : decode cX12_wants 108 = .ok (.lastore, 1) := by decide +kernel
theorem dX12_wants_109 : decode cX12_wants 109 = .ok (.aload_n 0, 1) := by decide +kernel
theorem dX12_wants_110 : decode cX12_wants 110 = .ok (.getfield 93, 3) := by decide +kernel
theorem dX12_wants_113 : decode cX12_wants 113 = .ok (.bipush 8, 2) := by decide +kernel
theorem dX12_wants_115 : decode cX12_wants 115 = .ok (.aload_n 0, 1) := by decide +kernel
theorem dX12_wants_116 : decode cX12_wants 116 = .ok (.invokevirtual 352, 3) := by decide +kernel
theorem dX12_wants_119 : decode cX12_wants 119 = .ok (.aload_n 0, 1) := by decide +kernel
theorem dX12_wants_120 : decode cX12_wants 120 = .ok (.getfield 13, 3) := by decide +kernel
theorem dX12_wants_123 : decode cX12_wants 123 = .ok (.iload_n 1, 1) := by decide +kernel
theorem dX12_wants_124 : decode cX12_wants 124 = .ok (.iaload, 1) := by decide +kernel
theorem dX12_wants_125 : decode cX12_wants 125 = .ok (.isub, 1) := by decide +kernel
theorem dX12_wants_126 : decode cX12_wants 126 = .ok (.i2l, 1) := by decide +kernel
theorem dX12_wants_127 : decode cX12_wants 127 = .ok (.lastore, 1) := by decide +kernel
theorem dX12_wants_128 : decode cX12_wants 128 = .ok (.aload_n 0, 1) := by decide +kernel
theorem dX12_wants_129 : decode cX12_wants 129 = .ok (.getfield 93, 3) := by decide +kernel
theorem dX12_wants_132 : decode cX12_wants 132 = .ok (.bipush 9, 2) := by decide +kernel
theorem dX12_wants_134 : decode cX12_wants 134 = .ok (.aload_n 0, 1) := by decide +kernel
theorem dX12_wants_135 : decode cX12_wants 135 = .ok (.getfield 25, 3) := by decide +kernel
theorem dX12_wants_138 : decode cX12_wants 138 = .ok (.iload_n 1, 1) := by decide +kernel
theorem dX12_wants_139 : decode cX12_wants 139 = .ok (.iaload, 1) := by decide +kernel
theorem dX12_wants_140 : decode cX12_wants 140 = .ok (.i2l, 1) := by decide +kernel
theorem dX12_wants_141 : decode cX12_wants 141 = .ok (.lastore, 1) := by decide +kernel
theorem dX12_wants_142 : decode cX12_wants 142 = .ok (.aload_n 0, 1) := by decide +kernel
theorem dX12_wants_143 : decode cX12_wants 143 = .ok (.getfield 93, 3) := by decide +kernel
theorem dX12_wants_146 : decode cX12_wants 146 = .ok (.bipush 10, 2) := by decide +kernel
theorem dX12_wants_148 : decode cX12_wants 148 = .ok (.aload_n 0, 1) := by decide +kernel
theorem dX12_wants_149 : decode cX12_wants 149 = .ok (.getfield 22, 3) := by decide +kernel
theorem dX12_wants_152 : decode cX12_wants 152 = .ok (.aload_n 0, 1) := by decide +kernel
theorem dX12_wants_153 : decode cX12_wants 153 = .ok (.getfield 13, 3) := by decide +kernel
theorem dX12_wants_156 : decode cX12_wants 156 = .ok (.iload_n 1, 1) := by decide +kernel
theorem dX12_wants_157 : decode cX12_wants 157 = .ok (.iaload, 1) := by decide +kernel
theorem dX12_wants_158 : decode cX12_wants 158 = .ok (.iaload, 1) := by decide +kernel
theorem dX12_wants_159 : decode cX12_wants 159 = .ok (.i2l, 1) := by decide +kernel
theorem dX12_wants_160 : decode cX12_wants 160 = .ok (.lastore, 1) := by decide +kernel
theorem dX12_wants_161 : decode cX12_wants 161 = .ok (.aload_n 0, 1) := by decide +kernel
theorem dX12_wants_162 : decode cX12_wants 162 = .ok (.getfield 93, 3) := by decide +kernel
theorem dX12_wants_165 : decode cX12_wants 165 = .ok (.bipush 11, 2) := by decide +kernel
theorem dX12_wants_167 : decode cX12_wants 167 = .ok (.aload_n 0, 1) := by decide +kernel
theorem dX12_wants_168 : decode cX12_wants 168 = .ok (.getfield 9, 3) := by decide +kernel
theorem dX12_wants_171 : decode cX12_wants 171 = .ok (.iconst 5, 1) := by decide +kernel
theorem dX12_wants_172 : decode cX12_wants 172 = .ok (.iaload, 1) := by decide +kernel
theorem dX12_wants_173 : decode cX12_wants 173 = .ok (.i2l, 1) := by decide +kernel
theorem dX12_wants_174 : decode cX12_wants 174 = .ok (.lastore, 1) := by decide +kernel
theorem dX12_wants_175 : decode cX12_wants 175 = .ok (.aload_n 0, 1) := by decide +kernel
theorem dX12_wants_176 : decode cX12_wants 176 = .ok (.invokevirtual 358, 3) := by decide +kernel
theorem dX12_wants_179 : decode cX12_wants 179 = .ok (.lconst 0, 1) := by decide +kernel
theorem dX12_wants_180 : decode cX12_wants 180 = .ok (.lcmp, 1) := by decide +kernel
theorem dX12_wants_181 : decode cX12_wants 181 = .ok (.ifCond .le 7, 3) := by decide +kernel
theorem dX12_wants_184 : decode cX12_wants 184 = .ok (.iconst 1, 1) := by decide +kernel
theorem dX12_wants_185 : decode cX12_wants 185 = .ok (.goto 4, 3) := by decide +kernel
theorem dX12_wants_188 : decode cX12_wants 188 = .ok (.iconst 0, 1) := by decide +kernel
theorem dX12_wants_189 : decode cX12_wants 189 = .ok (.ireturn, 1) := by decide +kernel
theorem dX12_packs_0 : decode cX12_packs 0 = .ok (.iconst 0, 1) := by decide +kernel
theorem dX12_packs_1 : decode cX12_packs 1 = .ok (.istore_n 2, 1) := by decide +kernel
theorem dX12_packs_2 : decode cX12_packs 2 = .ok (.iload_n 2, 1) := by decide +kernel
theorem dX12_packs_3 : decode cX12_packs 3 = .ok (.aload_n 0, 1) := by decide +kernel
theorem dX12_packs_4 : decode cX12_packs 4 = .ok (.getfield 9, 3) := by decide +kernel
theorem dX12_packs_7 : decode cX12_packs 7 = .ok (.iconst 4, 1) := by decide +kernel
theorem dX12_packs_8 : decode cX12_packs 8 = .ok (.iaload, 1) := by decide +kernel
theorem dX12_packs_9 : decode cX12_packs 9 = .ok (.if_icmp .ge 88, 3) := by decide +kernel
theorem dX12_packs_12 : decode cX12_packs 12 = .ok (.aload_n 0, 1) := by decide +kernel
theorem dX12_packs_13 : decode cX12_packs 13 = .ok (.getfield 19, 3) := by decide +kernel
theorem dX12_packs_16 : decode cX12_packs 16 = .ok (.iload_n 2, 1) := by decide +kernel
theorem dX12_packs_17 : decode cX12_packs 17 = .ok (.iaload, 1) := by decide +kernel
theorem dX12_packs_18 : decode cX12_packs 18 = .ok (.iload_n 1, 1) := by decide +kernel
theorem dX12_packs_19 : decode cX12_packs 19 = .ok (.if_icmp .eq 21, 3) := by decide +kernel
theorem dX12_packs_22 : decode cX12_packs 22 = .ok (.aload_n 0, 1) := by decide +kernel
theorem dX12_packs_23 : decode cX12_packs 23 = .ok (.getfield 19, 3) := by decide +kernel
theorem dX12_packs_26 : decode cX12_packs 26 = .ok (.iload_n 2, 1) := by decide +kernel
theorem dX12_packs_27 : decode cX12_packs 27 = .ok (.iaload, 1) := by decide +kernel
theorem dX12_packs_28 : decode cX12_packs 28 = .ok (.bipush 10, 2) := by decide +kernel
theorem dX12_packs_30 : decode cX12_packs 30 = .ok (.aload_n 0, 1) := by decide +kernel
theorem dX12_packs_31 : decode cX12_packs 31 = .ok (.getfield 13, 3) := by decide +kernel
theorem dX12_packs_34 : decode cX12_packs 34 = .ok (.iload_n 1, 1) := by decide +kernel
theorem dX12_packs_35 : decode cX12_packs 35 = .ok (.iaload, 1) := by decide +kernel
theorem dX12_packs_36 : decode cX12_packs 36 = .ok (.iadd, 1) := by decide +kernel
theorem dX12_packs_37 : decode cX12_packs 37 = .ok (.if_icmp .ne 54, 3) := by decide +kernel
theorem dX12_packs_40 : decode cX12_packs 40 = .ok (.aload_n 0, 1) := by decide +kernel
theorem dX12_packs_41 : decode cX12_packs 41 = .ok (.iload_n 1, 1) := by decide +kernel
theorem dX12_packs_42 : decode cX12_packs 42 = .ok (.iload_n 2, 1) := by decide +kernel
theorem dX12_packs_43 : decode cX12_packs 43 = .ok (.invokevirtual 362, 3) := by decide +kernel
theorem dX12_packs_46 : decode cX12_packs 46 = .ok (.ifCond .ne 21, 3) := by decide +kernel
theorem dX12_packs_49 : decode cX12_packs 49 = .ok (.aload_n 0, 1) := by decide +kernel
theorem dX12_packs_50 : decode cX12_packs 50 = .ok (.getfield 19, 3) := by decide +kernel
theorem dX12_packs_53 : decode cX12_packs 53 = .ok (.iload_n 2, 1) := by decide +kernel
theorem dX12_packs_54 : decode cX12_packs 54 = .ok (.bipush 10, 2) := by decide +kernel
theorem dX12_packs_56 : decode cX12_packs 56 = .ok (.aload_n 0, 1) := by decide +kernel
theorem dX12_packs_57 : decode cX12_packs 57 = .ok (.getfield 13, 3) := by decide +kernel
theorem dX12_packs_60 : decode cX12_packs 60 = .ok (.iload_n 1, 1) := by decide +kernel
theorem dX12_packs_61 : decode cX12_packs 61 = .ok (.iaload, 1) := by decide +kernel
theorem dX12_packs_62 : decode cX12_packs 62 = .ok (.iadd, 1) := by decide +kernel
theorem dX12_packs_63 : decode cX12_packs 63 = .ok (.iastore, 1) := by decide +kernel
theorem dX12_packs_64 : decode cX12_packs 64 = .ok (.goto 27, 3) := by decide +kernel
theorem dX12_packs_67 : decode cX12_packs 67 = .ok (.aload_n 0, 1) := by decide +kernel
theorem dX12_packs_68 : decode cX12_packs 68 = .ok (.iload_n 1, 1) := by decide +kernel
theorem dX12_packs_69 : decode cX12_packs 69 = .ok (.invokevirtual 338, 3) := by decide +kernel
theorem dX12_packs_72 : decode cX12_packs 72 = .ok (.invokestatic 355, 3) := by decide +kernel
theorem dX12_packs_75 : decode cX12_packs 75 = .ok (.aload_n 0, 1) := by decide +kernel
theorem dX12_packs_76 : decode cX12_packs 76 = .ok (.getfield 9, 3) := by decide +kernel
theorem dX12_packs_79 : decode cX12_packs 79 = .ok (.iconst 1, 1) := by decide +kernel
theorem dX12_packs_80 : decode cX12_packs 80 = .ok (.iaload, 1) := by decide +kernel
theorem dX12_packs_81 : decode cX12_packs 81 = .ok (.if_icmp .ge 10, 3) := by decide +kernel
theorem dX12_packs_84 : decode cX12_packs 84 = .ok (.aload_n 0, 1) := by decide +kernel
theorem dX12_packs_85 : decode cX12_packs 85 = .ok (.getfield 19, 3) := by decide +kernel
theorem dX12_packs_88 : decode cX12_packs 88 = .ok (.iload_n 2, 1) := by decide +kernel
theorem dX12_packs_89 : decode cX12_packs 89 = .ok (.iload_n 1, 1) := by decide +kernel
theorem dX12_packs_90 : decode cX12_packs 90 = .ok (.iastore, 1) := by decide +kernel
theorem dX12_packs_91 : decode cX12_packs 91 = .ok (.iinc 2 1, 3) := by decide +kernel
theorem dX12_packs_94 : decode cX12_packs 94 = .ok (.goto (-92), 3) := by decide +kernel
theorem dX12_packs_97 : decode cX12_packs 97 = .ok (.return_, 1) := by decide +kernel
theorem dX12_goes_0 : decode cX12_goes 0 = .ok (.iconst 0, 1) := by decide +kernel
theorem dX12_goes_1 : decode cX12_goes 1 = .ok (.istore_n 1, 1) := by decide +kernel
theorem dX12_goes_2 : decode cX12_goes 2 = .ok (.iconst 0, 1) := by decide +kernel
theorem dX12_goes_3 : decode cX12_goes 3 = .ok (.istore_n 2, 1) := by decide +kernel
theorem dX12_goes_4 : decode cX12_goes 4 = .ok (.iload_n 2, 1) := by decide +kernel
theorem dX12_goes_5 : decode cX12_goes 5 = .ok (.aload_n 0, 1) := by decide +kernel
theorem dX12_goes_6 : decode cX12_goes 6 = .ok (.getfield 9, 3) := by decide +kernel
theorem dX12_goes_9 : decode cX12_goes 9 = .ok (.iconst 3, 1) := by decide +kernel
theorem dX12_goes_10 : decode cX12_goes 10 = .ok (.iaload, 1) := by decide +kernel
theorem dX12_goes_11 : decode cX12_goes 11 = .ok (.if_icmp .ge 115, 3) := by decide +kernel
theorem dX12_goes_14 : decode cX12_goes 14 = .ok (.aload_n 0, 1) := by decide +kernel
theorem dX12_goes_15 : decode cX12_goes 15 = .ok (.getfield 13, 3) := by decide +kernel
theorem dX12_goes_18 : decode cX12_goes 18 = .ok (.iload_n 2, 1) := by decide +kernel
theorem dX12_goes_19 : decode cX12_goes 19 = .ok (.iaload, 1) := by decide +kernel
theorem dX12_goes_20 : decode cX12_goes 20 = .ok (.aload_n 0, 1) := by decide +kernel
theorem dX12_goes_21 : decode cX12_goes 21 = .ok (.invokevirtual 352, 3) := by decide +kernel
theorem dX12_goes_24 : decode cX12_goes 24 = .ok (.if_icmp .ge 96, 3) := by decide +kernel
theorem dX12_goes_27 : decode cX12_goes 27 = .ok (.aload_n 0, 1) := by decide +kernel
theorem dX12_goes_28 : decode cX12_goes 28 = .ok (.getfield 16, 3) := by decide +kernel
theorem dX12_goes_31 : decode cX12_goes 31 = .ok (.iload_n 2, 1) := by decide +kernel
theorem dX12_goes_32 : decode cX12_goes 32 = .ok (.iaload, 1) := by decide +kernel
theorem dX12_goes_33 : decode cX12_goes 33 = .ok (.ifCond .ne 19, 3) := by decide +kernel
theorem dX12_goes_36 : decode cX12_goes 36 = .ok (.aload_n 0, 1) := by decide +kernel
theorem dX12_goes_37 : decode cX12_goes 37 = .ok (.getfield 9, 3) := by decide +kernel
theorem dX12_goes_40 : decode cX12_goes 40 = .ok (.bipush 8, 2) := by decide +kernel
theorem dX12_goes_42 : decode cX12_goes 42 = .ok (.iaload, 1) := by decide +kernel
theorem dX12_goes_43 : decode cX12_goes 43 = .ok (.iconst (-1), 1) := by decide +kernel
theorem dX12_goes_44 : decode cX12_goes 44 = .ok (.if_icmp .eq 8, 3) := by decide +kernel
theorem dX12_goes_47 : decode cX12_goes 47 = .ok (.aload_n 0, 1) := by decide +kernel
theorem dX12_goes_48 : decode cX12_goes 48 = .ok (.iload_n 2, 1) := by decide +kernel
theorem dX12_goes_49 : decode cX12_goes 49 = .ok (.invokevirtual 365, 3) := by decide +kernel
theorem dX12_goes_52 : decode cX12_goes 52 = .ok (.aload_n 0, 1) := by decide +kernel
theorem dX12_goes_53 : decode cX12_goes 53 = .ok (.getfield 16, 3) := by decide +kernel
theorem dX12_goes_56 : decode cX12_goes 56 = .ok (.iload_n 2, 1) := by decide +kernel
theorem dX12_goes_57 : decode cX12_goes 57 = .ok (.dup2, 1) := by decide +kernel
theorem dX12_goes_58 : decode cX12_goes 58 = .ok (.iaload, 1) := by decide +kernel
theorem dX12_goes_59 : decode cX12_goes 59 = .ok (.aload_n 0, 1) := by decide +kernel
theorem dX12_goes_60 : decode cX12_goes 60 = .ok (.getfield 25, 3) := by decide +kernel
theorem dX12_goes_63 : decode cX12_goes 63 = .ok (.iload_n 2, 1) := by decide +kernel
theorem dX12_goes_64 : decode cX12_goes 64 = .ok (.iaload, 1) := by decide +kernel
theorem dX12_goes_65 : decode cX12_goes 65 = .ok (.iadd, 1) := by decide +kernel
theorem dX12_goes_66 : decode cX12_goes 66 = .ok (.iastore, 1) := by decide +kernel
theorem dX12_goes_67 : decode cX12_goes 67 = .ok (.aload_n 0, 1) := by decide +kernel
theorem dX12_goes_68 : decode cX12_goes 68 = .ok (.getfield 16, 3) := by decide +kernel
theorem dX12_goes_71 : decode cX12_goes 71 = .ok (.iload_n 2, 1) := by decide +kernel
theorem dX12_goes_72 : decode cX12_goes 72 = .ok (.iaload, 1) := by decide +kernel
theorem dX12_goes_73 : decode cX12_goes 73 = .ok (.aload_n 0, 1) := by decide +kernel
theorem dX12_goes_74 : decode cX12_goes 74 = .ok (.getfield 22, 3) := by decide +kernel
theorem dX12_goes_77 : decode cX12_goes 77 = .ok (.aload_n 0, 1) := by decide +kernel
theorem dX12_goes_78 : decode cX12_goes 78 = .ok (.getfield 13, 3) := by decide +kernel
theorem dX12_goes_81 : decode cX12_goes 81 = .ok (.iload_n 2, 1) := by decide +kernel
theorem dX12_goes_82 : decode cX12_goes 82 = .ok (.iaload, 1) := by decide +kernel
theorem dX12_goes_83 : decode cX12_goes 83 = .ok (.iaload, 1) := by decide +kernel
theorem dX12_goes_84 : decode cX12_goes 84 = .ok (.aload_n 0, 1) := by decide +kernel
theorem dX12_goes_85 : decode cX12_goes 85 = .ok (.aload_n 0, 1) := by decide +kernel
theorem dX12_goes_86 : decode cX12_goes 86 = .ok (.iload_n 2, 1) := by decide +kernel
theorem dX12_goes_87 : decode cX12_goes 87 = .ok (.invokevirtual 338, 3) := by decide +kernel
theorem dX12_goes_90 : decode cX12_goes 90 = .ok (.invokevirtual 341, 3) := by decide +kernel
theorem dX12_goes_93 : decode cX12_goes 93 = .ok (.iadd, 1) := by decide +kernel
theorem dX12_goes_94 : decode cX12_goes 94 = .ok (.if_icmp .lt 26, 3) := by decide +kernel
theorem dX12_goes_97 : decode cX12_goes 97 = .ok (.aload_n 0, 1) := by decide +kernel
theorem dX12_goes_98 : decode cX12_goes 98 = .ok (.getfield 13, 3) := by decide +kernel
theorem dX12_goes_101 : decode cX12_goes 101 = .ok (.iload_n 2, 1) := by decide +kernel
theorem dX12_goes_102 : decode cX12_goes 102 = .ok (.dup2, 1) := by decide +kernel
theorem dX12_goes_103 : decode cX12_goes 103 = .ok (.iaload, 1) := by decide +kernel
theorem dX12_goes_104 : decode cX12_goes 104 = .ok (.iconst 1, 1) := by decide +kernel
theorem dX12_goes_105 : decode cX12_goes 105 = .ok (.iadd, 1) := by decide +kernel
theorem dX12_goes_106 : decode cX12_goes 106 = .ok (.iastore, 1) := by decide +kernel
theorem dX12_goes_107 : decode cX12_goes 107 = .ok (.aload_n 0, 1) := by decide +kernel
theorem dX12_goes_108 : decode cX12_goes 108 = .ok (.getfield 16, 3) := by decide +kernel
theorem dX12_goes_111 : decode cX12_goes 111 = .ok (.iload_n 2, 1) := by decide +kernel
theorem dX12_goes_112 : decode cX12_goes 112 = .ok (.iconst 0, 1) := by decide +kernel
theorem dX12_goes_113 : decode cX12_goes 113 = .ok (.iastore, 1) := by decide +kernel
theorem dX12_goes_114 : decode cX12_goes 114 = .ok (.iload_n 1, 1) := by decide +kernel
theorem dX12_goes_115 : decode cX12_goes 115 = .ok (.iconst 1, 1) := by decide +kernel
theorem dX12_goes_116 : decode cX12_goes 116 = .ok (.iload_n 2, 1) := by decide +kernel
theorem dX12_goes_117 : decode cX12_goes 117 = .ok (.ishl, 1) := by decide +kernel
theorem dX12_goes_118 : decode cX12_goes 118 = .ok (.ior, 1) := by decide +kernel
theorem dX12_goes_119 : decode cX12_goes 119 = .ok (.istore_n 1, 1) := by decide +kernel
theorem dX12_goes_120 : decode cX12_goes 120 = .ok (.iinc 2 1, 3) := by decide +kernel
theorem dX12_goes_123 : decode cX12_goes 123 = .ok (.goto (-119), 3) := by decide +kernel
theorem dX12_goes_126 : decode cX12_goes 126 = .ok (.aload_n 0, 1) := by decide +kernel
theorem dX12_goes_127 : decode cX12_goes 127 = .ok (.getfield 9, 3) := by decide +kernel
theorem dX12_goes_130 : decode cX12_goes 130 = .ok (.iconst 5, 1) := by decide +kernel
theorem dX12_goes_131 : decode cX12_goes 131 = .ok (.dup2, 1) := by decide +kernel
theorem dX12_goes_132 : decode cX12_goes 132 = .ok (.iaload, 1) := by decide +kernel
theorem dX12_goes_133 : decode cX12_goes 133 = .ok (.iconst 1, 1) := by decide +kernel
theorem dX12_goes_134 : decode cX12_goes 134 = .ok (.iadd, 1) := by decide +kernel
theorem dX12_goes_135 : decode cX12_goes 135 = .ok (.iastore, 1) := by decide +kernel
theorem dX12_goes_136 : decode cX12_goes 136 = .ok (.iload_n 1, 1) := by decide +kernel
theorem dX12_goes_137 : decode cX12_goes 137 = .ok (.ireturn, 1) := by decide +kernel
theorem dX12_goFor_0 : decode cX12_goFor 0 = .ok (.iconst 0, 1) := by decide +kernel
theorem dX12_goFor_1 : decode cX12_goFor 1 = .ok (.istore_n 2, 1) := by decide +kernel
theorem dX12_goFor_2 : decode cX12_goFor 2 = .ok (.iload_n 2, 1) := by decide +kernel
theorem dX12_goFor_3 : decode cX12_goFor 3 = .ok (.iload_n 1, 1) := by decide +kernel
theorem dX12_goFor_4 : decode cX12_goFor 4 = .ok (.if_icmp .ge 14, 3) := by decide +kernel
theorem dX12_goFor_7 : decode cX12_goFor 7 = .ok (.aload_n 0, 1) := by decide +kernel
theorem dX12_goFor_8 : decode cX12_goFor 8 = .ok (.invokevirtual 368, 3) := by decide +kernel
theorem dX12_goFor_11 : decode cX12_goFor 11 = .ok (.pop, 1) := by decide +kernel
theorem dX12_goFor_12 : decode cX12_goFor 12 = .ok (.iinc 2 1, 3) := by decide +kernel
theorem dX12_goFor_15 : decode cX12_goFor 15 = .ok (.goto (-13), 3) := by decide +kernel
theorem dX12_goFor_18 : decode cX12_goFor 18 = .ok (.return_, 1) := by decide +kernel
theorem dX12_moves_0 : decode cX12_moves 0 = .ok (.aload_n 0, 1) := by decide +kernel
theorem dX12_moves_1 : decode cX12_moves 1 = .ok (.getfield 371, 3) := by decide +kernel
theorem dX12_moves_4 : decode cX12_moves 4 = .ok (.ifCond .eq 15, 3) := by decide +kernel
theorem dX12_moves_7 : decode cX12_moves 7 = .ok (.aload_n 0, 1) := by decide +kernel
theorem dX12_moves_8 : decode cX12_moves 8 = .ok (.getfield 100, 3) := by decide +kernel
theorem dX12_moves_11 : decode cX12_moves 11 = .ok (.aload_n 0, 1) := by decide +kernel
theorem dX12_moves_12 : decode cX12_moves 12 = .ok (.getfield 375, 3) := by decide +kernel
theorem dX12_moves_15 : decode cX12_moves 15 = .ok (.iaload, 1) := by decide +kernel
theorem dX12_moves_16 : decode cX12_moves 16 = .ok (.goto 4, 3) := by decide +kernel
theorem dX12_moves_19 : decode cX12_moves 19 = .ok (.iload_n 1, 1) := by decide +kernel
theorem dX12_moves_20 : decode cX12_moves 20 = .ok (.istore_n 2, 1) := by decide +kernel
theorem dX12_moves_21 : decode cX12_moves 21 = .ok (.aload_n 0, 1) := by decide +kernel
theorem dX12_moves_22 : decode cX12_moves 22 = .ok (.getfield 100, 3) := by decide +kernel
theorem dX12_moves_25 : decode cX12_moves 25 = .ok (.aload_n 0, 1) := by decide +kernel
theorem dX12_moves_26 : decode cX12_moves 26 = .ok (.getfield 375, 3) := by decide +kernel
theorem dX12_moves_29 : decode cX12_moves 29 = .ok (.iload_n 2, 1) := by decide +kernel
theorem dX12_moves_30 : decode cX12_moves 30 = .ok (.iastore, 1) := by decide +kernel
theorem dX12_moves_31 : decode cX12_moves 31 = .ok (.aload_n 0, 1) := by decide +kernel
theorem dX12_moves_32 : decode cX12_moves 32 = .ok (.dup, 1) := by decide +kernel
theorem dX12_moves_33 : decode cX12_moves 33 = .ok (.getfield 375, 3) := by decide +kernel
theorem dX12_moves_36 : decode cX12_moves 36 = .ok (.iconst 1, 1) := by decide +kernel
theorem dX12_moves_37 : decode cX12_moves 37 = .ok (.iadd, 1) := by decide +kernel
theorem dX12_moves_38 : decode cX12_moves 38 = .ok (.putfield 375, 3) := by decide +kernel
theorem dX12_moves_41 : decode cX12_moves 41 = .ok (.iload_n 2, 1) := by decide +kernel
theorem dX12_moves_42 : decode cX12_moves 42 = .ok (.ireturn, 1) := by decide +kernel
theorem dX12_movesRow_0 : decode cX12_movesRow 0 = .ok (.iconst 0, 1) := by decide +kernel
theorem dX12_movesRow_1 : decode cX12_movesRow 1 = .ok (.istore_n 2, 1) := by decide +kernel
theorem dX12_movesRow_2 : decode cX12_movesRow 2 = .ok (.iload_n 2, 1) := by decide +kernel
theorem dX12_movesRow_3 : decode cX12_movesRow 3 = .ok (.aload_n 1, 1) := by decide +kernel
theorem dX12_movesRow_4 : decode cX12_movesRow 4 = .ok (.arraylength, 1) := by decide +kernel
theorem dX12_movesRow_5 : decode cX12_movesRow 5 = .ok (.if_icmp .ge 19, 3) := by decide +kernel
theorem dX12_movesRow_8 : decode cX12_movesRow 8 = .ok (.aload_n 1, 1) := by decide +kernel
theorem dX12_movesRow_9 : decode cX12_movesRow 9 = .ok (.iload_n 2, 1) := by decide +kernel
theorem dX12_movesRow_10 : decode cX12_movesRow 10 = .ok (.aload_n 0, 1) := by decide +kernel
theorem dX12_movesRow_11 : decode cX12_movesRow 11 = .ok (.aload_n 1, 1) := by decide +kernel
theorem dX12_movesRow_12 : decode cX12_movesRow 12 = .ok (.iload_n 2, 1) := by decide +kernel
theorem dX12_movesRow_13 : decode cX12_movesRow 13 = .ok (.iaload, 1) := by decide +kernel
theorem dX12_movesRow_14 : decode cX12_movesRow 14 = .ok (.invokevirtual 378, 3) := by decide +kernel
theorem dX12_movesRow_17 : decode cX12_movesRow 17 = .ok (.iastore, 1) := by decide +kernel
theorem dX12_movesRow_18 : decode cX12_movesRow 18 = .ok (.iinc 2 1, 3) := by decide +kernel
theorem dX12_movesRow_21 : decode cX12_movesRow 21 = .ok (.goto (-19), 3) := by decide +kernel
theorem dX12_movesRow_24 : decode cX12_movesRow 24 = .ok (.return_, 1) := by decide +kernel
theorem dX12_movesAll_0 : decode cX12_movesAll 0 = .ok (.aload_n 0, 1) := by decide +kernel
theorem dX12_movesAll_1 : decode cX12_movesAll 1 = .ok (.bipush 15, 2) := by decide +kernel
theorem dX12_movesAll_3 : decode cX12_movesAll 3 = .ok (.iload_n 1, 1) := by decide +kernel
theorem dX12_movesAll_4 : decode cX12_movesAll 4 = .ok (.imul, 1) := by decide +kernel
theorem dX12_movesAll_5 : decode cX12_movesAll 5 = .ok (.putfield 375, 3) := by decide +kernel
theorem dX12_movesAll_8 : decode cX12_movesAll 8 = .ok (.aload_n 0, 1) := by decide +kernel
theorem dX12_movesAll_9 : decode cX12_movesAll 9 = .ok (.iload_n 2, 1) := by decide +kernel
theorem dX12_movesAll_10 : decode cX12_movesAll 10 = .ok (.putfield 371, 3) := by decide +kernel
theorem dX12_movesAll_13 : decode cX12_movesAll 13 = .ok (.aload_n 0, 1) := by decide +kernel
theorem dX12_movesAll_14 : decode cX12_movesAll 14 = .ok (.getfield 9, 3) := by decide +kernel
theorem dX12_movesAll_17 : decode cX12_movesAll 17 = .ok (.iconst 5, 1) := by decide +kernel
theorem dX12_movesAll_18 : decode cX12_movesAll 18 = .ok (.aload_n 0, 1) := by decide +kernel
theorem dX12_movesAll_19 : decode cX12_movesAll 19 = .ok (.aload_n 0, 1) := by decide +kernel
theorem dX12_movesAll_20 : decode cX12_movesAll 20 = .ok (.getfield 9, 3) := by decide +kernel
theorem dX12_movesAll_23 : decode cX12_movesAll 23 = .ok (.iconst 5, 1) := by decide +kernel
theorem dX12_movesAll_24 : decode cX12_movesAll 24 = .ok (.iaload, 1) := by decide +kernel
theorem dX12_movesAll_25 : decode cX12_movesAll 25 = .ok (.invokevirtual 378, 3) := by decide +kernel
theorem dX12_movesAll_28 : decode cX12_movesAll 28 = .ok (.iastore, 1) := by decide +kernel
theorem dX12_movesAll_29 : decode cX12_movesAll 29 = .ok (.aload_n 0, 1) := by decide +kernel
theorem dX12_movesAll_30 : decode cX12_movesAll 30 = .ok (.aload_n 0, 1) := by decide +kernel
theorem dX12_movesAll_31 : decode cX12_movesAll 31 = .ok (.getfield 13, 3) := by decide +kernel
theorem dX12_movesAll_34 : decode cX12_movesAll 34 = .ok (.invokevirtual 381, 3) := by decide +kernel
theorem dX12_movesAll_37 : decode cX12_movesAll 37 = .ok (.aload_n 0, 1) := by decide +kernel
theorem dX12_movesAll_38 : decode cX12_movesAll 38 = .ok (.aload_n 0, 1) := by decide +kernel
theorem dX12_movesAll_39 : decode cX12_movesAll 39 = .ok (.getfield 16, 3) := by decide +kernel
theorem dX12_movesAll_42 : decode cX12_movesAll 42 = .ok (.invokevirtual 381, 3) := by decide +kernel
theorem dX12_movesAll_45 : decode cX12_movesAll 45 = .ok (.aload_n 0, 1) := by decide +kernel
theorem dX12_movesAll_46 : decode cX12_movesAll 46 = .ok (.aload_n 0, 1) := by decide +kernel
theorem dX12_movesAll_47 : decode cX12_movesAll 47 = .ok (.getfield 19, 3) := by decide +kernel
theorem dX12_movesAll_50 : decode cX12_movesAll 50 = .ok (.invokevirtual 381, 3) := by decide +kernel
theorem dX12_movesAll_53 : decode cX12_movesAll 53 = .ok (.return_, 1) := by decide +kernel
theorem dX12_keepsAct_0 : decode cX12_keepsAct 0 = .ok (.aload_n 0, 1) := by decide +kernel
theorem dX12_keepsAct_1 : decode cX12_keepsAct 1 = .ok (.getfield 299, 3) := by decide +kernel
theorem dX12_keepsAct_4 : decode cX12_keepsAct 4 = .ok (.bipush 20, 2) := by decide +kernel
theorem dX12_keepsAct_6 : decode cX12_keepsAct 6 = .ok (.if_icmp .ne 44, 3) := by decide +kernel
theorem dX12_keepsAct_9 : decode cX12_keepsAct 9 = .ok (.bipush 15, 2) := by decide +kernel
theorem dX12_keepsAct_11 : decode cX12_keepsAct 11 = .ok (.istore_n 1, 1) := by decide +kernel
theorem dX12_keepsAct_12 : decode cX12_keepsAct 12 = .ok (.iload_n 1, 1) := by decide +kernel
theorem dX12_keepsAct_13 : decode cX12_keepsAct 13 = .ok (.sipush 300, 3) := by decide +kernel
theorem dX12_keepsAct_16 : decode cX12_keepsAct 16 = .ok (.if_icmp .ge 24, 3) := by decide +kernel
theorem dX12_keepsAct_19 : decode cX12_keepsAct 19 = .ok (.aload_n 0, 1) := by decide +kernel
theorem dX12_keepsAct_20 : decode cX12_keepsAct 20 = .ok (.getfield 100, 3) := by decide +kernel
theorem dX12_keepsAct_23 : decode cX12_keepsAct 23 = .ok (.iload_n 1, 1) := by decide +kernel
theorem dX12_keepsAct_24 : decode cX12_keepsAct 24 = .ok (.bipush 15, 2) := by decide +kernel
theorem dX12_keepsAct_26 : decode cX12_keepsAct 26 = .ok (.isub, 1) := by decide +kernel
theorem dX12_keepsAct_27 : decode cX12_keepsAct 27 = .ok (.aload_n 0, 1) := by decide +kernel
theorem dX12_keepsAct_28 : decode cX12_keepsAct 28 = .ok (.getfield 100, 3) := by decide +kernel
theorem dX12_keepsAct_31 : decode cX12_keepsAct 31 = .ok (.iload_n 1, 1) := by decide +kernel
theorem dX12_keepsAct_32 : decode cX12_keepsAct 32 = .ok (.iaload, 1) := by decide +kernel
theorem dX12_keepsAct_33 : decode cX12_keepsAct 33 = .ok (.iastore, 1) := by decide +kernel
theorem dX12_keepsAct_34 : decode cX12_keepsAct 34 = .ok (.iinc 1 1, 3) := by decide +kernel
theorem dX12_keepsAct_37 : decode cX12_keepsAct 37 = .ok (.goto (-25), 3) := by decide +kernel
theorem dX12_keepsAct_40 : decode cX12_keepsAct 40 = .ok (.aload_n 0, 1) := by decide +kernel
theorem dX12_keepsAct_41 : decode cX12_keepsAct 41 = .ok (.dup, 1) := by decide +kernel
theorem dX12_keepsAct_42 : decode cX12_keepsAct 42 = .ok (.getfield 299, 3) := by decide +kernel
theorem dX12_keepsAct_45 : decode cX12_keepsAct 45 = .ok (.iconst 1, 1) := by decide +kernel
theorem dX12_keepsAct_46 : decode cX12_keepsAct 46 = .ok (.isub, 1) := by decide +kernel
theorem dX12_keepsAct_47 : decode cX12_keepsAct 47 = .ok (.putfield 299, 3) := by decide +kernel
theorem dX12_keepsAct_50 : decode cX12_keepsAct 50 = .ok (.aload_n 0, 1) := by decide +kernel
theorem dX12_keepsAct_51 : decode cX12_keepsAct 51 = .ok (.aload_n 0, 1) := by decide +kernel
theorem dX12_keepsAct_52 : decode cX12_keepsAct 52 = .ok (.getfield 299, 3) := by decide +kernel
theorem dX12_keepsAct_55 : decode cX12_keepsAct 55 = .ok (.iconst 0, 1) := by decide +kernel
theorem dX12_keepsAct_56 : decode cX12_keepsAct 56 = .ok (.invokevirtual 385, 3) := by decide +kernel
theorem dX12_keepsAct_59 : decode cX12_keepsAct 59 = .ok (.aload_n 0, 1) := by decide +kernel
theorem dX12_keepsAct_60 : decode cX12_keepsAct 60 = .ok (.dup, 1) := by decide +kernel
theorem dX12_keepsAct_61 : decode cX12_keepsAct 61 = .ok (.getfield 299, 3) := by decide +kernel
theorem dX12_keepsAct_64 : decode cX12_keepsAct 64 = .ok (.iconst 1, 1) := by decide +kernel
theorem dX12_keepsAct_65 : decode cX12_keepsAct 65 = .ok (.iadd, 1) := by decide +kernel
theorem dX12_keepsAct_66 : decode cX12_keepsAct 66 = .ok (.putfield 299, 3) := by decide +kernel
theorem dX12_keepsAct_69 : decode cX12_keepsAct 69 = .ok (.return_, 1) := by decide +kernel
theorem dX12_undo_0 : decode cX12_undo 0 = .ok (.aload_n 0, 1) := by decide +kernel
theorem dX12_undo_1 : decode cX12_undo 1 = .ok (.getfield 299, 3) := by decide +kernel
theorem dX12_undo_4 : decode cX12_undo 4 = .ok (.ifCond .ne 6, 3) := by decide +kernel
theorem dX12_undo_7 : decode cX12_undo 7 = .ok (.bipush (-2), 2) := by decide +kernel
theorem dX12_undo_9 : decode cX12_undo 9 = .ok (.ireturn, 1) := by decide +kernel
theorem dX12_undo_10 : decode cX12_undo 10 = .ok (.aload_n 0, 1) := by decide +kernel
theorem dX12_undo_11 : decode cX12_undo 11 = .ok (.dup, 1) := by decide +kernel
theorem dX12_undo_12 : decode cX12_undo 12 = .ok (.getfield 299, 3) := by decide +kernel
theorem dX12_undo_15 : decode cX12_undo 15 = .ok (.iconst 1, 1) := by decide +kernel
theorem dX12_undo_16 : decode cX12_undo 16 = .ok (.isub, 1) := by decide +kernel
theorem dX12_undo_17 : decode cX12_undo 17 = .ok (.putfield 299, 3) := by decide +kernel
theorem dX12_undo_20 : decode cX12_undo 20 = .ok (.aload_n 0, 1) := by decide +kernel
theorem dX12_undo_21 : decode cX12_undo 21 = .ok (.aload_n 0, 1) := by decide +kernel
theorem dX12_undo_22 : decode cX12_undo 22 = .ok (.getfield 299, 3) := by decide +kernel
theorem dX12_undo_25 : decode cX12_undo 25 = .ok (.iconst 1, 1) := by decide +kernel
theorem dX12_undo_26 : decode cX12_undo 26 = .ok (.invokevirtual 385, 3) := by decide +kernel
theorem dX12_undo_29 : decode cX12_undo 29 = .ok (.aload_n 0, 1) := by decide +kernel
theorem dX12_undo_30 : decode cX12_undo 30 = .ok (.getfield 299, 3) := by decide +kernel
theorem dX12_undo_33 : decode cX12_undo 33 = .ok (.ireturn, 1) := by decide +kernel
theorem dX12_day_0 : decode cX12_day 0 = .ok (.aload_n 0, 1) := by decide +kernel
theorem dX12_day_1 : decode cX12_day 1 = .ok (.invokevirtual 389, 3) := by decide +kernel
theorem dX12_day_4 : decode cX12_day 4 = .ok (.ifCond .eq 15, 3) := by decide +kernel
theorem dX12_day_7 : decode cX12_day 7 = .ok (.aload_n 0, 1) := by decide +kernel
theorem dX12_day_8 : decode cX12_day 8 = .ok (.getfield 9, 3) := by decide +kernel
theorem dX12_day_11 : decode cX12_day 11 = .ok (.iconst 5, 1) := by decide +kernel
theorem dX12_day_12 : decode cX12_day 12 = .ok (.iaload, 1) := by decide +kernel
theorem dX12_day_13 : decode cX12_day 13 = .ok (.sipush 999, 3) := by decide +kernel
theorem dX12_day_16 : decode cX12_day 16 = .ok (.if_icmp .ne 5, 3) := by decide +kernel
theorem dX12_day_19 : decode cX12_day 19 = .ok (.iconst (-1), 1) := by decide +kernel
theorem dX12_day_20 : decode cX12_day 20 = .ok (.ireturn, 1) := by decide +kernel
theorem dX12_day_21 : decode cX12_day 21 = .ok (.aload_n 0, 1) := by decide +kernel
theorem dX12_day_22 : decode cX12_day 22 = .ok (.invokevirtual 392, 3) := by decide +kernel
theorem dX12_day_25 : decode cX12_day 25 = .ok (.aload_n 0, 1) := by decide +kernel
theorem dX12_day_26 : decode cX12_day 26 = .ok (.invokevirtual 368, 3) := by decide +kernel
theorem dX12_day_29 : decode cX12_day 29 = .ok (.ireturn, 1) := by decide +kernel
theorem dX12_isAtPlace_0 : decode cX12_isAtPlace 0 = .ok (.aload_n 0, 1) := by decide +kernel
theorem dX12_isAtPlace_1 : decode cX12_isAtPlace 1 = .ok (.iload_n 1, 1) := by decide +kernel
theorem dX12_isAtPlace_2 : decode cX12_isAtPlace 2 = .ok (.invokevirtual 334, 3) := by decide +kernel
theorem dX12_isAtPlace_5 : decode cX12_isAtPlace 5 = .ok (.ifCond .eq 16, 3) := by decide +kernel
theorem dX12_isAtPlace_8 : decode cX12_isAtPlace 8 = .ok (.aload_n 0, 1) := by decide +kernel
theorem dX12_isAtPlace_9 : decode cX12_isAtPlace 9 = .ok (.getfield 16, 3) := by decide +kernel
theorem dX12_isAtPlace_12 : decode cX12_isAtPlace 12 = .ok (.iload_n 1, 1) := by decide +kernel
theorem dX12_isAtPlace_13 : decode cX12_isAtPlace 13 = .ok (.iaload, 1) := by decide +kernel
theorem dX12_isAtPlace_14 : decode cX12_isAtPlace 14 = .ok (.ifCond .ne 7, 3) := by decide +kernel
theorem dX12_isAtPlace_17 : decode cX12_isAtPlace 17 = .ok (.iconst 1, 1) := by decide +kernel
theorem dX12_isAtPlace_18 : decode cX12_isAtPlace 18 = .ok (.goto 4, 3) := by decide +kernel
theorem dX12_isAtPlace_21 : decode cX12_isAtPlace 21 = .ok (.iconst 0, 1) := by decide +kernel
theorem dX12_isAtPlace_22 : decode cX12_isAtPlace 22 = .ok (.ireturn, 1) := by decide +kernel
theorem dX12_areTogether_0 : decode cX12_areTogether 0 = .ok (.aload_n 0, 1) := by decide +kernel
theorem dX12_areTogether_1 : decode cX12_areTogether 1 = .ok (.iload_n 1, 1) := by decide +kernel
theorem dX12_areTogether_2 : decode cX12_areTogether 2 = .ok (.invokevirtual 395, 3) := by decide +kernel
theorem dX12_areTogether_5 : decode cX12_areTogether 5 = .ok (.ifCond .eq 35, 3) := by decide +kernel
theorem dX12_areTogether_8 : decode cX12_areTogether 8 = .ok (.aload_n 0, 1) := by decide +kernel
theorem dX12_areTogether_9 : decode cX12_areTogether 9 = .ok (.iload_n 2, 1) := by decide +kernel
theorem dX12_areTogether_10 : decode cX12_areTogether 10 = .ok (.invokevirtual 395, 3) := by decide +kernel
theorem dX12_areTogether_13 : decode cX12_areTogether 13 = .ok (.ifCond .eq 27, 3) := by decide +kernel
theorem dX12_areTogether_16 : decode cX12_areTogether 16 = .ok (.iload_n 1, 1) := by decide +kernel
theorem dX12_areTogether_17 : decode cX12_areTogether 17 = .ok (.iload_n 2, 1) := by decide +kernel
theorem dX12_areTogether_18 : decode cX12_areTogether 18 = .ok (.if_icmp .eq 22, 3) := by decide +kernel
theorem dX12_areTogether_21 : decode cX12_areTogether 21 = .ok (.aload_n 0, 1) := by decide +kernel
theorem dX12_areTogether_22 : decode cX12_areTogether 22 = .ok (.getfield 13, 3) := by decide +kernel
theorem dX12_areTogether_25 : decode cX12_areTogether 25 = .ok (.iload_n 1, 1) := by decide +kernel
theorem dX12_areTogether_26 : decode cX12_areTogether 26 = .ok (.iaload, 1) := by decide +kernel
theorem dX12_areTogether_27 : decode cX12_areTogether 27 = .ok (.aload_n 0, 1) := by decide +kernel
theorem dX12_areTogether_28 : decode cX12_areTogether 28 = .ok (.getfield 13, 3) := by decide +kernel
theorem dX12_areTogether_31 : decode cX12_areTogether 31 = .ok (.iload_n 2, 1) := by decide +kernel
theorem dX12_areTogether_32 : decode cX12_areTogether 32 = .ok (.iaload, 1) := by decide +kernel
theorem dX12_areTogether_33 : decode cX12_areTogether 33 = .ok (.if_icmp .ne 7, 3) := by decide +kernel
theorem dX12_areTogether_36 : decode cX12_areTogether 36 = .ok (.iconst 1, 1) := by decide +kernel
theorem dX12_areTogether_37 : decode cX12_areTogether 37 = .ok (.goto 4, 3) := by decide +kernel
theorem dX12_areTogether_40 : decode cX12_areTogether 40 = .ok (.iconst 0, 1) := by decide +kernel
theorem dX12_areTogether_41 : decode cX12_areTogether 41 = .ok (.ireturn, 1) := by decide +kernel
theorem dX12_mayHaveMore_0 : decode cX12_mayHaveMore 0 = .ok (.aload_n 0, 1) := by decide +kernel
theorem dX12_mayHaveMore_1 : decode cX12_mayHaveMore 1 = .ok (.iload_n 1, 1) := by decide +kernel
theorem dX12_mayHaveMore_2 : decode cX12_mayHaveMore 2 = .ok (.invokevirtual 338, 3) := by decide +kernel
theorem dX12_mayHaveMore_5 : decode cX12_mayHaveMore 5 = .ok (.invokestatic 355, 3) := by decide +kernel
theorem dX12_mayHaveMore_8 : decode cX12_mayHaveMore 8 = .ok (.aload_n 0, 1) := by decide +kernel
theorem dX12_mayHaveMore_9 : decode cX12_mayHaveMore 9 = .ok (.getfield 9, 3) := by decide +kernel
theorem dX12_mayHaveMore_12 : decode cX12_mayHaveMore 12 = .ok (.iconst 1, 1) := by decide +kernel
theorem dX12_mayHaveMore_13 : decode cX12_mayHaveMore 13 = .ok (.iaload, 1) := by decide +kernel
theorem dX12_mayHaveMore_14 : decode cX12_mayHaveMore 14 = .ok (.if_icmp .ge 7, 3) := by decide +kernel
theorem dX12_mayHaveMore_17 : decode cX12_mayHaveMore 17 = .ok (.iconst 1, 1) := by decide +kernel
theorem dX12_mayHaveMore_18 : decode cX12_mayHaveMore 18 = .ok (.goto 4, 3) := by decide +kernel
theorem dX12_mayHaveMore_21 : decode cX12_mayHaveMore 21 = .ok (.iconst 0, 1) := by decide +kernel
theorem dX12_mayHaveMore_22 : decode cX12_mayHaveMore 22 = .ok (.ireturn, 1) := by decide +kernel
theorem dX12_drop_0 : decode cX12_drop 0 = .ok (.aload_n 0, 1) := by decide +kernel
theorem dX12_drop_1 : decode cX12_drop 1 = .ok (.iload_n 1, 1) := by decide +kernel
theorem dX12_drop_2 : decode cX12_drop 2 = .ok (.invokevirtual 395, 3) := by decide +kernel
theorem dX12_drop_5 : decode cX12_drop 5 = .ok (.ifCond .eq 21, 3) := by decide +kernel
theorem dX12_drop_8 : decode cX12_drop 8 = .ok (.aload_n 0, 1) := by decide +kernel
theorem dX12_drop_9 : decode cX12_drop 9 = .ok (.iload_n 2, 1) := by decide +kernel
theorem dX12_drop_10 : decode cX12_drop 10 = .ok (.invokevirtual 347, 3) := by decide +kernel
theorem dX12_drop_13 : decode cX12_drop 13 = .ok (.ifCond .eq 13, 3) := by decide +kernel
theorem dX12_drop_16 : decode cX12_drop 16 = .ok (.aload_n 0, 1) := by decide +kernel
theorem dX12_drop_17 : decode cX12_drop 17 = .ok (.getfield 19, 3) := by decide +kernel
theorem dX12_drop_20 : decode cX12_drop 20 = .ok (.iload_n 2, 1) := by decide +kernel
theorem dX12_drop_21 : decode cX12_drop 21 = .ok (.iaload, 1) := by decide +kernel
theorem dX12_drop_22 : decode cX12_drop 22 = .ok (.iload_n 1, 1) := by decide +kernel
theorem dX12_drop_23 : decode cX12_drop 23 = .ok (.if_icmp .eq 5, 3) := by decide +kernel
theorem dX12_drop_26 : decode cX12_drop 26 = .ok (.iconst (-1), 1) := by decide +kernel
theorem dX12_drop_27 : decode cX12_drop 27 = .ok (.ireturn, 1) := by decide +kernel
theorem dX12_drop_28 : decode cX12_drop 28 = .ok (.aload_n 0, 1) := by decide +kernel
theorem dX12_drop_29 : decode cX12_drop 29 = .ok (.invokevirtual 392, 3) := by decide +kernel
theorem dX12_drop_32 : decode cX12_drop 32 = .ok (.aload_n 0, 1) := by decide +kernel
theorem dX12_drop_33 : decode cX12_drop 33 = .ok (.getfield 19, 3) := by decide +kernel
theorem dX12_drop_36 : decode cX12_drop 36 = .ok (.iload_n 2, 1) := by decide +kernel
theorem dX12_drop_37 : decode cX12_drop 37 = .ok (.bipush 10, 2) := by decide +kernel
theorem dX12_drop_39 : decode cX12_drop 39 = .ok (.aload_n 0, 1) := by decide +kernel
theorem dX12_drop_40 : decode cX12_drop 40 = .ok (.getfield 13, 3) := by decide +kernel
theorem dX12_drop_43 : decode cX12_drop 43 = .ok (.iload_n 1, 1) := by decide +kernel
theorem dX12_drop_44 : decode cX12_drop 44 = .ok (.iaload, 1) := by decide +kernel
theorem dX12_drop_45 : decode cX12_drop 45 = .ok (.iadd, 1) := by decide +kernel
theorem dX12_drop_46 : decode cX12_drop 46 = .ok (.iastore, 1) := by decide +kernel
theorem dX12_drop_47 : decode cX12_drop 47 = .ok (.aload_n 0, 1) := by decide +kernel
theorem dX12_drop_48 : decode cX12_drop 48 = .ok (.iload_n 1, 1) := by decide +kernel
theorem dX12_drop_49 : decode cX12_drop 49 = .ok (.invokevirtual 338, 3) := by decide +kernel
theorem dX12_drop_52 : decode cX12_drop 52 = .ok (.invokestatic 355, 3) := by decide +kernel
theorem dX12_drop_55 : decode cX12_drop 55 = .ok (.ireturn, 1) := by decide +kernel
theorem dX12_take_0 : decode cX12_take 0 = .ok (.aload_n 0, 1) := by decide +kernel
theorem dX12_take_1 : decode cX12_take 1 = .ok (.iload_n 1, 1) := by decide +kernel
theorem dX12_take_2 : decode cX12_take 2 = .ok (.invokevirtual 395, 3) := by decide +kernel
theorem dX12_take_5 : decode cX12_take 5 = .ok (.ifCond .eq 37, 3) := by decide +kernel
theorem dX12_take_8 : decode cX12_take 8 = .ok (.aload_n 0, 1) := by decide +kernel
theorem dX12_take_9 : decode cX12_take 9 = .ok (.iload_n 2, 1) := by decide +kernel
theorem dX12_take_10 : decode cX12_take 10 = .ok (.invokevirtual 347, 3) := by decide +kernel
theorem dX12_take_13 : decode cX12_take 13 = .ok (.ifCond .eq 29, 3) := by decide +kernel
theorem dX12_take_16 : decode cX12_take 16 = .ok (.aload_n 0, 1) := by decide +kernel
theorem dX12_take_17 : decode cX12_take 17 = .ok (.getfield 19, 3) := by decide +kernel
theorem dX12_take_20 : decode cX12_take 20 = .ok (.iload_n 2, 1) := by decide +kernel
theorem dX12_take_21 : decode cX12_take 21 = .ok (.iaload, 1) := by decide +kernel
theorem dX12_take_22 : decode cX12_take 22 = .ok (.bipush 10, 2) := by decide +kernel
theorem dX12_take_24 : decode cX12_take 24 = .ok (.aload_n 0, 1) := by decide +kernel
theorem dX12_take_25 : decode cX12_take 25 = .ok (.getfield 13, 3) := by decide +kernel
theorem dX12_take_28 : decode cX12_take 28 = .ok (.iload_n 1, 1) := by decide +kernel
theorem dX12_take_29 : decode cX12_take 29 = .ok (.iaload, 1) := by decide +kernel
theorem dX12_take_30 : decode cX12_take 30 = .ok (.iadd, 1) := by decide +kernel
theorem dX12_take_31 : decode cX12_take 31 = .ok (.if_icmp .ne 11, 3) := by decide +kernel
theorem dX12_take_34 : decode cX12_take 34 = .ok (.aload_n 0, 1) := by decide +kernel
theorem dX12_take_35 : decode cX12_take 35 = .ok (.iload_n 1, 1) := by decide +kernel
theorem dX12_take_36 : decode cX12_take 36 = .ok (.invokevirtual 398, 3) := by decide +kernel
theorem dX12_take_39 : decode cX12_take 39 = .ok (.ifCond .ne 5, 3) := by decide +kernel
theorem dX12_take_42 : decode cX12_take 42 = .ok (.iconst (-1), 1) := by decide +kernel
theorem dX12_take_43 : decode cX12_take 43 = .ok (.ireturn, 1) := by decide +kernel
theorem dX12_take_44 : decode cX12_take 44 = .ok (.aload_n 0, 1) := by decide +kernel
theorem dX12_take_45 : decode cX12_take 45 = .ok (.invokevirtual 392, 3) := by decide +kernel
theorem dX12_take_48 : decode cX12_take 48 = .ok (.aload_n 0, 1) := by decide +kernel
theorem dX12_take_49 : decode cX12_take 49 = .ok (.getfield 19, 3) := by decide +kernel
theorem dX12_take_52 : decode cX12_take 52 = .ok (.iload_n 2, 1) := by decide +kernel
theorem dX12_take_53 : decode cX12_take 53 = .ok (.iload_n 1, 1) := by decide +kernel
theorem dX12_take_54 : decode cX12_take 54 = .ok (.iastore, 1) := by decide +kernel
theorem dX12_take_55 : decode cX12_take 55 = .ok (.aload_n 0, 1) := by decide +kernel
theorem dX12_take_56 : decode cX12_take 56 = .ok (.iload_n 1, 1) := by decide +kernel
theorem dX12_take_57 : decode cX12_take 57 = .ok (.invokevirtual 338, 3) := by decide +kernel
theorem dX12_take_60 : decode cX12_take 60 = .ok (.invokestatic 355, 3) := by decide +kernel
theorem dX12_take_63 : decode cX12_take 63 = .ok (.ireturn, 1) := by decide +kernel
theorem dX12_give_0 : decode cX12_give 0 = .ok (.aload_n 0, 1) := by decide +kernel
theorem dX12_give_1 : decode cX12_give 1 = .ok (.iload_n 1, 1) := by decide +kernel
theorem dX12_give_2 : decode cX12_give 2 = .ok (.iload_n 2, 1) := by decide +kernel
theorem dX12_give_3 : decode cX12_give 3 = .ok (.invokevirtual 401, 3) := by decide +kernel
theorem dX12_give_6 : decode cX12_give 6 = .ok (.ifCond .eq 29, 3) := by decide +kernel
theorem dX12_give_9 : decode cX12_give 9 = .ok (.aload_n 0, 1) := by decide +kernel
theorem dX12_give_10 : decode cX12_give 10 = .ok (.iload_n 3, 1) := by decide +kernel
theorem dX12_give_11 : decode cX12_give 11 = .ok (.invokevirtual 347, 3) := by decide +kernel
theorem dX12_give_14 : decode cX12_give 14 = .ok (.ifCond .eq 21, 3) := by decide +kernel
theorem dX12_give_17 : decode cX12_give 17 = .ok (.aload_n 0, 1) := by decide +kernel
theorem dX12_give_18 : decode cX12_give 18 = .ok (.getfield 19, 3) := by decide +kernel
theorem dX12_give_21 : decode cX12_give 21 = .ok (.iload_n 3, 1) := by decide +kernel
theorem dX12_give_22 : decode cX12_give 22 = .ok (.iaload, 1) := by decide +kernel
theorem dX12_give_23 : decode cX12_give 23 = .ok (.iload_n 1, 1) := by decide +kernel
theorem dX12_give_24 : decode cX12_give 24 = .ok (.if_icmp .ne 11, 3) := by decide +kernel
theorem dX12_give_27 : decode cX12_give 27 = .ok (.aload_n 0, 1) := by decide +kernel
theorem dX12_give_28 : decode cX12_give 28 = .ok (.iload_n 2, 1) := by decide +kernel
theorem dX12_give_29 : decode cX12_give 29 = .ok (.invokevirtual 398, 3) := by decide +kernel
theorem dX12_give_32 : decode cX12_give 32 = .ok (.ifCond .ne 5, 3) := by decide +kernel
theorem dX12_give_35 : decode cX12_give 35 = .ok (.iconst (-1), 1) := by decide +kernel
theorem dX12_give_36 : decode cX12_give 36 = .ok (.ireturn, 1) := by decide +kernel
theorem dX12_give_37 : decode cX12_give 37 = .ok (.aload_n 0, 1) := by decide +kernel
theorem dX12_give_38 : decode cX12_give 38 = .ok (.invokevirtual 392, 3) := by decide +kernel
theorem dX12_give_41 : decode cX12_give 41 = .ok (.aload_n 0, 1) := by decide +kernel
theorem dX12_give_42 : decode cX12_give 42 = .ok (.getfield 19, 3) := by decide +kernel
theorem dX12_give_45 : decode cX12_give 45 = .ok (.iload_n 3, 1) := by decide +kernel
theorem dX12_give_46 : decode cX12_give 46 = .ok (.iload_n 2, 1) := by decide +kernel
theorem dX12_give_47 : decode cX12_give 47 = .ok (.iastore, 1) := by decide +kernel
theorem dX12_give_48 : decode cX12_give 48 = .ok (.aload_n 0, 1) := by decide +kernel
theorem dX12_give_49 : decode cX12_give 49 = .ok (.iload_n 2, 1) := by decide +kernel
theorem dX12_give_50 : decode cX12_give 50 = .ok (.invokevirtual 338, 3) := by decide +kernel
theorem dX12_give_53 : decode cX12_give 53 = .ok (.invokestatic 355, 3) := by decide +kernel
theorem dX12_give_56 : decode cX12_give 56 = .ok (.ireturn, 1) := by decide +kernel
theorem dX12_rob_0 : decode cX12_rob 0 = .ok (.aload_n 0, 1) := by decide +kernel
theorem dX12_rob_1 : decode cX12_rob 1 = .ok (.iload_n 1, 1) := by decide +kernel
theorem dX12_rob_2 : decode cX12_rob 2 = .ok (.invokevirtual 347, 3) := by decide +kernel
theorem dX12_rob_5 : decode cX12_rob 5 = .ok (.ifCond .eq 13, 3) := by decide +kernel
theorem dX12_rob_8 : decode cX12_rob 8 = .ok (.aload_n 0, 1) := by decide +kernel
theorem dX12_rob_9 : decode cX12_rob 9 = .ok (.getfield 19, 3) := by decide +kernel
theorem dX12_rob_12 : decode cX12_rob 12 = .ok (.iload_n 1, 1) := by decide +kernel
theorem dX12_rob_13 : decode cX12_rob 13 = .ok (.iaload, 1) := by decide +kernel
theorem dX12_rob_14 : decode cX12_rob 14 = .ok (.iconst (-1), 1) := by decide +kernel
theorem dX12_rob_15 : decode cX12_rob 15 = .ok (.if_icmp .ne 6, 3) := by decide +kernel
theorem dX12_rob_18 : decode cX12_rob 18 = .ok (.bipush (-2), 2) := by decide +kernel
theorem dX12_rob_20 : decode cX12_rob 20 = .ok (.ireturn, 1) := by decide +kernel
theorem dX12_rob_21 : decode cX12_rob 21 = .ok (.aload_n 0, 1) := by decide +kernel
theorem dX12_rob_22 : decode cX12_rob 22 = .ok (.invokevirtual 392, 3) := by decide +kernel
theorem dX12_rob_25 : decode cX12_rob 25 = .ok (.aload_n 0, 1) := by decide +kernel
theorem dX12_rob_26 : decode cX12_rob 26 = .ok (.getfield 19, 3) := by decide +kernel
theorem dX12_rob_29 : decode cX12_rob 29 = .ok (.iload_n 1, 1) := by decide +kernel
theorem dX12_rob_30 : decode cX12_rob 30 = .ok (.iaload, 1) := by decide +kernel
theorem dX12_rob_31 : decode cX12_rob 31 = .ok (.istore_n 2, 1) := by decide +kernel
theorem dX12_rob_32 : decode cX12_rob 32 = .ok (.aload_n 0, 1) := by decide +kernel
theorem dX12_rob_33 : decode cX12_rob 33 = .ok (.getfield 19, 3) := by decide +kernel
theorem dX12_rob_36 : decode cX12_rob 36 = .ok (.iload_n 1, 1) := by decide +kernel
theorem dX12_rob_37 : decode cX12_rob 37 = .ok (.iconst (-1), 1) := by decide +kernel
theorem dX12_rob_38 : decode cX12_rob 38 = .ok (.iastore, 1) := by decide +kernel
theorem dX12_rob_39 : decode cX12_rob 39 = .ok (.iload_n 2, 1) := by decide +kernel
theorem dX12_rob_40 : decode cX12_rob 40 = .ok (.ireturn, 1) := by decide +kernel
theorem dX12_keepsAll_0 : decode cX12_keepsAll 0 = .ok (.aload_n 0, 1) := by decide +kernel
theorem dX12_keepsAll_1 : decode cX12_keepsAll 1 = .ok (.iconst 4, 1) := by decide +kernel
theorem dX12_keepsAll_2 : decode cX12_keepsAll 2 = .ok (.iconst 0, 1) := by decide +kernel
theorem dX12_keepsAll_3 : decode cX12_keepsAll 3 = .ok (.invokevirtual 404, 3) := by decide +kernel
theorem dX12_keepsAll_6 : decode cX12_keepsAll 6 = .ok (.return_, 1) := by decide +kernel
theorem dX12_laysBack_0 : decode cX12_laysBack 0 = .ok (.aload_n 0, 1) := by decide +kernel
theorem dX12_laysBack_1 : decode cX12_laysBack 1 = .ok (.iconst 4, 1) := by decide +kernel
theorem dX12_laysBack_2 : decode cX12_laysBack 2 = .ok (.iconst 1, 1) := by decide +kernel
theorem dX12_laysBack_3 : decode cX12_laysBack 3 = .ok (.invokevirtual 404, 3) := by decide +kernel
theorem dX12_laysBack_6 : decode cX12_laysBack 6 = .ok (.return_, 1) := by decide +kernel
theorem dX12_ahead_0 : decode cX12_ahead 0 = .ok (.iload_n 3, 1) := by decide +kernel
theorem dX12_ahead_1 : decode cX12_ahead 1 = .ok (.i2l, 1) := by decide +kernel
theorem dX12_ahead_2 : decode cX12_ahead 2 = .ok (.lconst 0, 1) := by decide +kernel
theorem dX12_ahead_3 : decode cX12_ahead 3 = .ok (.lconst 1, 1) := by decide +kernel
theorem dX12_ahead_4 : decode cX12_ahead 4 = .ok (.invokestatic 128, 3) := by decide +kernel
theorem dX12_ahead_7 : decode cX12_ahead 7 = .ok (.ifCond .eq 11, 3) := by decide +kernel
theorem dX12_ahead_10 : decode cX12_ahead 10 = .ok (.aload_n 0, 1) := by decide +kernel
theorem dX12_ahead_11 : decode cX12_ahead 11 = .ok (.iload_n 1, 1) := by decide +kernel
theorem dX12_ahead_12 : decode cX12_ahead 12 = .ok (.invokevirtual 334, 3) := by decide +kernel
theorem dX12_ahead_15 : decode cX12_ahead 15 = .ok (.ifCond .ne 16, 3) := by decide +kernel
theorem dX12_ahead_18 : decode cX12_ahead 18 = .ok (.iload_n 3, 1) := by decide +kernel
theorem dX12_ahead_19 : decode cX12_ahead 19 = .ok (.iconst 2, 1) := by decide +kernel
theorem dX12_ahead_20 : decode cX12_ahead 20 = .ok (.if_icmp .ne 15, 3) := by decide +kernel
theorem dX12_ahead_23 : decode cX12_ahead 23 = .ok (.aload_n 0, 1) := by decide +kernel
theorem dX12_ahead_24 : decode cX12_ahead 24 = .ok (.iload_n 1, 1) := by decide +kernel
theorem dX12_ahead_25 : decode cX12_ahead 25 = .ok (.invokevirtual 347, 3) := by decide +kernel
theorem dX12_ahead_28 : decode cX12_ahead 28 = .ok (.ifCond .eq 7, 3) := by decide +kernel
theorem dX12_ahead_31 : decode cX12_ahead 31 = .ok (.iconst 1, 1) := by decide +kernel
theorem dX12_ahead_32 : decode cX12_ahead 32 = .ok (.goto 4, 3) := by decide +kernel
theorem dX12_ahead_35 : decode cX12_ahead 35 = .ok (.iconst 0, 1) := by decide +kernel
theorem dX12_ahead_36 : decode cX12_ahead 36 = .ok (.istore 4, 2) := by decide +kernel
theorem dX12_ahead_38 : decode cX12_ahead 38 = .ok (.iload 4, 2) := by decide +kernel
theorem dX12_ahead_40 : decode cX12_ahead 40 = .ok (.ifCond .eq 15, 3) := by decide +kernel
theorem dX12_ahead_43 : decode cX12_ahead 43 = .ok (.iload_n 2, 1) := by decide +kernel
theorem dX12_ahead_44 : decode cX12_ahead 44 = .ok (.i2l, 1) := by decide +kernel
theorem dX12_ahead_45 : decode cX12_ahead 45 = .ok (.lconst 0, 1) := by decide +kernel
theorem dX12_ahead_46 : decode cX12_ahead 46 = .ok (.ldc2_w 407, 3) := by decide +kernel
theorem dX12_ahead_49 : decode cX12_ahead 49 = .ok (.invokestatic 128, 3) := by decide +kernel
theorem dX12_ahead_52 : decode cX12_ahead 52 = .ok (.ifCond .ne 6, 3) := by decide +kernel
theorem dX12_ahead_55 : decode cX12_ahead 55 = .ok (.bipush (-2), 2) := by decide +kernel
theorem dX12_ahead_57 : decode cX12_ahead 57 = .ok (.ireturn, 1) := by decide +kernel
theorem dX12_ahead_58 : decode cX12_ahead 58 = .ok (.aload_n 0, 1) := by decide +kernel
theorem dX12_ahead_59 : decode cX12_ahead 59 = .ok (.invokevirtual 409, 3) := by decide +kernel
theorem dX12_ahead_62 : decode cX12_ahead 62 = .ok (.aload_n 0, 1) := by decide +kernel
theorem dX12_ahead_63 : decode cX12_ahead 63 = .ok (.iload_n 2, 1) := by decide +kernel
theorem dX12_ahead_64 : decode cX12_ahead 64 = .ok (.invokevirtual 412, 3) := by decide +kernel
theorem dX12_ahead_67 : decode cX12_ahead 67 = .ok (.iload_n 3, 1) := by decide +kernel
theorem dX12_ahead_68 : decode cX12_ahead 68 = .ok (.ifCond .ne 12, 3) := by decide +kernel
theorem dX12_ahead_71 : decode cX12_ahead 71 = .ok (.aload_n 0, 1) := by decide +kernel
theorem dX12_ahead_72 : decode cX12_ahead 72 = .ok (.getfield 13, 3) := by decide +kernel
theorem dX12_ahead_75 : decode cX12_ahead 75 = .ok (.iload_n 1, 1) := by decide +kernel
theorem dX12_ahead_76 : decode cX12_ahead 76 = .ok (.iaload, 1) := by decide +kernel
theorem dX12_ahead_77 : decode cX12_ahead 77 = .ok (.goto 23, 3) := by decide +kernel
theorem dX12_ahead_80 : decode cX12_ahead 80 = .ok (.iload_n 3, 1) := by decide +kernel
theorem dX12_ahead_81 : decode cX12_ahead 81 = .ok (.iconst 1, 1) := by decide +kernel
theorem dX12_ahead_82 : decode cX12_ahead 82 = .ok (.if_icmp .ne 12, 3) := by decide +kernel
theorem dX12_ahead_85 : decode cX12_ahead 85 = .ok (.aload_n 0, 1) := by decide +kernel
theorem dX12_ahead_86 : decode cX12_ahead 86 = .ok (.getfield 16, 3) := by decide +kernel
theorem dX12_ahead_89 : decode cX12_ahead 89 = .ok (.iload_n 1, 1) := by decide +kernel
theorem dX12_ahead_90 : decode cX12_ahead 90 = .ok (.iaload, 1) := by decide +kernel
theorem dX12_ahead_91 : decode cX12_ahead 91 = .ok (.goto 9, 3) := by decide +kernel
theorem dX12_ahead_94 : decode cX12_ahead 94 = .ok (.aload_n 0, 1) := by decide +kernel
theorem dX12_ahead_95 : decode cX12_ahead 95 = .ok (.getfield 19, 3) := by decide +kernel
theorem dX12_ahead_98 : decode cX12_ahead 98 = .ok (.iload_n 1, 1) := by decide +kernel
theorem dX12_ahead_99 : decode cX12_ahead 99 = .ok (.iaload, 1) := by decide +kernel
theorem dX12_ahead_100 : decode cX12_ahead 100 = .ok (.istore 5, 2) := by decide +kernel
theorem dX12_ahead_102 : decode cX12_ahead 102 = .ok (.aload_n 0, 1) := by decide +kernel
theorem dX12_ahead_103 : decode cX12_ahead 103 = .ok (.invokevirtual 415, 3) := by decide +kernel
theorem dX12_ahead_106 : decode cX12_ahead 106 = .ok (.iload 5, 2) := by decide +kernel
theorem dX12_ahead_108 : decode cX12_ahead 108 = .ok (.ireturn, 1) := by decide +kernel
theorem dX12_comes_0 : decode cX12_comes 0 = .ok (.aload_n 0, 1) := by decide +kernel
theorem dX12_comes_1 : decode cX12_comes 1 = .ok (.iload_n 1, 1) := by decide +kernel
theorem dX12_comes_2 : decode cX12_comes 2 = .ok (.invokevirtual 334, 3) := by decide +kernel
theorem dX12_comes_5 : decode cX12_comes 5 = .ok (.ifCond .ne 5, 3) := by decide +kernel
theorem dX12_comes_8 : decode cX12_comes 8 = .ok (.iconst (-1), 1) := by decide +kernel
theorem dX12_comes_9 : decode cX12_comes 9 = .ok (.ireturn, 1) := by decide +kernel
theorem dX12_comes_10 : decode cX12_comes 10 = .ok (.aload_n 0, 1) := by decide +kernel
theorem dX12_comes_11 : decode cX12_comes 11 = .ok (.invokevirtual 409, 3) := by decide +kernel
theorem dX12_comes_14 : decode cX12_comes 14 = .ok (.bipush (-2), 2) := by decide +kernel
theorem dX12_comes_16 : decode cX12_comes 16 = .ok (.istore_n 2, 1) := by decide +kernel
theorem dX12_comes_17 : decode cX12_comes 17 = .ok (.iconst 0, 1) := by decide +kernel
theorem dX12_comes_18 : decode cX12_comes 18 = .ok (.istore_n 3, 1) := by decide +kernel
theorem dX12_comes_19 : decode cX12_comes 19 = .ok (.iload_n 3, 1) := by decide +kernel
theorem dX12_comes_20 : decode cX12_comes 20 = .ok (.sipush 200, 3) := by decide +kernel
theorem dX12_comes_23 : decode cX12_comes 23 = .ok (.if_icmp .ge 45, 3) := by decide +kernel
theorem dX12_comes_26 : decode cX12_comes 26 = .ok (.iload_n 2, 1) := by decide +kernel
theorem dX12_comes_27 : decode cX12_comes 27 = .ok (.bipush (-2), 2) := by decide +kernel
theorem dX12_comes_29 : decode cX12_comes 29 = .ok (.if_icmp .ne 39, 3) := by decide +kernel
theorem dX12_comes_32 : decode cX12_comes 32 = .ok (.aload_n 0, 1) := by decide +kernel
theorem dX12_comes_33 : decode cX12_comes 33 = .ok (.getfield 13, 3) := by decide +kernel
theorem dX12_comes_36 : decode cX12_comes 36 = .ok (.iload_n 1, 1) := by decide +kernel
theorem dX12_comes_37 : decode cX12_comes 37 = .ok (.iaload, 1) := by decide +kernel
theorem dX12_comes_38 : decode cX12_comes 38 = .ok (.aload_n 0, 1) := by decide +kernel
theorem dX12_comes_39 : decode cX12_comes 39 = .ok (.invokevirtual 352, 3) := by decide +kernel
theorem dX12_comes_42 : decode cX12_comes 42 = .ok (.if_icmp .ne 12, 3) := by decide +kernel
theorem dX12_comes_45 : decode cX12_comes 45 = .ok (.aload_n 0, 1) := by decide +kernel
theorem dX12_comes_46 : decode cX12_comes 46 = .ok (.getfield 9, 3) := by decide +kernel
theorem dX12_comes_49 : decode cX12_comes 49 = .ok (.iconst 5, 1) := by decide +kernel
theorem dX12_comes_50 : decode cX12_comes 50 = .ok (.iaload, 1) := by decide +kernel
theorem dX12_comes_51 : decode cX12_comes 51 = .ok (.goto 5, 3) := by decide +kernel
theorem dX12_comes_54 : decode cX12_comes 54 = .ok (.bipush (-2), 2) := by decide +kernel
theorem dX12_comes_56 : decode cX12_comes 56 = .ok (.istore_n 2, 1) := by decide +kernel
theorem dX12_comes_57 : decode cX12_comes 57 = .ok (.aload_n 0, 1) := by decide +kernel
theorem dX12_comes_58 : decode cX12_comes 58 = .ok (.invokevirtual 368, 3) := by decide +kernel
theorem dX12_comes_61 : decode cX12_comes 61 = .ok (.pop, 1) := by decide +kernel
theorem dX12_comes_62 : decode cX12_comes 62 = .ok (.iinc 3 1, 3) := by decide +kernel
theorem dX12_comes_65 : decode cX12_comes 65 = .ok (.goto (-46), 3) := by decide +kernel
theorem dX12_comes_68 : decode cX12_comes 68 = .ok (.aload_n 0, 1) := by decide +kernel
theorem dX12_comes_69 : decode cX12_comes 69 = .ok (.invokevirtual 415, 3) := by decide +kernel
theorem dX12_comes_72 : decode cX12_comes 72 = .ok (.iload_n 2, 1) := by decide +kernel
theorem dX12_comes_73 : decode cX12_comes 73 = .ok (.ireturn, 1) := by decide +kernel
theorem dX12_wealthIn_0 : decode cX12_wealthIn 0 = .ok (.aload_n 0, 1) := by decide +kernel
theorem dX12_wealthIn_1 : decode cX12_wealthIn 1 = .ok (.iload_n 1, 1) := by decide +kernel
theorem dX12_wealthIn_2 : decode cX12_wealthIn 2 = .ok (.invokevirtual 412, 3) := by decide +kernel
theorem dX12_wealthIn_5 : decode cX12_wealthIn 5 = .ok (.aload_n 0, 1) := by decide +kernel
theorem dX12_wealthIn_6 : decode cX12_wealthIn 6 = .ok (.invokevirtual 418, 3) := by decide +kernel
theorem dX12_wealthIn_9 : decode cX12_wealthIn 9 = .ok (.istore_n 2, 1) := by decide +kernel
theorem dX12_wealthIn_10 : decode cX12_wealthIn 10 = .ok (.aload_n 0, 1) := by decide +kernel
theorem dX12_wealthIn_11 : decode cX12_wealthIn 11 = .ok (.invokevirtual 415, 3) := by decide +kernel
theorem dX12_wealthIn_14 : decode cX12_wealthIn 14 = .ok (.iload_n 2, 1) := by decide +kernel
theorem dX12_wealthIn_15 : decode cX12_wealthIn 15 = .ok (.ireturn, 1) := by decide +kernel
theorem dX12_wealth_0 : decode cX12_wealth 0 = .ok (.aload_n 0, 1) := by decide +kernel
theorem dX12_wealth_1 : decode cX12_wealth 1 = .ok (.invokevirtual 389, 3) := by decide +kernel
theorem dX12_wealth_4 : decode cX12_wealth 4 = .ok (.ifCond .eq 15, 3) := by decide +kernel
theorem dX12_wealth_7 : decode cX12_wealth 7 = .ok (.iload_n 1, 1) := by decide +kernel
theorem dX12_wealth_8 : decode cX12_wealth 8 = .ok (.i2l, 1) := by decide +kernel
theorem dX12_wealth_9 : decode cX12_wealth 9 = .ok (.lconst 0, 1) := by decide +kernel
theorem dX12_wealth_10 : decode cX12_wealth 10 = .ok (.ldc2_w 407, 3) := by decide +kernel
theorem dX12_wealth_13 : decode cX12_wealth 13 = .ok (.invokestatic 128, 3) := by decide +kernel
theorem dX12_wealth_16 : decode cX12_wealth 16 = .ok (.ifCond .ne 5, 3) := by decide +kernel
theorem dX12_wealth_19 : decode cX12_wealth 19 = .ok (.iconst (-1), 1) := by decide +kernel
theorem dX12_wealth_20 : decode cX12_wealth 20 = .ok (.ireturn, 1) := by decide +kernel
theorem dX12_wealth_21 : decode cX12_wealth 21 = .ok (.aload_n 0, 1) := by decide +kernel
theorem dX12_wealth_22 : decode cX12_wealth 22 = .ok (.invokevirtual 409, 3) := by decide +kernel
theorem dX12_wealth_25 : decode cX12_wealth 25 = .ok (.aload_n 0, 1) := by decide +kernel
theorem dX12_wealth_26 : decode cX12_wealth 26 = .ok (.iload_n 1, 1) := by decide +kernel
theorem dX12_wealth_27 : decode cX12_wealth 27 = .ok (.invokevirtual 421, 3) := by decide +kernel
theorem dX12_wealth_30 : decode cX12_wealth 30 = .ok (.ireturn, 1) := by decide +kernel
theorem dX12_daysOf_0 : decode cX12_daysOf 0 = .ok (.iconst 0, 1) := by decide +kernel
theorem dX12_daysOf_1 : decode cX12_daysOf 1 = .ok (.istore 5, 2) := by decide +kernel
theorem dX12_daysOf_3 : decode cX12_daysOf 3 = .ok (.iload_n 2, 1) := by decide +kernel
theorem dX12_daysOf_4 : decode cX12_daysOf 4 = .ok (.istore 6, 2) := by decide +kernel
theorem dX12_daysOf_6 : decode cX12_daysOf 6 = .ok (.iload 6, 2) := by decide +kernel
theorem dX12_daysOf_8 : decode cX12_daysOf 8 = .ok (.iload_n 3, 1) := by decide +kernel
theorem dX12_daysOf_9 : decode cX12_daysOf 9 = .ok (.if_icmp .ge 40, 3) := by decide +kernel
theorem dX12_daysOf_12 : decode cX12_daysOf 12 = .ok (.iload 5, 2) := by decide +kernel
theorem dX12_daysOf_14 : decode cX12_daysOf 14 = .ok (.aload_n 0, 1) := by decide +kernel
theorem dX12_daysOf_15 : decode cX12_daysOf 15 = .ok (.getfield 22, 3) := by decide +kernel
theorem dX12_daysOf_18 : decode cX12_daysOf 18 = .ok (.iload 6, 2) := by decide +kernel
theorem dX12_daysOf_20 : decode cX12_daysOf 20 = .ok (.iaload, 1) := by decide +kernel
theorem dX12_daysOf_21 : decode cX12_daysOf 21 = .ok (.iload 4, 2) := by decide +kernel
theorem dX12_daysOf_23 : decode cX12_daysOf 23 = .ok (.iadd, 1) := by decide +kernel
theorem dX12_daysOf_24 : decode cX12_daysOf 24 = .ok (.aload_n 0, 1) := by decide +kernel
theorem dX12_daysOf_25 : decode cX12_daysOf 25 = .ok (.getfield 25, 3) := by decide +kernel
theorem dX12_daysOf_28 : decode cX12_daysOf 28 = .ok (.iload_n 1, 1) := by decide +kernel
theorem dX12_daysOf_29 : decode cX12_daysOf 29 = .ok (.iaload, 1) := by decide +kernel
theorem dX12_daysOf_30 : decode cX12_daysOf 30 = .ok (.iadd, 1) := by decide +kernel
theorem dX12_daysOf_31 : decode cX12_daysOf 31 = .ok (.iconst 1, 1) := by decide +kernel
theorem dX12_daysOf_32 : decode cX12_daysOf 32 = .ok (.isub, 1) := by decide +kernel
theorem dX12_daysOf_33 : decode cX12_daysOf 33 = .ok (.aload_n 0, 1) := by decide +kernel
theorem dX12_daysOf_34 : decode cX12_daysOf 34 = .ok (.getfield 25, 3) := by decide +kernel
theorem dX12_daysOf_37 : decode cX12_daysOf 37 = .ok (.iload_n 1, 1) := by decide +kernel
theorem dX12_daysOf_38 : decode cX12_daysOf 38 = .ok (.iaload, 1) := by decide +kernel
theorem dX12_daysOf_39 : decode cX12_daysOf 39 = .ok (.idiv, 1) := by decide +kernel
theorem dX12_daysOf_40 : decode cX12_daysOf 40 = .ok (.iadd, 1) := by decide +kernel
theorem dX12_daysOf_41 : decode cX12_daysOf 41 = .ok (.istore 5, 2) := by decide +kernel
theorem dX12_daysOf_43 : decode cX12_daysOf 43 = .ok (.iinc 6 1, 3) := by decide +kernel
theorem dX12_daysOf_46 : decode cX12_daysOf 46 = .ok (.goto (-40), 3) := by decide +kernel
theorem dX12_daysOf_49 : decode cX12_daysOf 49 = .ok (.iload 5, 2) := by decide +kernel
theorem dX12_daysOf_51 : decode cX12_daysOf 51 = .ok (.ireturn, 1) := by decide +kernel
theorem dX12_daysHome_0 : decode cX12_daysHome 0 = .ok (.aload_n 0, 1) := by decide +kernel
theorem dX12_daysHome_1 : decode cX12_daysHome 1 = .ok (.iload_n 1, 1) := by decide +kernel
theorem dX12_daysHome_2 : decode cX12_daysHome 2 = .ok (.aload_n 0, 1) := by decide +kernel
theorem dX12_daysHome_3 : decode cX12_daysHome 3 = .ok (.getfield 13, 3) := by decide +kernel
theorem dX12_daysHome_6 : decode cX12_daysHome 6 = .ok (.iload_n 1, 1) := by decide +kernel
theorem dX12_daysHome_7 : decode cX12_daysHome 7 = .ok (.iaload, 1) := by decide +kernel
theorem dX12_daysHome_8 : decode cX12_daysHome 8 = .ok (.aload_n 0, 1) := by decide +kernel
theorem dX12_daysHome_9 : decode cX12_daysHome 9 = .ok (.invokevirtual 352, 3) := by decide +kernel
theorem dX12_daysHome_12 : decode cX12_daysHome 12 = .ok (.aload_n 0, 1) := by decide +kernel
theorem dX12_daysHome_13 : decode cX12_daysHome 13 = .ok (.iload_n 2, 1) := by decide +kernel
theorem dX12_daysHome_14 : decode cX12_daysHome 14 = .ok (.invokevirtual 341, 3) := by decide +kernel
theorem dX12_daysHome_17 : decode cX12_daysHome 17 = .ok (.invokevirtual 424, 3) := by decide +kernel
theorem dX12_daysHome_20 : decode cX12_daysHome 20 = .ok (.ireturn, 1) := by decide +kernel
theorem dX12_far_0 : decode cX12_far 0 = .ok (.aload_n 0, 1) := by decide +kernel
theorem dX12_far_1 : decode cX12_far 1 = .ok (.iload_n 1, 1) := by decide +kernel
theorem dX12_far_2 : decode cX12_far 2 = .ok (.invokevirtual 395, 3) := by decide +kernel
theorem dX12_far_5 : decode cX12_far 5 = .ok (.ifCond .eq 36, 3) := by decide +kernel
theorem dX12_far_8 : decode cX12_far 8 = .ok (.iload_n 2, 1) := by decide +kernel
theorem dX12_far_9 : decode cX12_far 9 = .ok (.i2l, 1) := by decide +kernel
theorem dX12_far_10 : decode cX12_far 10 = .ok (.lconst 0, 1) := by decide +kernel
theorem dX12_far_11 : decode cX12_far 11 = .ok (.iconst 1, 1) := by decide +kernel
theorem dX12_far_12 : decode cX12_far 12 = .ok (.aload_n 0, 1) := by decide +kernel
