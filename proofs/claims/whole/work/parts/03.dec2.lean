theorem dX7_readValue_80 : decode cX7_readValue 80 = .ok (.aload_n 0, 1) := by decide +kernel
theorem dX7_readValue_81 : decode cX7_readValue 81 = .ok (.dup, 1) := by decide +kernel
theorem dX7_readValue_82 : decode cX7_readValue 82 = .ok (.getfield 24, 3) := by decide +kernel
theorem dX7_readValue_85 : decode cX7_readValue 85 = .ok (.iconst 1, 1) := by decide +kernel
theorem dX7_readValue_86 : decode cX7_readValue 86 = .ok (.iadd, 1) := by decide +kernel
theorem dX7_readValue_87 : decode cX7_readValue 87 = .ok (.putfield 24, 3) := by decide +kernel
theorem dX7_readValue_90 : decode cX7_readValue 90 = .ok (.aload_n 0, 1) := by decide +kernel
theorem dX7_readValue_91 : decode cX7_readValue 91 = .ok (.getfield 15, 3) := by decide +kernel
theorem dX7_readValue_94 : decode cX7_readValue 94 = .ok (.iload_n 1, 1) := by decide +kernel
theorem dX7_readValue_95 : decode cX7_readValue 95 = .ok (.ifCond .eq 7, 3) := by decide +kernel
theorem dX7_readValue_98 : decode cX7_readValue 98 = .ok (.iload_n 3, 1) := by decide +kernel
theorem dX7_readValue_99 : decode cX7_readValue 99 = .ok (.goto 6, 3) := by decide +kernel
theorem dX7_readValue_102 : decode cX7_readValue 102 = .ok (.iconst (-1), 1) := by decide +kernel
theorem dX7_readValue_103 : decode cX7_readValue 103 = .ok (.iload_n 3, 1) := by decide +kernel
theorem dX7_readValue_104 : decode cX7_readValue 104 = .ok (.isub, 1) := by decide +kernel
theorem dX7_readValue_105 : decode cX7_readValue 105 = .ok (.invokevirtual 60, 3) := by decide +kernel
theorem dX7_readValue_108 : decode cX7_readValue 108 = .ok (.iconst 1, 1) := by decide +kernel
theorem dX7_readValue_109 : decode cX7_readValue 109 = .ok (.ireturn, 1) := by decide +kernel
theorem dX8_init_0 : decode cX8_init 0 = .ok (.aload_n 0, 1) := by decide +kernel
theorem dX8_init_1 : decode cX8_init 1 = .ok (.invokespecial 3, 3) := by decide +kernel
theorem dX8_init_4 : decode cX8_init 4 = .ok (.aload_n 0, 1) := by decide +kernel
theorem dX8_init_5 : decode cX8_init 5 = .ok (.iconst 4, 1) := by decide +kernel
theorem dX8_init_6 : decode cX8_init 6 = .ok (.newarray .int, 2) := by decide +kernel
theorem dX8_init_8 : decode cX8_init 8 = .ok (.putfield 9, 3) := by decide +kernel
theorem dX8_init_11 : decode cX8_init 11 = .ok (.aload_n 0, 1) := by decide +kernel
theorem dX8_init_12 : decode cX8_init 12 = .ok (.iconst 4, 1) := by decide +kernel
theorem dX8_init_13 : decode cX8_init 13 = .ok (.newarray .int, 2) := by decide +kernel
theorem dX8_init_15 : decode cX8_init 15 = .ok (.putfield 15, 3) := by decide +kernel
theorem dX8_init_18 : decode cX8_init 18 = .ok (.aload_n 0, 1) := by decide +kernel
theorem dX8_init_19 : decode cX8_init 19 = .ok (.bipush 6, 2) := by decide +kernel
theorem dX8_init_21 : decode cX8_init 21 = .ok (.newarray .int, 2) := by decide +kernel
theorem dX8_init_23 : decode cX8_init 23 = .ok (.putfield 18, 3) := by decide +kernel
theorem dX8_init_26 : decode cX8_init 26 = .ok (.return_, 1) := by decide +kernel
theorem dX8_copy_0 : decode cX8_copy 0 = .ok (.aload_n 0, 1) := by decide +kernel
theorem dX8_copy_1 : decode cX8_copy 1 = .ok (.aload_n 1, 1) := by decide +kernel
theorem dX8_copy_2 : decode cX8_copy 2 = .ok (.getfield 21, 3) := by decide +kernel
theorem dX8_copy_5 : decode cX8_copy 5 = .ok (.putfield 21, 3) := by decide +kernel
theorem dX8_copy_8 : decode cX8_copy 8 = .ok (.aload_n 1, 1) := by decide +kernel
theorem dX8_copy_9 : decode cX8_copy 9 = .ok (.getfield 9, 3) := by decide +kernel
theorem dX8_copy_12 : decode cX8_copy 12 = .ok (.iconst 0, 1) := by decide +kernel
theorem dX8_copy_13 : decode cX8_copy 13 = .ok (.aload_n 0, 1) := by decide +kernel
theorem dX8_copy_14 : decode cX8_copy 14 = .ok (.getfield 9, 3) := by decide +kernel
theorem dX8_copy_17 : decode cX8_copy 17 = .ok (.iconst 0, 1) := by decide +kernel
theorem dX8_copy_18 : decode cX8_copy 18 = .ok (.iconst 4, 1) := by decide +kernel
theorem dX8_copy_19 : decode cX8_copy 19 = .ok (.invokestatic 25, 3) := by decide +kernel
theorem dX8_copy_22 : decode cX8_copy 22 = .ok (.aload_n 1, 1) := by decide +kernel
theorem dX8_copy_23 : decode cX8_copy 23 = .ok (.getfield 15, 3) := by decide +kernel
theorem dX8_copy_26 : decode cX8_copy 26 = .ok (.iconst 0, 1) := by decide +kernel
theorem dX8_copy_27 : decode cX8_copy 27 = .ok (.aload_n 0, 1) := by decide +kernel
theorem dX8_copy_28 : decode cX8_copy 28 = .ok (.getfield 15, 3) := by decide +kernel
theorem dX8_copy_31 : decode cX8_copy 31 = .ok (.iconst 0, 1) := by decide +kernel
theorem dX8_copy_32 : decode cX8_copy 32 = .ok (.iconst 4, 1) := by decide +kernel
theorem dX8_copy_33 : decode cX8_copy 33 = .ok (.invokestatic 25, 3) := by decide +kernel
theorem dX8_copy_36 : decode cX8_copy 36 = .ok (.aload_n 1, 1) := by decide +kernel
theorem dX8_copy_37 : decode cX8_copy 37 = .ok (.getfield 18, 3) := by decide +kernel
theorem dX8_copy_40 : decode cX8_copy 40 = .ok (.iconst 0, 1) := by decide +kernel
theorem dX8_copy_41 : decode cX8_copy 41 = .ok (.aload_n 0, 1) := by decide +kernel
theorem dX8_copy_42 : decode cX8_copy 42 = .ok (.getfield 18, 3) := by decide +kernel
theorem dX8_copy_45 : decode cX8_copy 45 = .ok (.iconst 0, 1) := by decide +kernel
theorem dX8_copy_46 : decode cX8_copy 46 = .ok (.bipush 6, 2) := by decide +kernel
theorem dX8_copy_48 : decode cX8_copy 48 = .ok (.invokestatic 25, 3) := by decide +kernel
theorem dX8_copy_51 : decode cX8_copy 51 = .ok (.return_, 1) := by decide +kernel
theorem dX8_thingsAt_0 : decode cX8_thingsAt 0 = .ok (.iconst 0, 1) := by decide +kernel
theorem dX8_thingsAt_1 : decode cX8_thingsAt 1 = .ok (.istore_n 2, 1) := by decide +kernel
theorem dX8_thingsAt_2 : decode cX8_thingsAt 2 = .ok (.iconst 0, 1) := by decide +kernel
theorem dX8_thingsAt_3 : decode cX8_thingsAt 3 = .ok (.istore_n 3, 1) := by decide +kernel
theorem dX8_thingsAt_4 : decode cX8_thingsAt 4 = .ok (.iload_n 3, 1) := by decide +kernel
theorem dX8_thingsAt_5 : decode cX8_thingsAt 5 = .ok (.bipush 6, 2) := by decide +kernel
theorem dX8_thingsAt_7 : decode cX8_thingsAt 7 = .ok (.if_icmp .ge 25, 3) := by decide +kernel
theorem dX8_thingsAt_10 : decode cX8_thingsAt 10 = .ok (.aload_n 0, 1) := by decide +kernel
theorem dX8_thingsAt_11 : decode cX8_thingsAt 11 = .ok (.getfield 18, 3) := by decide +kernel
theorem dX8_thingsAt_14 : decode cX8_thingsAt 14 = .ok (.iload_n 3, 1) := by decide +kernel
theorem dX8_thingsAt_15 : decode cX8_thingsAt 15 = .ok (.iaload, 1) := by decide +kernel
theorem dX8_thingsAt_16 : decode cX8_thingsAt 16 = .ok (.iload_n 1, 1) := by decide +kernel
theorem dX8_thingsAt_17 : decode cX8_thingsAt 17 = .ok (.if_icmp .ne 9, 3) := by decide +kernel
theorem dX8_thingsAt_20 : decode cX8_thingsAt 20 = .ok (.iload_n 2, 1) := by decide +kernel
theorem dX8_thingsAt_21 : decode cX8_thingsAt 21 = .ok (.iconst 1, 1) := by decide +kernel
theorem dX8_thingsAt_22 : decode cX8_thingsAt 22 = .ok (.iload_n 3, 1) := by decide +kernel
theorem dX8_thingsAt_23 : decode cX8_thingsAt 23 = .ok (.ishl, 1) := by decide +kernel
theorem dX8_thingsAt_24 : decode cX8_thingsAt 24 = .ok (.ior, 1) := by decide +kernel
theorem dX8_thingsAt_25 : decode cX8_thingsAt 25 = .ok (.istore_n 2, 1) := by decide +kernel
theorem dX8_thingsAt_26 : decode cX8_thingsAt 26 = .ok (.iinc 3 1, 3) := by decide +kernel
theorem dX8_thingsAt_29 : decode cX8_thingsAt 29 = .ok (.goto (-25), 3) := by decide +kernel
theorem dX8_thingsAt_32 : decode cX8_thingsAt 32 = .ok (.iload_n 2, 1) := by decide +kernel
theorem dX8_thingsAt_33 : decode cX8_thingsAt 33 = .ok (.ireturn, 1) := by decide +kernel
theorem dX8_hadBy_0 : decode cX8_hadBy 0 = .ok (.aload_n 0, 1) := by decide +kernel
theorem dX8_hadBy_1 : decode cX8_hadBy 1 = .ok (.iload_n 1, 1) := by decide +kernel
theorem dX8_hadBy_2 : decode cX8_hadBy 2 = .ok (.invokevirtual 31, 3) := by decide +kernel
theorem dX8_hadBy_5 : decode cX8_hadBy 5 = .ok (.ireturn, 1) := by decide +kernel
theorem dX8_manyOf_0 : decode cX8_manyOf 0 = .ok (.aload_n 0, 1) := by decide +kernel
theorem dX8_manyOf_1 : decode cX8_manyOf 1 = .ok (.iload_n 1, 1) := by decide +kernel
theorem dX8_manyOf_2 : decode cX8_manyOf 2 = .ok (.invokevirtual 31, 3) := by decide +kernel
theorem dX8_manyOf_5 : decode cX8_manyOf 5 = .ok (.invokestatic 35, 3) := by decide +kernel
theorem dX8_manyOf_8 : decode cX8_manyOf 8 = .ok (.ireturn, 1) := by decide +kernel
theorem dX8_lyingBy_0 : decode cX8_lyingBy 0 = .ok (.aload_n 0, 1) := by decide +kernel
theorem dX8_lyingBy_1 : decode cX8_lyingBy 1 = .ok (.bipush 10, 2) := by decide +kernel
theorem dX8_lyingBy_3 : decode cX8_lyingBy 3 = .ok (.aload_n 0, 1) := by decide +kernel
theorem dX8_lyingBy_4 : decode cX8_lyingBy 4 = .ok (.getfield 9, 3) := by decide +kernel
theorem dX8_lyingBy_7 : decode cX8_lyingBy 7 = .ok (.iload_n 1, 1) := by decide +kernel
theorem dX8_lyingBy_8 : decode cX8_lyingBy 8 = .ok (.iaload, 1) := by decide +kernel
theorem dX8_lyingBy_9 : decode cX8_lyingBy 9 = .ok (.iadd, 1) := by decide +kernel
theorem dX8_lyingBy_10 : decode cX8_lyingBy 10 = .ok (.invokevirtual 31, 3) := by decide +kernel
theorem dX8_lyingBy_13 : decode cX8_lyingBy 13 = .ok (.ireturn, 1) := by decide +kernel
theorem dX9_init_0 : decode cX9_init 0 = .ok (.aload_n 0, 1) := by decide +kernel
theorem dX9_init_1 : decode cX9_init 1 = .ok (.invokespecial 3, 3) := by decide +kernel
theorem dX9_init_4 : decode cX9_init 4 = .ok (.aload_n 0, 1) := by decide +kernel
theorem dX9_init_5 : decode cX9_init 5 = .ok (.sipush 400, 3) := by decide +kernel
theorem dX9_init_8 : decode cX9_init 8 = .ok (.newarray .int, 2) := by decide +kernel
theorem dX9_init_10 : decode cX9_init 10 = .ok (.putfield 11, 3) := by decide +kernel
theorem dX9_init_13 : decode cX9_init 13 = .ok (.return_, 1) := by decide +kernel
theorem dX9_hasRoom_0 : decode cX9_hasRoom 0 = .ok (.aload_n 0, 1) := by decide +kernel
theorem dX9_hasRoom_1 : decode cX9_hasRoom 1 = .ok (.getfield 15, 3) := by decide +kernel
theorem dX9_hasRoom_4 : decode cX9_hasRoom 4 = .ok (.iload_n 1, 1) := by decide +kernel
theorem dX9_hasRoom_5 : decode cX9_hasRoom 5 = .ok (.iadd, 1) := by decide +kernel
theorem dX9_hasRoom_6 : decode cX9_hasRoom 6 = .ok (.sipush 400, 3) := by decide +kernel
theorem dX9_hasRoom_9 : decode cX9_hasRoom 9 = .ok (.if_icmp .gt 7, 3) := by decide +kernel
theorem dX9_hasRoom_12 : decode cX9_hasRoom 12 = .ok (.iconst 1, 1) := by decide +kernel
theorem dX9_hasRoom_13 : decode cX9_hasRoom 13 = .ok (.goto 4, 3) := by decide +kernel
theorem dX9_hasRoom_16 : decode cX9_hasRoom 16 = .ok (.iconst 0, 1) := by decide +kernel
theorem dX9_hasRoom_17 : decode cX9_hasRoom 17 = .ok (.ireturn, 1) := by decide +kernel
theorem dX9_add_0 : decode cX9_add 0 = .ok (.bipush 24, 2) := by decide +kernel
theorem dX9_add_2 : decode cX9_add 2 = .ok (.istore_n 2, 1) := by decide +kernel
theorem dX9_add_3 : decode cX9_add 3 = .ok (.iload_n 2, 1) := by decide +kernel
theorem dX9_add_4 : decode cX9_add 4 = .ok (.ifCond .lt 45, 3) := by decide +kernel
theorem dX9_add_7 : decode cX9_add 7 = .ok (.aload_n 0, 1) := by decide +kernel
theorem dX9_add_8 : decode cX9_add 8 = .ok (.getfield 15, 3) := by decide +kernel
theorem dX9_add_11 : decode cX9_add 11 = .ok (.sipush 400, 3) := by decide +kernel
theorem dX9_add_14 : decode cX9_add 14 = .ok (.if_icmp .ge 29, 3) := by decide +kernel
theorem dX9_add_17 : decode cX9_add 17 = .ok (.aload_n 0, 1) := by decide +kernel
theorem dX9_add_18 : decode cX9_add 18 = .ok (.getfield 11, 3) := by decide +kernel
theorem dX9_add_21 : decode cX9_add 21 = .ok (.aload_n 0, 1) := by decide +kernel
theorem dX9_add_22 : decode cX9_add 22 = .ok (.getfield 15, 3) := by decide +kernel
theorem dX9_add_25 : decode cX9_add 25 = .ok (.iload_n 1, 1) := by decide +kernel
theorem dX9_add_26 : decode cX9_add 26 = .ok (.iload_n 2, 1) := by decide +kernel
theorem dX9_add_27 : decode cX9_add 27 = .ok (.ishr, 1) := by decide +kernel
theorem dX9_add_28 : decode cX9_add 28 = .ok (.sipush 255, 3) := by decide +kernel
theorem dX9_add_31 : decode cX9_add 31 = .ok (.iand, 1) := by decide +kernel
theorem dX9_add_32 : decode cX9_add 32 = .ok (.iastore, 1) := by decide +kernel
theorem dX9_add_33 : decode cX9_add 33 = .ok (.aload_n 0, 1) := by decide +kernel
theorem dX9_add_34 : decode cX9_add 34 = .ok (.dup, 1) := by decide +kernel
theorem dX9_add_35 : decode cX9_add 35 = .ok (.getfield 15, 3) := by decide +kernel
theorem dX9_add_38 : decode cX9_add 38 = .ok (.iconst 1, 1) := by decide +kernel
theorem dX9_add_39 : decode cX9_add 39 = .ok (.iadd, 1) := by decide +kernel
theorem dX9_add_40 : decode cX9_add 40 = .ok (.putfield 15, 3) := by decide +kernel
theorem dX9_add_43 : decode cX9_add 43 = .ok (.iinc 2 (-8), 3) := by decide +kernel
theorem dX9_add_46 : decode cX9_add 46 = .ok (.goto (-43), 3) := by decide +kernel
theorem dX9_add_49 : decode cX9_add 49 = .ok (.return_, 1) := by decide +kernel
theorem dX9_rewind_0 : decode cX9_rewind 0 = .ok (.aload_n 0, 1) := by decide +kernel
theorem dX9_rewind_1 : decode cX9_rewind 1 = .ok (.iconst 0, 1) := by decide +kernel
theorem dX9_rewind_2 : decode cX9_rewind 2 = .ok (.putfield 19, 3) := by decide +kernel
theorem dX9_rewind_5 : decode cX9_rewind 5 = .ok (.aload_n 0, 1) := by decide +kernel
theorem dX9_rewind_6 : decode cX9_rewind 6 = .ok (.iconst 0, 1) := by decide +kernel
theorem dX9_rewind_7 : decode cX9_rewind 7 = .ok (.putfield 22, 3) := by decide +kernel
theorem dX9_rewind_10 : decode cX9_rewind 10 = .ok (.return_, 1) := by decide +kernel
theorem dX9_fail_0 : decode cX9_fail 0 = .ok (.aload_n 0, 1) := by decide +kernel
theorem dX9_fail_1 : decode cX9_fail 1 = .ok (.getfield 22, 3) := by decide +kernel
theorem dX9_fail_4 : decode cX9_fail 4 = .ok (.ifCond .ne 15, 3) := by decide +kernel
theorem dX9_fail_7 : decode cX9_fail 7 = .ok (.aload_n 0, 1) := by decide +kernel
theorem dX9_fail_8 : decode cX9_fail 8 = .ok (.iconst 1, 1) := by decide +kernel
theorem dX9_fail_9 : decode cX9_fail 9 = .ok (.bipush 8, 2) := by decide +kernel
theorem dX9_fail_11 : decode cX9_fail 11 = .ok (.iload_n 1, 1) := by decide +kernel
theorem dX9_fail_12 : decode cX9_fail 12 = .ok (.imul, 1) := by decide +kernel
theorem dX9_fail_13 : decode cX9_fail 13 = .ok (.iadd, 1) := by decide +kernel
theorem dX9_fail_14 : decode cX9_fail 14 = .ok (.iload_n 2, 1) := by decide +kernel
theorem dX9_fail_15 : decode cX9_fail 15 = .ok (.iadd, 1) := by decide +kernel
theorem dX9_fail_16 : decode cX9_fail 16 = .ok (.putfield 22, 3) := by decide +kernel
theorem dX9_fail_19 : decode cX9_fail 19 = .ok (.iconst 0, 1) := by decide +kernel
theorem dX9_fail_20 : decode cX9_fail 20 = .ok (.ireturn, 1) := by decide +kernel
theorem dX9_next_0 : decode cX9_next 0 = .ok (.aload_n 0, 1) := by decide +kernel
theorem dX9_next_1 : decode cX9_next 1 = .ok (.getfield 19, 3) := by decide +kernel
theorem dX9_next_4 : decode cX9_next 4 = .ok (.aload_n 0, 1) := by decide +kernel
theorem dX9_next_5 : decode cX9_next 5 = .ok (.getfield 15, 3) := by decide +kernel
theorem dX9_next_8 : decode cX9_next 8 = .ok (.if_icmp .ge 30, 3) := by decide +kernel
theorem dX9_next_11 : decode cX9_next 11 = .ok (.aload_n 0, 1) := by decide +kernel
theorem dX9_next_12 : decode cX9_next 12 = .ok (.getfield 11, 3) := by decide +kernel
theorem dX9_next_15 : decode cX9_next 15 = .ok (.aload_n 0, 1) := by decide +kernel
theorem dX9_next_16 : decode cX9_next 16 = .ok (.getfield 19, 3) := by decide +kernel
theorem dX9_next_19 : decode cX9_next 19 = .ok (.iaload, 1) := by decide +kernel
theorem dX9_next_20 : decode cX9_next 20 = .ok (.bipush 32, 2) := by decide +kernel
theorem dX9_next_22 : decode cX9_next 22 = .ok (.if_icmp .ne 16, 3) := by decide +kernel
theorem dX9_next_25 : decode cX9_next 25 = .ok (.aload_n 0, 1) := by decide +kernel
theorem dX9_next_26 : decode cX9_next 26 = .ok (.dup, 1) := by decide +kernel
theorem dX9_next_27 : decode cX9_next 27 = .ok (.getfield 19, 3) := by decide +kernel
theorem dX9_next_30 : decode cX9_next 30 = .ok (.iconst 1, 1) := by decide +kernel
theorem dX9_next_31 : decode cX9_next 31 = .ok (.iadd, 1) := by decide +kernel
theorem dX9_next_32 : decode cX9_next 32 = .ok (.putfield 19, 3) := by decide +kernel
theorem dX9_next_35 : decode cX9_next 35 = .ok (.goto (-35), 3) := by decide +kernel
theorem dX9_next_38 : decode cX9_next 38 = .ok (.aload_n 0, 1) := by decide +kernel
theorem dX9_next_39 : decode cX9_next 39 = .ok (.aload_n 0, 1) := by decide +kernel
theorem dX9_next_40 : decode cX9_next 40 = .ok (.getfield 19, 3) := by decide +kernel
theorem dX9_next_43 : decode cX9_next 43 = .ok (.invokevirtual 25, 3) := by decide +kernel
theorem dX9_next_46 : decode cX9_next 46 = .ok (.ireturn, 1) := by decide +kernel
theorem dX9_byteAt_0 : decode cX9_byteAt 0 = .ok (.iload_n 1, 1) := by decide +kernel
theorem dX9_byteAt_1 : decode cX9_byteAt 1 = .ok (.ifCond .lt 20, 3) := by decide +kernel
theorem dX9_byteAt_4 : decode cX9_byteAt 4 = .ok (.iload_n 1, 1) := by decide +kernel
theorem dX9_byteAt_5 : decode cX9_byteAt 5 = .ok (.aload_n 0, 1) := by decide +kernel
theorem dX9_byteAt_6 : decode cX9_byteAt 6 = .ok (.getfield 15, 3) := by decide +kernel
theorem dX9_byteAt_9 : decode cX9_byteAt 9 = .ok (.if_icmp .ge 12, 3) := by decide +kernel
theorem dX9_byteAt_12 : decode cX9_byteAt 12 = .ok (.aload_n 0, 1) := by decide +kernel
theorem dX9_byteAt_13 : decode cX9_byteAt 13 = .ok (.getfield 11, 3) := by decide +kernel
theorem dX9_byteAt_16 : decode cX9_byteAt 16 = .ok (.iload_n 1, 1) := by decide +kernel
theorem dX9_byteAt_17 : decode cX9_byteAt 17 = .ok (.iaload, 1) := by decide +kernel
theorem dX9_byteAt_18 : decode cX9_byteAt 18 = .ok (.goto 4, 3) := by decide +kernel
theorem dX9_byteAt_21 : decode cX9_byteAt 21 = .ok (.iconst (-1), 1) := by decide +kernel
theorem dX9_byteAt_22 : decode cX9_byteAt 22 = .ok (.ireturn, 1) := by decide +kernel
theorem dX9_isDigit_0 : decode cX9_isDigit 0 = .ok (.iload_n 0, 1) := by decide +kernel
theorem dX9_isDigit_1 : decode cX9_isDigit 1 = .ok (.bipush 48, 2) := by decide +kernel
theorem dX9_isDigit_3 : decode cX9_isDigit 3 = .ok (.if_icmp .lt 13, 3) := by decide +kernel
theorem dX9_isDigit_6 : decode cX9_isDigit 6 = .ok (.iload_n 0, 1) := by decide +kernel
theorem dX9_isDigit_7 : decode cX9_isDigit 7 = .ok (.bipush 57, 2) := by decide +kernel
theorem dX9_isDigit_9 : decode cX9_isDigit 9 = .ok (.if_icmp .gt 7, 3) := by decide +kernel
theorem dX9_isDigit_12 : decode cX9_isDigit 12 = .ok (.iconst 1, 1) := by decide +kernel
theorem dX9_isDigit_13 : decode cX9_isDigit 13 = .ok (.goto 4, 3) := by decide +kernel
theorem dX9_isDigit_16 : decode cX9_isDigit 16 = .ok (.iconst 0, 1) := by decide +kernel
theorem dX9_isDigit_17 : decode cX9_isDigit 17 = .ok (.ireturn, 1) := by decide +kernel
theorem dX9_isLetter_0 : decode cX9_isLetter 0 = .ok (.iload_n 0, 1) := by decide +kernel
theorem dX9_isLetter_1 : decode cX9_isLetter 1 = .ok (.bipush 97, 2) := by decide +kernel
theorem dX9_isLetter_3 : decode cX9_isLetter 3 = .ok (.if_icmp .lt 13, 3) := by decide +kernel
theorem dX9_isLetter_6 : decode cX9_isLetter 6 = .ok (.iload_n 0, 1) := by decide +kernel
theorem dX9_isLetter_7 : decode cX9_isLetter 7 = .ok (.bipush 122, 2) := by decide +kernel
theorem dX9_isLetter_9 : decode cX9_isLetter 9 = .ok (.if_icmp .gt 7, 3) := by decide +kernel
theorem dX9_isLetter_12 : decode cX9_isLetter 12 = .ok (.iconst 1, 1) := by decide +kernel
theorem dX9_isLetter_13 : decode cX9_isLetter 13 = .ok (.goto 4, 3) := by decide +kernel
theorem dX9_isLetter_16 : decode cX9_isLetter 16 = .ok (.iconst 0, 1) := by decide +kernel
theorem dX9_isLetter_17 : decode cX9_isLetter 17 = .ok (.ireturn, 1) := by decide +kernel
theorem dX9_takeSign_0 : decode cX9_takeSign 0 = .ok (.aload_n 0, 1) := by decide +kernel
theorem dX9_takeSign_1 : decode cX9_takeSign 1 = .ok (.invokevirtual 29, 3) := by decide +kernel
theorem dX9_takeSign_4 : decode cX9_takeSign 4 = .ok (.pop, 1) := by decide +kernel
theorem dX9_takeSign_5 : decode cX9_takeSign 5 = .ok (.aload_n 0, 1) := by decide +kernel
theorem dX9_takeSign_6 : decode cX9_takeSign 6 = .ok (.iload_n 1, 1) := by decide +kernel
theorem dX9_takeSign_7 : decode cX9_takeSign 7 = .ok (.invokevirtual 33, 3) := by decide +kernel
theorem dX9_takeSign_10 : decode cX9_takeSign 10 = .ok (.ireturn, 1) := by decide +kernel
theorem dX9_takeSignAtOnce_0 : decode cX9_takeSignAtOnce 0 = .ok (.aload_n 0, 1) := by decide +kernel
theorem dX9_takeSignAtOnce_1 : decode cX9_takeSignAtOnce 1 = .ok (.aload_n 0, 1) := by decide +kernel
theorem dX9_takeSignAtOnce_2 : decode cX9_takeSignAtOnce 2 = .ok (.getfield 19, 3) := by decide +kernel
theorem dX9_takeSignAtOnce_5 : decode cX9_takeSignAtOnce 5 = .ok (.invokevirtual 25, 3) := by decide +kernel
theorem dX9_takeSignAtOnce_8 : decode cX9_takeSignAtOnce 8 = .ok (.iload_n 1, 1) := by decide +kernel
theorem dX9_takeSignAtOnce_9 : decode cX9_takeSignAtOnce 9 = .ok (.if_icmp .eq 5, 3) := by decide +kernel
theorem dX9_takeSignAtOnce_12 : decode cX9_takeSignAtOnce 12 = .ok (.iconst 0, 1) := by decide +kernel
theorem dX9_takeSignAtOnce_13 : decode cX9_takeSignAtOnce 13 = .ok (.ireturn, 1) := by decide +kernel
theorem dX9_takeSignAtOnce_14 : decode cX9_takeSignAtOnce 14 = .ok (.aload_n 0, 1) := by decide +kernel
theorem dX9_takeSignAtOnce_15 : decode cX9_takeSignAtOnce 15 = .ok (.dup, 1) := by decide +kernel
theorem dX9_takeSignAtOnce_16 : decode cX9_takeSignAtOnce 16 = .ok (.getfield 19, 3) := by decide +kernel
theorem dX9_takeSignAtOnce_19 : decode cX9_takeSignAtOnce 19 = .ok (.iconst 1, 1) := by decide +kernel
theorem dX9_takeSignAtOnce_20 : decode cX9_takeSignAtOnce 20 = .ok (.iadd, 1) := by decide +kernel
theorem dX9_takeSignAtOnce_21 : decode cX9_takeSignAtOnce 21 = .ok (.putfield 19, 3) := by decide +kernel
theorem dX9_takeSignAtOnce_24 : decode cX9_takeSignAtOnce 24 = .ok (.iconst 1, 1) := by decide +kernel
theorem dX9_takeSignAtOnce_25 : decode cX9_takeSignAtOnce 25 = .ok (.ireturn, 1) := by decide +kernel
theorem dX9_takeWord_0 : decode cX9_takeWord 0 = .ok (.aload_n 0, 1) := by decide +kernel
theorem dX9_takeWord_1 : decode cX9_takeWord 1 = .ok (.invokevirtual 29, 3) := by decide +kernel
theorem dX9_takeWord_4 : decode cX9_takeWord 4 = .ok (.pop, 1) := by decide +kernel
theorem dX9_takeWord_5 : decode cX9_takeWord 5 = .ok (.aload_n 0, 1) := by decide +kernel
theorem dX9_takeWord_6 : decode cX9_takeWord 6 = .ok (.getfield 19, 3) := by decide +kernel
theorem dX9_takeWord_9 : decode cX9_takeWord 9 = .ok (.aload_n 1, 1) := by decide +kernel
theorem dX9_takeWord_10 : decode cX9_takeWord 10 = .ok (.invokevirtual 37, 3) := by decide +kernel
theorem dX9_takeWord_13 : decode cX9_takeWord 13 = .ok (.iadd, 1) := by decide +kernel
theorem dX9_takeWord_14 : decode cX9_takeWord 14 = .ok (.istore_n 2, 1) := by decide +kernel
theorem dX9_takeWord_15 : decode cX9_takeWord 15 = .ok (.aload_n 0, 1) := by decide +kernel
theorem dX9_takeWord_16 : decode cX9_takeWord 16 = .ok (.aload_n 1, 1) := by decide +kernel
theorem dX9_takeWord_17 : decode cX9_takeWord 17 = .ok (.iconst 0, 1) := by decide +kernel
theorem dX9_takeWord_18 : decode cX9_takeWord 18 = .ok (.aload_n 1, 1) := by decide +kernel
theorem dX9_takeWord_19 : decode cX9_takeWord 19 = .ok (.invokevirtual 37, 3) := by decide +kernel
theorem dX9_takeWord_22 : decode cX9_takeWord 22 = .ok (.invokevirtual 41, 3) := by decide +kernel
theorem dX9_takeWord_25 : decode cX9_takeWord 25 = .ok (.ifCond .eq 14, 3) := by decide +kernel
theorem dX9_takeWord_28 : decode cX9_takeWord 28 = .ok (.aload_n 0, 1) := by decide +kernel
theorem dX9_takeWord_29 : decode cX9_takeWord 29 = .ok (.iload_n 2, 1) := by decide +kernel
theorem dX9_takeWord_30 : decode cX9_takeWord 30 = .ok (.invokevirtual 25, 3) := by decide +kernel
theorem dX9_takeWord_33 : decode cX9_takeWord 33 = .ok (.invokestatic 45, 3) := by decide +kernel
theorem dX9_takeWord_36 : decode cX9_takeWord 36 = .ok (.ifCond .eq 5, 3) := by decide +kernel
theorem dX9_takeWord_39 : decode cX9_takeWord 39 = .ok (.iconst 0, 1) := by decide +kernel
theorem dX9_takeWord_40 : decode cX9_takeWord 40 = .ok (.ireturn, 1) := by decide +kernel
theorem dX9_takeWord_41 : decode cX9_takeWord 41 = .ok (.aload_n 0, 1) := by decide +kernel
theorem dX9_takeWord_42 : decode cX9_takeWord 42 = .ok (.iload_n 2, 1) := by decide +kernel
theorem dX9_takeWord_43 : decode cX9_takeWord 43 = .ok (.putfield 19, 3) := by decide +kernel
theorem dX9_takeWord_46 : decode cX9_takeWord 46 = .ok (.iconst 1, 1) := by decide +kernel
theorem dX9_takeWord_47 : decode cX9_takeWord 47 = .ok (.ireturn, 1) := by decide +kernel
theorem dX9_takeWordOf_0 : decode cX9_takeWordOf 0 = .ok (.iconst 0, 1) := by decide +kernel
theorem dX9_takeWordOf_1 : decode cX9_takeWordOf 1 = .ok (.istore_n 2, 1) := by decide +kernel
theorem dX9_takeWordOf_2 : decode cX9_takeWordOf 2 = .ok (.iconst 0, 1) := by decide +kernel
theorem dX9_takeWordOf_3 : decode cX9_takeWordOf 3 = .ok (.istore_n 3, 1) := by decide +kernel
theorem dX9_takeWordOf_4 : decode cX9_takeWordOf 4 = .ok (.iconst 0, 1) := by decide +kernel
theorem dX9_takeWordOf_5 : decode cX9_takeWordOf 5 = .ok (.istore 4, 2) := by decide +kernel
theorem dX9_takeWordOf_7 : decode cX9_takeWordOf 7 = .ok (.iload 4, 2) := by decide +kernel
theorem dX9_takeWordOf_9 : decode cX9_takeWordOf 9 = .ok (.aload_n 1, 1) := by decide +kernel
theorem dX9_takeWordOf_10 : decode cX9_takeWordOf 10 = .ok (.invokevirtual 37, 3) := by decide +kernel
theorem dX9_takeWordOf_13 : decode cX9_takeWordOf 13 = .ok (.if_icmp .ge 70, 3) := by decide +kernel
theorem dX9_takeWordOf_16 : decode cX9_takeWordOf 16 = .ok (.aload_n 1, 1) := by decide +kernel
theorem dX9_takeWordOf_17 : decode cX9_takeWordOf 17 = .ok (.iload 4, 2) := by decide +kernel
theorem dX9_takeWordOf_19 : decode cX9_takeWordOf 19 = .ok (.invokevirtual 48, 3) := by decide +kernel
theorem dX9_takeWordOf_22 : decode cX9_takeWordOf 22 = .ok (.bipush 32, 2) := by decide +kernel
theorem dX9_takeWordOf_24 : decode cX9_takeWordOf 24 = .ok (.if_icmp .ne 53, 3) := by decide +kernel
theorem dX9_takeWordOf_27 : decode cX9_takeWordOf 27 = .ok (.aload_n 0, 1) := by decide +kernel
theorem dX9_takeWordOf_28 : decode cX9_takeWordOf 28 = .ok (.getfield 19, 3) := by decide +kernel
theorem dX9_takeWordOf_31 : decode cX9_takeWordOf 31 = .ok (.iload 4, 2) := by decide +kernel
theorem dX9_takeWordOf_33 : decode cX9_takeWordOf 33 = .ok (.iadd, 1) := by decide +kernel
theorem dX9_takeWordOf_34 : decode cX9_takeWordOf 34 = .ok (.iload_n 3, 1) := by decide +kernel
theorem dX9_takeWordOf_35 : decode cX9_takeWordOf 35 = .ok (.isub, 1) := by decide +kernel
theorem dX9_takeWordOf_36 : decode cX9_takeWordOf 36 = .ok (.istore 5, 2) := by decide +kernel
theorem dX9_takeWordOf_38 : decode cX9_takeWordOf 38 = .ok (.aload_n 0, 1) := by decide +kernel
theorem dX9_takeWordOf_39 : decode cX9_takeWordOf 39 = .ok (.aload_n 1, 1) := by decide +kernel
theorem dX9_takeWordOf_40 : decode cX9_takeWordOf 40 = .ok (.iload_n 3, 1) := by decide +kernel
theorem dX9_takeWordOf_41 : decode cX9_takeWordOf 41 = .ok (.iload 4, 2) := by decide +kernel
theorem dX9_takeWordOf_43 : decode cX9_takeWordOf 43 = .ok (.invokevirtual 41, 3) := by decide +kernel
theorem dX9_takeWordOf_46 : decode cX9_takeWordOf 46 = .ok (.ifCond .eq 23, 3) := by decide +kernel
theorem dX9_takeWordOf_49 : decode cX9_takeWordOf 49 = .ok (.aload_n 0, 1) := by decide +kernel
theorem dX9_takeWordOf_50 : decode cX9_takeWordOf 50 = .ok (.iload 5, 2) := by decide +kernel
theorem dX9_takeWordOf_52 : decode cX9_takeWordOf 52 = .ok (.invokevirtual 25, 3) := by decide +kernel
theorem dX9_takeWordOf_55 : decode cX9_takeWordOf 55 = .ok (.invokestatic 45, 3) := by decide +kernel
theorem dX9_takeWordOf_58 : decode cX9_takeWordOf 58 = .ok (.ifCond .ne 11, 3) := by decide +kernel
theorem dX9_takeWordOf_61 : decode cX9_takeWordOf 61 = .ok (.aload_n 0, 1) := by decide +kernel
theorem dX9_takeWordOf_62 : decode cX9_takeWordOf 62 = .ok (.iload 5, 2) := by decide +kernel
theorem dX9_takeWordOf_64 : decode cX9_takeWordOf 64 = .ok (.putfield 19, 3) := by decide +kernel
theorem dX9_takeWordOf_67 : decode cX9_takeWordOf 67 = .ok (.iload_n 2, 1) := by decide +kernel
theorem dX9_takeWordOf_68 : decode cX9_takeWordOf 68 = .ok (.ireturn, 1) := by decide +kernel
theorem dX9_takeWordOf_69 : decode cX9_takeWordOf 69 = .ok (.iinc 2 1, 3) := by decide +kernel
theorem dX9_takeWordOf_72 : decode cX9_takeWordOf 72 = .ok (.iload 4, 2) := by decide +kernel
theorem dX9_takeWordOf_74 : decode cX9_takeWordOf 74 = .ok (.iconst 1, 1) := by decide +kernel
theorem dX9_takeWordOf_75 : decode cX9_takeWordOf 75 = .ok (.iadd, 1) := by decide +kernel
theorem dX9_takeWordOf_76 : decode cX9_takeWordOf 76 = .ok (.istore_n 3, 1) := by decide +kernel
theorem dX9_takeWordOf_77 : decode cX9_takeWordOf 77 = .ok (.iinc 4 1, 3) := by decide +kernel
theorem dX9_takeWordOf_80 : decode cX9_takeWordOf 80 = .ok (.goto (-73), 3) := by decide +kernel
theorem dX9_takeWordOf_83 : decode cX9_takeWordOf 83 = .ok (.iconst (-1), 1) := by decide +kernel
theorem dX9_takeWordOf_84 : decode cX9_takeWordOf 84 = .ok (.ireturn, 1) := by decide +kernel
theorem dX9_stands_0 : decode cX9_stands 0 = .ok (.aload_n 0, 1) := by decide +kernel
theorem dX9_stands_1 : decode cX9_stands 1 = .ok (.getfield 19, 3) := by decide +kernel
theorem dX9_stands_4 : decode cX9_stands 4 = .ok (.iload_n 3, 1) := by decide +kernel
theorem dX9_stands_5 : decode cX9_stands 5 = .ok (.iadd, 1) := by decide +kernel
theorem dX9_stands_6 : decode cX9_stands 6 = .ok (.iload_n 2, 1) := by decide +kernel
theorem dX9_stands_7 : decode cX9_stands 7 = .ok (.isub, 1) := by decide +kernel
theorem dX9_stands_8 : decode cX9_stands 8 = .ok (.aload_n 0, 1) := by decide +kernel
theorem dX9_stands_9 : decode cX9_stands 9 = .ok (.getfield 15, 3) := by decide +kernel
theorem dX9_stands_12 : decode cX9_stands 12 = .ok (.if_icmp .le 5, 3) := by decide +kernel
theorem dX9_stands_15 : decode cX9_stands 15 = .ok (.iconst 0, 1) := by decide +kernel
theorem dX9_stands_16 : decode cX9_stands 16 = .ok (.ireturn, 1) := by decide +kernel
theorem dX9_stands_17 : decode cX9_stands 17 = .ok (.iload_n 2, 1) := by decide +kernel
theorem dX9_stands_18 : decode cX9_stands 18 = .ok (.istore 4, 2) := by decide +kernel
theorem dX9_stands_20 : decode cX9_stands 20 = .ok (.iload 4, 2) := by decide +kernel
theorem dX9_stands_22 : decode cX9_stands 22 = .ok (.iload_n 3, 1) := by decide +kernel
theorem dX9_stands_23 : decode cX9_stands 23 = .ok (.if_icmp .ge 43, 3) := by decide +kernel
theorem dX9_stands_26 : decode cX9_stands 26 = .ok (.iload 4, 2) := by decide +kernel
theorem dX9_stands_28 : decode cX9_stands 28 = .ok (.aload_n 1, 1) := by decide +kernel
theorem dX9_stands_29 : decode cX9_stands 29 = .ok (.invokevirtual 37, 3) := by decide +kernel
theorem dX9_stands_32 : decode cX9_stands 32 = .ok (.if_icmp .ge 34, 3) := by decide +kernel
theorem dX9_stands_35 : decode cX9_stands 35 = .ok (.aload_n 0, 1) := by decide +kernel
theorem dX9_stands_36 : decode cX9_stands 36 = .ok (.getfield 11, 3) := by decide +kernel
theorem dX9_stands_39 : decode cX9_stands 39 = .ok (.aload_n 0, 1) := by decide +kernel
theorem dX9_stands_40 : decode cX9_stands 40 = .ok (.getfield 19, 3) := by decide +kernel
theorem dX9_stands_43 : decode cX9_stands 43 = .ok (.iload 4, 2) := by decide +kernel
theorem dX9_stands_45 : decode cX9_stands 45 = .ok (.iadd, 1) := by decide +kernel
theorem dX9_stands_46 : decode cX9_stands 46 = .ok (.iload_n 2, 1) := by decide +kernel
theorem dX9_stands_47 : decode cX9_stands 47 = .ok (.isub, 1) := by decide +kernel
theorem dX9_stands_48 : decode cX9_stands 48 = .ok (.iaload, 1) := by decide +kernel
theorem dX9_stands_49 : decode cX9_stands 49 = .ok (.aload_n 1, 1) := by decide +kernel
theorem dX9_stands_50 : decode cX9_stands 50 = .ok (.iload 4, 2) := by decide +kernel
theorem dX9_stands_52 : decode cX9_stands 52 = .ok (.invokevirtual 48, 3) := by decide +kernel
theorem dX9_stands_55 : decode cX9_stands 55 = .ok (.if_icmp .eq 5, 3) := by decide +kernel
theorem dX9_stands_58 : decode cX9_stands 58 = .ok (.iconst 0, 1) := by decide +kernel
theorem dX9_stands_59 : decode cX9_stands 59 = .ok (.ireturn, 1) := by decide +kernel
theorem dX9_stands_60 : decode cX9_stands 60 = .ok (.iinc 4 1, 3) := by decide +kernel
theorem dX9_stands_63 : decode cX9_stands 63 = .ok (.goto (-43), 3) := by decide +kernel
theorem dX9_stands_66 : decode cX9_stands 66 = .ok (.iconst 1, 1) := by decide +kernel
theorem dX9_stands_67 : decode cX9_stands 67 = .ok (.ireturn, 1) := by decide +kernel
theorem dX9_number_0 : decode cX9_number 0 = .ok (.aload_n 0, 1) := by decide +kernel
theorem dX9_number_1 : decode cX9_number 1 = .ok (.getfield 19, 3) := by decide +kernel
theorem dX9_number_4 : decode cX9_number 4 = .ok (.istore_n 3, 1) := by decide +kernel
theorem dX9_number_5 : decode cX9_number 5 = .ok (.iconst 0, 1) := by decide +kernel
theorem dX9_number_6 : decode cX9_number 6 = .ok (.istore 4, 2) := by decide +kernel
theorem dX9_number_8 : decode cX9_number 8 = .ok (.aload_n 0, 1) := by decide +kernel
theorem dX9_number_9 : decode cX9_number 9 = .ok (.getfield 19, 3) := by decide +kernel
theorem dX9_number_12 : decode cX9_number 12 = .ok (.aload_n 0, 1) := by decide +kernel
theorem dX9_number_13 : decode cX9_number 13 = .ok (.getfield 15, 3) := by decide +kernel
theorem dX9_number_16 : decode cX9_number 16 = .ok (.if_icmp .ge 61, 3) := by decide +kernel
theorem dX9_number_19 : decode cX9_number 19 = .ok (.aload_n 0, 1) := by decide +kernel
theorem dX9_number_20 : decode cX9_number 20 = .ok (.getfield 11, 3) := by decide +kernel
theorem dX9_number_23 : decode cX9_number 23 = .ok (.aload_n 0, 1) := by decide +kernel
theorem dX9_number_24 : decode cX9_number 24 = .ok (.getfield 19, 3) := by decide +kernel
theorem dX9_number_27 : decode cX9_number 27 = .ok (.iaload, 1) := by decide +kernel
theorem dX9_number_28 : decode cX9_number 28 = .ok (.invokestatic 52, 3) := by decide +kernel
theorem dX9_number_31 : decode cX9_number 31 = .ok (.ifCond .eq 46, 3) := by decide +kernel
theorem dX9_number_34 : decode cX9_number 34 = .ok (.aload_n 0, 1) := by decide +kernel
theorem dX9_number_35 : decode cX9_number 35 = .ok (.getfield 19, 3) := by decide +kernel
theorem dX9_number_38 : decode cX9_number 38 = .ok (.iload_n 3, 1) := by decide +kernel
theorem dX9_number_39 : decode cX9_number 39 = .ok (.isub, 1) := by decide +kernel
theorem dX9_number_40 : decode cX9_number 40 = .ok (.iconst 5, 1) := by decide +kernel
theorem dX9_number_41 : decode cX9_number 41 = .ok (.if_icmp .ge 23, 3) := by decide +kernel
theorem dX9_number_44 : decode cX9_number 44 = .ok (.iload 4, 2) := by decide +kernel
theorem dX9_number_46 : decode cX9_number 46 = .ok (.bipush 10, 2) := by decide +kernel
theorem dX9_number_48 : decode cX9_number 48 = .ok (.imul, 1) := by decide +kernel
theorem dX9_number_49 : decode cX9_number 49 = .ok (.aload_n 0, 1) := by decide +kernel
theorem dX9_number_50 : decode cX9_number 50 = .ok (.getfield 11, 3) := by decide +kernel
theorem dX9_number_53 : decode cX9_number 53 = .ok (.aload_n 0, 1) := by decide +kernel
theorem dX9_number_54 : decode cX9_number 54 = .ok (.getfield 19, 3) := by decide +kernel
theorem dX9_number_57 : decode cX9_number 57 = .ok (.iaload, 1) := by decide +kernel
theorem dX9_number_58 : decode cX9_number 58 = .ok (.iadd, 1) := by decide +kernel
theorem dX9_number_59 : decode cX9_number 59 = .ok (.bipush 48, 2) := by decide +kernel
theorem dX9_number_61 : decode cX9_number 61 = .ok (.isub, 1) := by decide +kernel
theorem dX9_number_62 : decode cX9_number 62 = .ok (.istore 4, 2) := by decide +kernel
theorem dX9_number_64 : decode cX9_number 64 = .ok (.aload_n 0, 1) := by decide +kernel
theorem dX9_number_65 : decode cX9_number 65 = .ok (.dup, 1) := by decide +kernel
theorem dX9_number_66 : decode cX9_number 66 = .ok (.getfield 19, 3) := by decide +kernel
theorem dX9_number_69 : decode cX9_number 69 = .ok (.iconst 1, 1) := by decide +kernel
theorem dX9_number_70 : decode cX9_number 70 = .ok (.iadd, 1) := by decide +kernel
theorem dX9_number_71 : decode cX9_number 71 = .ok (.putfield 19, 3) := by decide +kernel
theorem dX9_number_74 : decode cX9_number 74 = .ok (.goto (-66), 3) := by decide +kernel
theorem dX9_number_77 : decode cX9_number 77 = .ok (.aload_n 0, 1) := by decide +kernel
theorem dX9_number_78 : decode cX9_number 78 = .ok (.getfield 19, 3) := by decide +kernel
theorem dX9_number_81 : decode cX9_number 81 = .ok (.iload_n 3, 1) := by decide +kernel
theorem dX9_number_82 : decode cX9_number 82 = .ok (.if_icmp .ne 12, 3) := by decide +kernel
theorem dX9_number_85 : decode cX9_number 85 = .ok (.aload_n 0, 1) := by decide +kernel
theorem dX9_number_86 : decode cX9_number 86 = .ok (.iload_n 3, 1) := by decide +kernel
theorem dX9_number_87 : decode cX9_number 87 = .ok (.iconst 0, 1) := by decide +kernel
theorem dX9_number_88 : decode cX9_number 88 = .ok (.invokevirtual 55, 3) := by decide +kernel
theorem dX9_number_91 : decode cX9_number 91 = .ok (.pop, 1) := by decide +kernel
theorem dX9_number_92 : decode cX9_number 92 = .ok (.iconst (-1), 1) := by decide +kernel
theorem dX9_number_93 : decode cX9_number 93 = .ok (.ireturn, 1) := by decide +kernel
theorem dX9_number_94 : decode cX9_number 94 = .ok (.aload_n 0, 1) := by decide +kernel
theorem dX9_number_95 : decode cX9_number 95 = .ok (.getfield 19, 3) := by decide +kernel
theorem dX9_number_98 : decode cX9_number 98 = .ok (.iload_n 3, 1) := by decide +kernel
theorem dX9_number_99 : decode cX9_number 99 = .ok (.isub, 1) := by decide +kernel
theorem dX9_number_100 : decode cX9_number 100 = .ok (.iconst 5, 1) := by decide +kernel
theorem dX9_number_101 : decode cX9_number 101 = .ok (.if_icmp .gt 15, 3) := by decide +kernel
theorem dX9_number_104 : decode cX9_number 104 = .ok (.iload 4, 2) := by decide +kernel
theorem dX9_number_106 : decode cX9_number 106 = .ok (.iload_n 1, 1) := by decide +kernel
theorem dX9_number_107 : decode cX9_number 107 = .ok (.if_icmp .lt 9, 3) := by decide +kernel
theorem dX9_number_110 : decode cX9_number 110 = .ok (.iload 4, 2) := by decide +kernel
theorem dX9_number_112 : decode cX9_number 112 = .ok (.iload_n 2, 1) := by decide +kernel
theorem dX9_number_113 : decode cX9_number 113 = .ok (.if_icmp .le 12, 3) := by decide +kernel
theorem dX9_number_116 : decode cX9_number 116 = .ok (.aload_n 0, 1) := by decide +kernel
theorem dX9_number_117 : decode cX9_number 117 = .ok (.iload_n 3, 1) := by decide +kernel
theorem dX9_number_118 : decode cX9_number 118 = .ok (.iconst 1, 1) := by decide +kernel
theorem dX9_number_119 : decode cX9_number 119 = .ok (.invokevirtual 55, 3) := by decide +kernel
theorem dX9_number_122 : decode cX9_number 122 = .ok (.pop, 1) := by decide +kernel
theorem dX9_number_123 : decode cX9_number 123 = .ok (.iconst (-1), 1) := by decide +kernel
theorem dX9_number_124 : decode cX9_number 124 = .ok (.ireturn, 1) := by decide +kernel
theorem dX9_number_125 : decode cX9_number 125 = .ok (.iload 4, 2) := by decide +kernel
theorem dX9_number_127 : decode cX9_number 127 = .ok (.ireturn, 1) := by decide +kernel
theorem dX10_init_0 : decode cX10_init 0 = .ok (.aload_n 0, 1) := by decide +kernel
theorem dX10_init_1 : decode cX10_init 1 = .ok (.invokespecial 3, 3) := by decide +kernel
theorem dX10_init_4 : decode cX10_init 4 = .ok (.aload_n 0, 1) := by decide +kernel
theorem dX10_init_5 : decode cX10_init 5 = .ok (.new 9, 3) := by decide +kernel
theorem dX10_init_8 : decode cX10_init 8 = .ok (.dup, 1) := by decide +kernel
theorem dX10_init_9 : decode cX10_init 9 = .ok (.invokespecial 11, 3) := by decide +kernel
theorem dX10_init_12 : decode cX10_init 12 = .ok (.putfield 12, 3) := by decide +kernel
theorem dX10_init_15 : decode cX10_init 15 = .ok (.aload_n 0, 1) := by decide +kernel
theorem dX10_init_16 : decode cX10_init 16 = .ok (.new 18, 3) := by decide +kernel
theorem dX10_init_19 : decode cX10_init 19 = .ok (.dup, 1) := by decide +kernel
theorem dX10_init_20 : decode cX10_init 20 = .ok (.invokespecial 20, 3) := by decide +kernel
theorem dX10_init_23 : decode cX10_init 23 = .ok (.putfield 21, 3) := by decide +kernel
theorem dX10_init_26 : decode cX10_init 26 = .ok (.aload_n 0, 1) := by decide +kernel
theorem dX10_init_27 : decode cX10_init 27 = .ok (.new 25, 3) := by decide +kernel
theorem dX10_init_30 : decode cX10_init 30 = .ok (.dup, 1) := by decide +kernel
theorem dX10_init_31 : decode cX10_init 31 = .ok (.invokespecial 27, 3) := by decide +kernel
theorem dX10_init_34 : decode cX10_init 34 = .ok (.putfield 28, 3) := by decide +kernel
theorem dX10_init_37 : decode cX10_init 37 = .ok (.aload_n 0, 1) := by decide +kernel
theorem dX10_init_38 : decode cX10_init 38 = .ok (.iconst (-1), 1) := by decide +kernel
theorem dX10_init_39 : decode cX10_init 39 = .ok (.putfield 32, 3) := by decide +kernel
theorem dX10_init_42 : decode cX10_init 42 = .ok (.aload_n 0, 1) := by decide +kernel
theorem dX10_init_43 : decode cX10_init 43 = .ok (.bipush 10, 2) := by decide +kernel
theorem dX10_init_45 : decode cX10_init 45 = .ok (.newarray .int, 2) := by decide +kernel
theorem dX10_init_47 : decode cX10_init 47 = .ok (.putfield 36, 3) := by decide +kernel
theorem dX10_init_50 : decode cX10_init 50 = .ok (.aload_n 0, 1) := by decide +kernel
theorem dX10_init_51 : decode cX10_init 51 = .ok (.bipush 10, 2) := by decide +kernel
theorem dX10_init_53 : decode cX10_init 53 = .ok (.newarray .int, 2) := by decide +kernel
theorem dX10_init_55 : decode cX10_init 55 = .ok (.putfield 40, 3) := by decide +kernel
theorem dX10_init_58 : decode cX10_init 58 = .ok (.aload_n 0, 1) := by decide +kernel
theorem dX10_init_59 : decode cX10_init 59 = .ok (.bipush 10, 2) := by decide +kernel
theorem dX10_init_61 : decode cX10_init 61 = .ok (.newarray .int, 2) := by decide +kernel
theorem dX10_init_63 : decode cX10_init 63 = .ok (.putfield 43, 3) := by decide +kernel
theorem dX10_init_66 : decode cX10_init 66 = .ok (.aload_n 0, 1) := by decide +kernel
theorem dX10_init_67 : decode cX10_init 67 = .ok (.getfield 12, 3) := by decide +kernel
theorem dX10_init_70 : decode cX10_init 70 = .ok (.invokevirtual 46, 3) := by decide +kernel
theorem dX10_init_73 : decode cX10_init 73 = .ok (.aload_n 0, 1) := by decide +kernel
theorem dX10_init_74 : decode cX10_init 74 = .ok (.getfield 12, 3) := by decide +kernel
theorem dX10_init_77 : decode cX10_init 77 = .ok (.aload_n 0, 1) := by decide +kernel
theorem dX10_init_78 : decode cX10_init 78 = .ok (.getfield 21, 3) := by decide +kernel
theorem dX10_init_81 : decode cX10_init 81 = .ok (.invokevirtual 49, 3) := by decide +kernel
theorem dX10_init_84 : decode cX10_init 84 = .ok (.return_, 1) := by decide +kernel
theorem dX10_begin_0 : decode cX10_begin 0 = .ok (.aload_n 0, 1) := by decide +kernel
theorem dX10_begin_1 : decode cX10_begin 1 = .ok (.getfield 12, 3) := by decide +kernel
theorem dX10_begin_4 : decode cX10_begin 4 = .ok (.aload_n 1, 1) := by decide +kernel
theorem dX10_begin_5 : decode cX10_begin 5 = .ok (.invokevirtual 53, 3) := by decide +kernel
theorem dX10_begin_8 : decode cX10_begin 8 = .ok (.aload_n 0, 1) := by decide +kernel
theorem dX10_begin_9 : decode cX10_begin 9 = .ok (.getfield 12, 3) := by decide +kernel
theorem dX10_begin_12 : decode cX10_begin 12 = .ok (.aload_n 0, 1) := by decide +kernel
theorem dX10_begin_13 : decode cX10_begin 13 = .ok (.getfield 21, 3) := by decide +kernel
theorem dX10_begin_16 : decode cX10_begin 16 = .ok (.invokevirtual 49, 3) := by decide +kernel
theorem dX10_begin_19 : decode cX10_begin 19 = .ok (.aload_n 0, 1) := by decide +kernel
theorem dX10_begin_20 : decode cX10_begin 20 = .ok (.getfield 28, 3) := by decide +kernel
theorem dX10_begin_23 : decode cX10_begin 23 = .ok (.invokevirtual 57, 3) := by decide +kernel
theorem dX10_begin_26 : decode cX10_begin 26 = .ok (.aload_n 0, 1) := by decide +kernel
theorem dX10_begin_27 : decode cX10_begin 27 = .ok (.iconst 0, 1) := by decide +kernel
theorem dX10_begin_28 : decode cX10_begin 28 = .ok (.putfield 58, 3) := by decide +kernel
theorem dX10_begin_31 : decode cX10_begin 31 = .ok (.return_, 1) := by decide +kernel
theorem dX10_copy_0 : decode cX10_copy 0 = .ok (.aload_n 0, 1) := by decide +kernel
theorem dX10_copy_1 : decode cX10_copy 1 = .ok (.getfield 12, 3) := by decide +kernel
theorem dX10_copy_4 : decode cX10_copy 4 = .ok (.aload_n 1, 1) := by decide +kernel
theorem dX10_copy_5 : decode cX10_copy 5 = .ok (.getfield 12, 3) := by decide +kernel
theorem dX10_copy_8 : decode cX10_copy 8 = .ok (.invokevirtual 53, 3) := by decide +kernel
theorem dX10_copy_11 : decode cX10_copy 11 = .ok (.aload_n 0, 1) := by decide +kernel
theorem dX10_copy_12 : decode cX10_copy 12 = .ok (.getfield 21, 3) := by decide +kernel
theorem dX10_copy_15 : decode cX10_copy 15 = .ok (.aload_n 1, 1) := by decide +kernel
theorem dX10_copy_16 : decode cX10_copy 16 = .ok (.getfield 21, 3) := by decide +kernel
theorem dX10_copy_19 : decode cX10_copy 19 = .ok (.invokevirtual 61, 3) := by decide +kernel
theorem dX10_copy_22 : decode cX10_copy 22 = .ok (.aload_n 0, 1) := by decide +kernel
theorem dX10_copy_23 : decode cX10_copy 23 = .ok (.getfield 28, 3) := by decide +kernel
theorem dX10_copy_26 : decode cX10_copy 26 = .ok (.aload_n 1, 1) := by decide +kernel
theorem dX10_copy_27 : decode cX10_copy 27 = .ok (.getfield 28, 3) := by decide +kernel
theorem dX10_copy_30 : decode cX10_copy 30 = .ok (.invokevirtual 63, 3) := by decide +kernel
theorem dX10_copy_33 : decode cX10_copy 33 = .ok (.aload_n 0, 1) := by decide +kernel
theorem dX10_copy_34 : decode cX10_copy 34 = .ok (.aload_n 1, 1) := by decide +kernel
theorem dX10_copy_35 : decode cX10_copy 35 = .ok (.getfield 32, 3) := by decide +kernel
theorem dX10_copy_38 : decode cX10_copy 38 = .ok (.putfield 32, 3) := by decide +kernel
theorem dX10_copy_41 : decode cX10_copy 41 = .ok (.aload_n 0, 1) := by decide +kernel
theorem dX10_copy_42 : decode cX10_copy 42 = .ok (.aload_n 1, 1) := by decide +kernel
theorem dX10_copy_43 : decode cX10_copy 43 = .ok (.getfield 66, 3) := by decide +kernel
theorem dX10_copy_46 : decode cX10_copy 46 = .ok (.putfield 66, 3) := by decide +kernel
theorem dX10_copy_49 : decode cX10_copy 49 = .ok (.aload_n 0, 1) := by decide +kernel
theorem dX10_copy_50 : decode cX10_copy 50 = .ok (.aload_n 1, 1) := by decide +kernel
theorem dX10_copy_51 : decode cX10_copy 51 = .ok (.getfield 58, 3) := by decide +kernel
theorem dX10_copy_54 : decode cX10_copy 54 = .ok (.putfield 58, 3) := by decide +kernel
theorem dX10_copy_57 : decode cX10_copy 57 = .ok (.aload_n 1, 1) := by decide +kernel
theorem dX10_copy_58 : decode cX10_copy 58 = .ok (.getfield 36, 3) := by decide +kernel
theorem dX10_copy_61 : decode cX10_copy 61 = .ok (.iconst 0, 1) := by decide +kernel
theorem dX10_copy_62 : decode cX10_copy 62 = .ok (.aload_n 0, 1) := by decide +kernel
theorem dX10_copy_63 : decode cX10_copy 63 = .ok (.getfield 36, 3) := by decide +kernel
theorem dX10_copy_66 : decode cX10_copy 66 = .ok (.iconst 0, 1) := by decide +kernel
theorem dX10_copy_67 : decode cX10_copy 67 = .ok (.bipush 10, 2) := by decide +kernel
theorem dX10_copy_69 : decode cX10_copy 69 = .ok (.invokestatic 69, 3) := by decide +kernel
theorem dX10_copy_72 : decode cX10_copy 72 = .ok (.aload_n 1, 1) := by decide +kernel
theorem dX10_copy_73 : decode cX10_copy 73 = .ok (.getfield 40, 3) := by decide +kernel
theorem dX10_copy_76 : decode cX10_copy 76 = .ok (.iconst 0, 1) := by decide +kernel
theorem dX10_copy_77 : decode cX10_copy 77 = .ok (.aload_n 0, 1) := by decide +kernel
theorem dX10_copy_78 : decode cX10_copy 78 = .ok (.getfield 40, 3) := by decide +kernel
theorem dX10_copy_81 : decode cX10_copy 81 = .ok (.iconst 0, 1) := by decide +kernel
theorem dX10_copy_82 : decode cX10_copy 82 = .ok (.bipush 10, 2) := by decide +kernel
theorem dX10_copy_84 : decode cX10_copy 84 = .ok (.invokestatic 69, 3) := by decide +kernel
theorem dX10_copy_87 : decode cX10_copy 87 = .ok (.aload_n 1, 1) := by decide +kernel
theorem dX10_copy_88 : decode cX10_copy 88 = .ok (.getfield 43, 3) := by decide +kernel
theorem dX10_copy_91 : decode cX10_copy 91 = .ok (.iconst 0, 1) := by decide +kernel
theorem dX10_copy_92 : decode cX10_copy 92 = .ok (.aload_n 0, 1) := by decide +kernel
theorem dX10_copy_93 : decode cX10_copy 93 = .ok (.getfield 43, 3) := by decide +kernel
theorem dX10_copy_96 : decode cX10_copy 96 = .ok (.iconst 0, 1) := by decide +kernel
theorem dX10_copy_97 : decode cX10_copy 97 = .ok (.bipush 10, 2) := by decide +kernel
theorem dX10_copy_99 : decode cX10_copy 99 = .ok (.invokestatic 69, 3) := by decide +kernel
theorem dX10_copy_102 : decode cX10_copy 102 = .ok (.return_, 1) := by decide +kernel
theorem dX10_canNote_0 : decode cX10_canNote 0 = .ok (.aload_n 0, 1) := by decide +kernel
theorem dX10_canNote_1 : decode cX10_canNote 1 = .ok (.getfield 58, 3) := by decide +kernel
theorem dX10_canNote_4 : decode cX10_canNote 4 = .ok (.bipush 10, 2) := by decide +kernel
theorem dX10_canNote_6 : decode cX10_canNote 6 = .ok (.if_icmp .ge 7, 3) := by decide +kernel
theorem dX10_canNote_9 : decode cX10_canNote 9 = .ok (.iconst 1, 1) := by decide +kernel
theorem dX10_canNote_10 : decode cX10_canNote 10 = .ok (.goto 4, 3) := by decide +kernel
theorem dX10_canNote_13 : decode cX10_canNote 13 = .ok (.iconst 0, 1) := by decide +kernel
theorem dX10_canNote_14 : decode cX10_canNote 14 = .ok (.ireturn, 1) := by decide +kernel
theorem dX10_addNote_0 : decode cX10_addNote 0 = .ok (.aload_n 0, 1) := by decide +kernel
theorem dX10_addNote_1 : decode cX10_addNote 1 = .ok (.invokevirtual 75, 3) := by decide +kernel
theorem dX10_addNote_4 : decode cX10_addNote 4 = .ok (.ifCond .eq 43, 3) := by decide +kernel
theorem dX10_addNote_7 : decode cX10_addNote 7 = .ok (.aload_n 0, 1) := by decide +kernel
theorem dX10_addNote_8 : decode cX10_addNote 8 = .ok (.getfield 36, 3) := by decide +kernel
theorem dX10_addNote_11 : decode cX10_addNote 11 = .ok (.aload_n 0, 1) := by decide +kernel
theorem dX10_addNote_12 : decode cX10_addNote 12 = .ok (.getfield 58, 3) := by decide +kernel
theorem dX10_addNote_15 : decode cX10_addNote 15 = .ok (.iload_n 1, 1) := by decide +kernel
theorem dX10_addNote_16 : decode cX10_addNote 16 = .ok (.iastore, 1) := by decide +kernel
theorem dX10_addNote_17 : decode cX10_addNote 17 = .ok (.aload_n 0, 1) := by decide +kernel
theorem dX10_addNote_18 : decode cX10_addNote 18 = .ok (.getfield 40, 3) := by decide +kernel
theorem dX10_addNote_21 : decode cX10_addNote 21 = .ok (.aload_n 0, 1) := by decide +kernel
theorem dX10_addNote_22 : decode cX10_addNote 22 = .ok (.getfield 58, 3) := by decide +kernel
theorem dX10_addNote_25 : decode cX10_addNote 25 = .ok (.iload_n 2, 1) := by decide +kernel
theorem dX10_addNote_26 : decode cX10_addNote 26 = .ok (.iastore, 1) := by decide +kernel
theorem dX10_addNote_27 : decode cX10_addNote 27 = .ok (.aload_n 0, 1) := by decide +kernel
theorem dX10_addNote_28 : decode cX10_addNote 28 = .ok (.getfield 43, 3) := by decide +kernel
theorem dX10_addNote_31 : decode cX10_addNote 31 = .ok (.aload_n 0, 1) := by decide +kernel
theorem dX10_addNote_32 : decode cX10_addNote 32 = .ok (.getfield 58, 3) := by decide +kernel
theorem dX10_addNote_35 : decode cX10_addNote 35 = .ok (.iload_n 3, 1) := by decide +kernel
theorem dX10_addNote_36 : decode cX10_addNote 36 = .ok (.iastore, 1) := by decide +kernel
theorem dX10_addNote_37 : decode cX10_addNote 37 = .ok (.aload_n 0, 1) := by decide +kernel
theorem dX10_addNote_38 : decode cX10_addNote 38 = .ok (.dup, 1) := by decide +kernel
theorem dX10_addNote_39 : decode cX10_addNote 39 = .ok (.getfield 58, 3) := by decide +kernel
theorem dX10_addNote_42 : decode cX10_addNote 42 = .ok (.iconst 1, 1) := by decide +kernel
theorem dX10_addNote_43 : decode cX10_addNote 43 = .ok (.iadd, 1) := by decide +kernel
theorem dX10_addNote_44 : decode cX10_addNote 44 = .ok (.putfield 58, 3) := by decide +kernel
theorem dX10_addNote_47 : decode cX10_addNote 47 = .ok (.return_, 1) := by decide +kernel
theorem dX10_isAsNoted_0 : decode cX10_isAsNoted 0 = .ok (.iconst 0, 1) := by decide +kernel
theorem dX10_isAsNoted_1 : decode cX10_isAsNoted 1 = .ok (.istore_n 2, 1) := by decide +kernel
theorem dX10_isAsNoted_2 : decode cX10_isAsNoted 2 = .ok (.iload_n 2, 1) := by decide +kernel
theorem dX10_isAsNoted_3 : decode cX10_isAsNoted 3 = .ok (.aload_n 0, 1) := by decide +kernel
theorem dX10_isAsNoted_4 : decode cX10_isAsNoted 4 = .ok (.getfield 58, 3) := by decide +kernel
theorem dX10_isAsNoted_7 : decode cX10_isAsNoted 7 = .ok (.if_icmp .ge 63, 3) := by decide +kernel
theorem dX10_isAsNoted_10 : decode cX10_isAsNoted 10 = .ok (.iload_n 2, 1) := by decide +kernel
theorem dX10_isAsNoted_11 : decode cX10_isAsNoted 11 = .ok (.bipush 10, 2) := by decide +kernel
theorem dX10_isAsNoted_13 : decode cX10_isAsNoted 13 = .ok (.if_icmp .ge 57, 3) := by decide +kernel
theorem dX10_isAsNoted_16 : decode cX10_isAsNoted 16 = .ok (.aload_n 0, 1) := by decide +kernel
theorem dX10_isAsNoted_17 : decode cX10_isAsNoted 17 = .ok (.getfield 40, 3) := by decide +kernel
theorem dX10_isAsNoted_20 : decode cX10_isAsNoted 20 = .ok (.iload_n 2, 1) := by decide +kernel
theorem dX10_isAsNoted_21 : decode cX10_isAsNoted 21 = .ok (.iaload, 1) := by decide +kernel
theorem dX10_isAsNoted_22 : decode cX10_isAsNoted 22 = .ok (.istore_n 3, 1) := by decide +kernel
theorem dX10_isAsNoted_23 : decode cX10_isAsNoted 23 = .ok (.aload_n 0, 1) := by decide +kernel
theorem dX10_isAsNoted_24 : decode cX10_isAsNoted 24 = .ok (.getfield 36, 3) := by decide +kernel
theorem dX10_isAsNoted_27 : decode cX10_isAsNoted 27 = .ok (.iload_n 2, 1) := by decide +kernel
theorem dX10_isAsNoted_28 : decode cX10_isAsNoted 28 = .ok (.iaload, 1) := by decide +kernel
theorem dX10_isAsNoted_29 : decode cX10_isAsNoted 29 = .ok (.aload_n 1, 1) := by decide +kernel
theorem dX10_isAsNoted_30 : decode cX10_isAsNoted 30 = .ok (.getfield 79, 3) := by decide +kernel
theorem dX10_isAsNoted_33 : decode cX10_isAsNoted 33 = .ok (.if_icmp .ne 31, 3) := by decide +kernel
theorem dX10_isAsNoted_36 : decode cX10_isAsNoted 36 = .ok (.aload_n 0, 1) := by decide +kernel
theorem dX10_isAsNoted_37 : decode cX10_isAsNoted 37 = .ok (.getfield 12, 3) := by decide +kernel
theorem dX10_isAsNoted_40 : decode cX10_isAsNoted 40 = .ok (.iload_n 3, 1) := by decide +kernel
theorem dX10_isAsNoted_41 : decode cX10_isAsNoted 41 = .ok (.invokevirtual 82, 3) := by decide +kernel
theorem dX10_isAsNoted_44 : decode cX10_isAsNoted 44 = .ok (.ifCond .eq 20, 3) := by decide +kernel
theorem dX10_isAsNoted_47 : decode cX10_isAsNoted 47 = .ok (.aload_n 1, 1) := by decide +kernel
theorem dX10_isAsNoted_48 : decode cX10_isAsNoted 48 = .ok (.getfield 86, 3) := by decide +kernel
theorem dX10_isAsNoted_51 : decode cX10_isAsNoted 51 = .ok (.iload_n 3, 1) := by decide +kernel
theorem dX10_isAsNoted_52 : decode cX10_isAsNoted 52 = .ok (.iaload, 1) := by decide +kernel
theorem dX10_isAsNoted_53 : decode cX10_isAsNoted 53 = .ok (.aload_n 0, 1) := by decide +kernel
theorem dX10_isAsNoted_54 : decode cX10_isAsNoted 54 = .ok (.getfield 43, 3) := by decide +kernel
theorem dX10_isAsNoted_57 : decode cX10_isAsNoted 57 = .ok (.iload_n 2, 1) := by decide +kernel
theorem dX10_isAsNoted_58 : decode cX10_isAsNoted 58 = .ok (.iaload, 1) := by decide +kernel
theorem dX10_isAsNoted_59 : decode cX10_isAsNoted 59 = .ok (.if_icmp .eq 5, 3) := by decide +kernel
theorem dX10_isAsNoted_62 : decode cX10_isAsNoted 62 = .ok (.iconst 0, 1) := by decide +kernel
theorem dX10_isAsNoted_63 : decode cX10_isAsNoted 63 = .ok (.ireturn, 1) := by decide +kernel
theorem dX10_isAsNoted_64 : decode cX10_isAsNoted 64 = .ok (.iinc 2 1, 3) := by decide +kernel
theorem dX10_isAsNoted_67 : decode cX10_isAsNoted 67 = .ok (.goto (-65), 3) := by decide +kernel
theorem dX10_isAsNoted_70 : decode cX10_isAsNoted 70 = .ok (.iconst 1, 1) := by decide +kernel
theorem dX10_isAsNoted_71 : decode cX10_isAsNoted 71 = .ok (.ireturn, 1) := by decide +kernel
theorem dX11_init_0 : decode cX11_init 0 = .ok (.aload_n 0, 1) := by decide +kernel
theorem dX11_init_1 : decode cX11_init 1 = .ok (.invokespecial 1, 3) := by decide +kernel
theorem dX11_init_4 : decode cX11_init 4 = .ok (.aload_n 0, 1) := by decide +kernel
theorem dX11_init_5 : decode cX11_init 5 = .ok (.new 7, 3) := by decide +kernel
theorem dX11_init_8 : decode cX11_init 8 = .ok (.dup, 1) := by decide +kernel
theorem dX11_init_9 : decode cX11_init 9 = .ok (.invokespecial 9, 3) := by decide +kernel
theorem dX11_init_12 : decode cX11_init 12 = .ok (.putfield 10, 3) := by decide +kernel
theorem dX11_init_15 : decode cX11_init 15 = .ok (.aload_n 0, 1) := by decide +kernel
theorem dX11_init_16 : decode cX11_init 16 = .ok (.new 16, 3) := by decide +kernel
theorem dX11_init_19 : decode cX11_init 19 = .ok (.dup, 1) := by decide +kernel
theorem dX11_init_20 : decode cX11_init 20 = .ok (.aload_n 0, 1) := by decide +kernel
theorem dX11_init_21 : decode cX11_init 21 = .ok (.getfield 10, 3) := by decide +kernel
theorem dX11_init_24 : decode cX11_init 24 = .ok (.invokespecial 18, 3) := by decide +kernel
theorem dX11_init_27 : decode cX11_init 27 = .ok (.putfield 21, 3) := by decide +kernel
theorem dX11_init_30 : decode cX11_init 30 = .ok (.aload_n 0, 1) := by decide +kernel
theorem dX11_init_31 : decode cX11_init 31 = .ok (.new 25, 3) := by decide +kernel
theorem dX11_init_34 : decode cX11_init 34 = .ok (.dup, 1) := by decide +kernel
theorem dX11_init_35 : decode cX11_init 35 = .ok (.aload_n 0, 1) := by decide +kernel
theorem dX11_init_36 : decode cX11_init 36 = .ok (.getfield 10, 3) := by decide +kernel
theorem dX11_init_39 : decode cX11_init 39 = .ok (.invokespecial 27, 3) := by decide +kernel
theorem dX11_init_42 : decode cX11_init 42 = .ok (.putfield 28, 3) := by decide +kernel
theorem dX11_init_45 : decode cX11_init 45 = .ok (.aload_n 0, 1) := by decide +kernel
theorem dX11_init_46 : decode cX11_init 46 = .ok (.bipush 6, 2) := by decide +kernel
theorem dX11_init_48 : decode cX11_init 48 = .ok (.anewarray 32, 3) := by decide +kernel
theorem dX11_init_51 : decode cX11_init 51 = .ok (.putfield 34, 3) := by decide +kernel
theorem dX11_init_54 : decode cX11_init 54 = .ok (.iconst 0, 1) := by decide +kernel
theorem dX11_init_55 : decode cX11_init 55 = .ok (.istore_n 1, 1) := by decide +kernel
theorem dX11_init_56 : decode cX11_init 56 = .ok (.iload_n 1, 1) := by decide +kernel
theorem dX11_init_57 : decode cX11_init 57 = .ok (.bipush 6, 2) := by decide +kernel
theorem dX11_init_59 : decode cX11_init 59 = .ok (.if_icmp .ge 22, 3) := by decide +kernel
theorem dX11_init_62 : decode cX11_init 62 = .ok (.aload_n 0, 1) := by decide +kernel
theorem dX11_init_63 : decode cX11_init 63 = .ok (.getfield 34, 3) := by decide +kernel
theorem dX11_init_66 : decode cX11_init 66 = .ok (.iload_n 1, 1) := by decide +kernel
theorem dX11_init_67 : decode cX11_init 67 = .ok (.new 32, 3) := by decide +kernel
theorem dX11_init_70 : decode cX11_init 70 = .ok (.dup, 1) := by decide +kernel
theorem dX11_init_71 : decode cX11_init 71 = .ok (.invokespecial 38, 3) := by decide +kernel
theorem dX11_init_74 : decode cX11_init 74 = .ok (.aastore, 1) := by decide +kernel
theorem dX11_init_75 : decode cX11_init 75 = .ok (.iinc 1 1, 3) := by decide +kernel
theorem dX11_init_78 : decode cX11_init 78 = .ok (.goto (-22), 3) := by decide +kernel
theorem dX11_init_81 : decode cX11_init 81 = .ok (.aload_n 0, 1) := by decide +kernel
theorem dX11_init_82 : decode cX11_init 82 = .ok (.new 39, 3) := by decide +kernel
theorem dX11_init_85 : decode cX11_init 85 = .ok (.dup, 1) := by decide +kernel
theorem dX11_init_86 : decode cX11_init 86 = .ok (.invokespecial 41, 3) := by decide +kernel
theorem dX11_init_89 : decode cX11_init 89 = .ok (.putfield 42, 3) := by decide +kernel
theorem dX11_init_92 : decode cX11_init 92 = .ok (.aload_n 0, 1) := by decide +kernel
theorem dX11_init_93 : decode cX11_init 93 = .ok (.iconst 4, 1) := by decide +kernel
theorem dX11_init_94 : decode cX11_init 94 = .ok (.anewarray 39, 3) := by decide +kernel
theorem dX11_init_97 : decode cX11_init 97 = .ok (.putfield 46, 3) := by decide +kernel
theorem dX11_init_100 : decode cX11_init 100 = .ok (.iconst 0, 1) := by decide +kernel
theorem dX11_init_101 : decode cX11_init 101 = .ok (.istore_n 1, 1) := by decide +kernel
theorem dX11_init_102 : decode cX11_init 102 = .ok (.iload_n 1, 1) := by decide +kernel
theorem dX11_init_103 : decode cX11_init 103 = .ok (.iconst 4, 1) := by decide +kernel
theorem dX11_init_104 : decode cX11_init 104 = .ok (.if_icmp .ge 22, 3) := by decide +kernel
theorem dX11_init_107 : decode cX11_init 107 = .ok (.aload_n 0, 1) := by decide +kernel
theorem dX11_init_108 : decode cX11_init 108 = .ok (.getfield 46, 3) := by decide +kernel
theorem dX11_init_111 : decode cX11_init 111 = .ok (.iload_n 1, 1) := by decide +kernel
theorem dX11_init_112 : decode cX11_init 112 = .ok (.new 39, 3) := by decide +kernel
theorem dX11_init_115 : decode cX11_init 115 = .ok (.dup, 1) := by decide +kernel
theorem dX11_init_116 : decode cX11_init 116 = .ok (.invokespecial 41, 3) := by decide +kernel
theorem dX11_init_119 : decode cX11_init 119 = .ok (.aastore, 1) := by decide +kernel
theorem dX11_init_120 : decode cX11_init 120 = .ok (.iinc 1 1, 3) := by decide +kernel
theorem dX11_init_123 : decode cX11_init 123 = .ok (.goto (-21), 3) := by decide +kernel
theorem dX11_init_126 : decode cX11_init 126 = .ok (.aload_n 0, 1) := by decide +kernel
theorem dX11_init_127 : decode cX11_init 127 = .ok (.iconst 4, 1) := by decide +kernel
theorem dX11_init_128 : decode cX11_init 128 = .ok (.newarray .boolean, 2) := by decide +kernel
theorem dX11_init_130 : decode cX11_init 130 = .ok (.putfield 50, 3) := by decide +kernel
theorem dX11_init_133 : decode cX11_init 133 = .ok (.aload_n 0, 1) := by decide +kernel
theorem dX11_init_134 : decode cX11_init 134 = .ok (.new 54, 3) := by decide +kernel
theorem dX11_init_137 : decode cX11_init 137 = .ok (.dup, 1) := by decide +kernel
theorem dX11_init_138 : decode cX11_init 138 = .ok (.aload_n 0, 1) := by decide +kernel
theorem dX11_init_139 : decode cX11_init 139 = .ok (.getfield 42, 3) := by decide +kernel
theorem dX11_init_142 : decode cX11_init 142 = .ok (.getfield 56, 3) := by decide +kernel
theorem dX11_init_145 : decode cX11_init 145 = .ok (.invokespecial 60, 3) := by decide +kernel
theorem dX11_init_148 : decode cX11_init 148 = .ok (.putfield 63, 3) := by decide +kernel
theorem dX11_init_151 : decode cX11_init 151 = .ok (.aload_n 0, 1) := by decide +kernel
theorem dX11_init_152 : decode cX11_init 152 = .ok (.new 67, 3) := by decide +kernel
theorem dX11_init_155 : decode cX11_init 155 = .ok (.dup, 1) := by decide +kernel
theorem dX11_init_156 : decode cX11_init 156 = .ok (.aload_n 0, 1) := by decide +kernel
theorem dX11_init_157 : decode cX11_init 157 = .ok (.getfield 42, 3) := by decide +kernel
theorem dX11_init_160 : decode cX11_init 160 = .ok (.getfield 56, 3) := by decide +kernel
theorem dX11_init_163 : decode cX11_init 163 = .ok (.aload_n 0, 1) := by decide +kernel
theorem dX11_init_164 : decode cX11_init 164 = .ok (.getfield 42, 3) := by decide +kernel
theorem dX11_init_167 : decode cX11_init 167 = .ok (.getfield 69, 3) := by decide +kernel
theorem dX11_init_170 : decode cX11_init 170 = .ok (.invokespecial 73, 3) := by decide +kernel
theorem dX11_init_173 : decode cX11_init 173 = .ok (.putfield 76, 3) := by decide +kernel
theorem dX11_init_176 : decode cX11_init 176 = .ok (.aload_n 0, 1) := by decide +kernel
theorem dX11_init_177 : decode cX11_init 177 = .ok (.new 80, 3) := by decide +kernel
theorem dX11_init_180 : decode cX11_init 180 = .ok (.dup, 1) := by decide +kernel
theorem dX11_init_181 : decode cX11_init 181 = .ok (.aload_n 0, 1) := by decide +kernel
theorem dX11_init_182 : decode cX11_init 182 = .ok (.getfield 42, 3) := by decide +kernel
theorem dX11_init_185 : decode cX11_init 185 = .ok (.getfield 56, 3) := by decide +kernel
theorem dX11_init_188 : decode cX11_init 188 = .ok (.aload_n 0, 1) := by decide +kernel
theorem dX11_init_189 : decode cX11_init 189 = .ok (.getfield 42, 3) := by decide +kernel
theorem dX11_init_192 : decode cX11_init 192 = .ok (.getfield 69, 3) := by decide +kernel
theorem dX11_init_195 : decode cX11_init 195 = .ok (.invokespecial 82, 3) := by decide +kernel
theorem dX11_init_198 : decode cX11_init 198 = .ok (.putfield 83, 3) := by decide +kernel
theorem dX11_init_201 : decode cX11_init 201 = .ok (.aload_n 0, 1) := by decide +kernel
theorem dX11_init_202 : decode cX11_init 202 = .ok (.new 87, 3) := by decide +kernel
theorem dX11_init_205 : decode cX11_init 205 = .ok (.dup, 1) := by decide +kernel
theorem dX11_init_206 : decode cX11_init 206 = .ok (.invokespecial 89, 3) := by decide +kernel
theorem dX11_init_209 : decode cX11_init 209 = .ok (.putfield 90, 3) := by decide +kernel
theorem dX11_init_212 : decode cX11_init 212 = .ok (.aload_n 0, 1) := by decide +kernel
theorem dX11_init_213 : decode cX11_init 213 = .ok (.bipush 7, 2) := by decide +kernel
theorem dX11_init_215 : decode cX11_init 215 = .ok (.iconst 4, 1) := by decide +kernel
theorem dX11_init_216 : decode cX11_init 216 = .ok (.multianewarray 93 2, 4) := by decide +kernel
theorem dX11_init_220 : decode cX11_init 220 = .ok (.putfield 95, 3) := by decide +kernel
theorem dX11_init_223 : decode cX11_init 223 = .ok (.return_, 1) := by decide +kernel
theorem dX11_feed_0 : decode cX11_feed 0 = .ok (.aload_n 0, 1) := by decide +kernel
theorem dX11_feed_1 : decode cX11_feed 1 = .ok (.getfield 10, 3) := by decide +kernel
theorem dX11_feed_4 : decode cX11_feed 4 = .ok (.bipush 20, 2) := by decide +kernel
theorem dX11_feed_6 : decode cX11_feed 6 = .ok (.invokevirtual 98, 3) := by decide +kernel
theorem dX11_feed_9 : decode cX11_feed 9 = .ok (.ifCond .ne 5, 3) := by decide +kernel
theorem dX11_feed_12 : decode cX11_feed 12 = .ok (.iconst (-1), 1) := by decide +kernel
theorem dX11_feed_13 : decode cX11_feed 13 = .ok (.ireturn, 1) := by decide +kernel
theorem dX11_feed_14 : decode cX11_feed 14 = .ok (.aload_n 0, 1) := by decide +kernel
theorem dX11_feed_15 : decode cX11_feed 15 = .ok (.getfield 10, 3) := by decide +kernel
theorem dX11_feed_18 : decode cX11_feed 18 = .ok (.iload_n 1, 1) := by decide +kernel
theorem dX11_feed_19 : decode cX11_feed 19 = .ok (.invokevirtual 102, 3) := by decide +kernel
theorem dX11_feed_22 : decode cX11_feed 22 = .ok (.aload_n 0, 1) := by decide +kernel
theorem dX11_feed_23 : decode cX11_feed 23 = .ok (.getfield 10, 3) := by decide +kernel
theorem dX11_feed_26 : decode cX11_feed 26 = .ok (.iload_n 2, 1) := by decide +kernel
theorem dX11_feed_27 : decode cX11_feed 27 = .ok (.invokevirtual 102, 3) := by decide +kernel
theorem dX11_feed_30 : decode cX11_feed 30 = .ok (.aload_n 0, 1) := by decide +kernel
theorem dX11_feed_31 : decode cX11_feed 31 = .ok (.getfield 10, 3) := by decide +kernel
theorem dX11_feed_34 : decode cX11_feed 34 = .ok (.iload_n 3, 1) := by decide +kernel
theorem dX11_feed_35 : decode cX11_feed 35 = .ok (.invokevirtual 102, 3) := by decide +kernel
theorem dX11_feed_38 : decode cX11_feed 38 = .ok (.aload_n 0, 1) := by decide +kernel
theorem dX11_feed_39 : decode cX11_feed 39 = .ok (.getfield 10, 3) := by decide +kernel
theorem dX11_feed_42 : decode cX11_feed 42 = .ok (.iload 4, 2) := by decide +kernel
theorem dX11_feed_44 : decode cX11_feed 44 = .ok (.invokevirtual 102, 3) := by decide +kernel
theorem dX11_feed_47 : decode cX11_feed 47 = .ok (.aload_n 0, 1) := by decide +kernel
theorem dX11_feed_48 : decode cX11_feed 48 = .ok (.getfield 10, 3) := by decide +kernel
theorem dX11_feed_51 : decode cX11_feed 51 = .ok (.iload 5, 2) := by decide +kernel
theorem dX11_feed_53 : decode cX11_feed 53 = .ok (.invokevirtual 102, 3) := by decide +kernel
theorem dX11_feed_56 : decode cX11_feed 56 = .ok (.aload_n 0, 1) := by decide +kernel
theorem dX11_feed_57 : decode cX11_feed 57 = .ok (.getfield 10, 3) := by decide +kernel
theorem dX11_feed_60 : decode cX11_feed 60 = .ok (.getfield 106, 3) := by decide +kernel
theorem dX11_feed_63 : decode cX11_feed 63 = .ok (.ireturn, 1) := by decide +kernel
theorem dX11_end_0 : decode cX11_end 0 = .ok (.iload_n 1, 1) := by decide +kernel
theorem dX11_end_1 : decode cX11_end 1 = .ok (.ifCond .lt 14, 3) := by decide +kernel
theorem dX11_end_4 : decode cX11_end 4 = .ok (.iload_n 1, 1) := by decide +kernel
theorem dX11_end_5 : decode cX11_end 5 = .ok (.aload_n 0, 1) := by decide +kernel
theorem dX11_end_6 : decode cX11_end 6 = .ok (.getfield 10, 3) := by decide +kernel
theorem dX11_end_9 : decode cX11_end 9 = .ok (.getfield 106, 3) := by decide +kernel
theorem dX11_end_12 : decode cX11_end 12 = .ok (.if_icmp .le 5, 3) := by decide +kernel
theorem dX11_end_15 : decode cX11_end 15 = .ok (.iconst (-1), 1) := by decide +kernel
theorem dX11_end_16 : decode cX11_end 16 = .ok (.ireturn, 1) := by decide +kernel
theorem dX11_end_17 : decode cX11_end 17 = .ok (.aload_n 0, 1) := by decide +kernel
theorem dX11_end_18 : decode cX11_end 18 = .ok (.getfield 10, 3) := by decide +kernel
theorem dX11_end_21 : decode cX11_end 21 = .ok (.iload_n 1, 1) := by decide +kernel
theorem dX11_end_22 : decode cX11_end 22 = .ok (.putfield 106, 3) := by decide +kernel
theorem dX11_end_25 : decode cX11_end 25 = .ok (.iload_n 1, 1) := by decide +kernel
theorem dX11_end_26 : decode cX11_end 26 = .ok (.ireturn, 1) := by decide +kernel
theorem dX11_road_0 : decode cX11_road 0 = .ok (.aload_n 0, 1) := by decide +kernel
theorem dX11_road_1 : decode cX11_road 1 = .ok (.getfield 21, 3) := by decide +kernel
theorem dX11_road_4 : decode cX11_road 4 = .ok (.invokevirtual 110, 3) := by decide +kernel
theorem dX11_road_7 : decode cX11_road 7 = .ok (.istore_n 1, 1) := by decide +kernel
theorem dX11_road_8 : decode cX11_road 8 = .ok (.aload_n 0, 1) := by decide +kernel
theorem dX11_road_9 : decode cX11_road 9 = .ok (.getfield 10, 3) := by decide +kernel
theorem dX11_road_12 : decode cX11_road 12 = .ok (.iconst 0, 1) := by decide +kernel
theorem dX11_road_13 : decode cX11_road 13 = .ok (.putfield 106, 3) := by decide +kernel
theorem dX11_road_16 : decode cX11_road 16 = .ok (.iload_n 1, 1) := by decide +kernel
theorem dX11_road_17 : decode cX11_road 17 = .ok (.ifCond .ne 14, 3) := by decide +kernel
theorem dX11_road_20 : decode cX11_road 20 = .ok (.bipush (-2), 2) := by decide +kernel
theorem dX11_road_22 : decode cX11_road 22 = .ok (.aload_n 0, 1) := by decide +kernel
theorem dX11_road_23 : decode cX11_road 23 = .ok (.getfield 10, 3) := by decide +kernel
theorem dX11_road_26 : decode cX11_road 26 = .ok (.getfield 114, 3) := by decide +kernel
theorem dX11_road_29 : decode cX11_road 29 = .ok (.isub, 1) := by decide +kernel
theorem dX11_road_30 : decode cX11_road 30 = .ok (.ireturn, 1) := by decide +kernel
theorem dX11_road_31 : decode cX11_road 31 = .ok (.aload_n 0, 1) := by decide +kernel
theorem dX11_road_32 : decode cX11_road 32 = .ok (.getfield 42, 3) := by decide +kernel
theorem dX11_road_35 : decode cX11_road 35 = .ok (.aload_n 0, 1) := by decide +kernel
theorem dX11_road_36 : decode cX11_road 36 = .ok (.getfield 21, 3) := by decide +kernel
theorem dX11_road_39 : decode cX11_road 39 = .ok (.getfield 117, 3) := by decide +kernel
theorem dX11_road_42 : decode cX11_road 42 = .ok (.invokevirtual 118, 3) := by decide +kernel
theorem dX11_road_45 : decode cX11_road 45 = .ok (.aload_n 0, 1) := by decide +kernel
theorem dX11_road_46 : decode cX11_road 46 = .ok (.getfield 42, 3) := by decide +kernel
theorem dX11_road_49 : decode cX11_road 49 = .ok (.getfield 56, 3) := by decide +kernel
theorem dX11_road_52 : decode cX11_road 52 = .ok (.getfield 121, 3) := by decide +kernel
theorem dX11_road_55 : decode cX11_road 55 = .ok (.ireturn, 1) := by decide +kernel
theorem dX11_rule_0 : decode cX11_rule 0 = .ok (.aload_n 0, 1) := by decide +kernel
theorem dX11_rule_1 : decode cX11_rule 1 = .ok (.getfield 126, 3) := by decide +kernel
theorem dX11_rule_4 : decode cX11_rule 4 = .ok (.bipush 6, 2) := by decide +kernel
theorem dX11_rule_6 : decode cX11_rule 6 = .ok (.if_icmp .lt 5, 3) := by decide +kernel
theorem dX11_rule_9 : decode cX11_rule 9 = .ok (.iconst (-1), 1) := by decide +kernel
theorem dX11_rule_10 : decode cX11_rule 10 = .ok (.ireturn, 1) := by decide +kernel
theorem dX11_rule_11 : decode cX11_rule 11 = .ok (.aload_n 0, 1) := by decide +kernel
theorem dX11_rule_12 : decode cX11_rule 12 = .ok (.getfield 28, 3) := by decide +kernel
theorem dX11_rule_15 : decode cX11_rule 15 = .ok (.aload_n 0, 1) := by decide +kernel
theorem dX11_rule_16 : decode cX11_rule 16 = .ok (.getfield 34, 3) := by decide +kernel
theorem dX11_rule_19 : decode cX11_rule 19 = .ok (.aload_n 0, 1) := by decide +kernel
theorem dX11_rule_20 : decode cX11_rule 20 = .ok (.getfield 126, 3) := by decide +kernel
theorem dX11_rule_23 : decode cX11_rule 23 = .ok (.aaload, 1) := by decide +kernel
theorem dX11_rule_24 : decode cX11_rule 24 = .ok (.invokevirtual 129, 3) := by decide +kernel
theorem dX11_rule_27 : decode cX11_rule 27 = .ok (.istore_n 1, 1) := by decide +kernel
theorem dX11_rule_28 : decode cX11_rule 28 = .ok (.aload_n 0, 1) := by decide +kernel
theorem dX11_rule_29 : decode cX11_rule 29 = .ok (.getfield 10, 3) := by decide +kernel
theorem dX11_rule_32 : decode cX11_rule 32 = .ok (.iconst 0, 1) := by decide +kernel
theorem dX11_rule_33 : decode cX11_rule 33 = .ok (.putfield 106, 3) := by decide +kernel
theorem dX11_rule_36 : decode cX11_rule 36 = .ok (.iload_n 1, 1) := by decide +kernel
theorem dX11_rule_37 : decode cX11_rule 37 = .ok (.ifCond .ne 14, 3) := by decide +kernel
theorem dX11_rule_40 : decode cX11_rule 40 = .ok (.bipush (-2), 2) := by decide +kernel
theorem dX11_rule_42 : decode cX11_rule 42 = .ok (.aload_n 0, 1) := by decide +kernel
theorem dX11_rule_43 : decode cX11_rule 43 = .ok (.getfield 10, 3) := by decide +kernel
theorem dX11_rule_46 : decode cX11_rule 46 = .ok (.getfield 114, 3) := by decide +kernel
theorem dX11_rule_49 : decode cX11_rule 49 = .ok (.isub, 1) := by decide +kernel
theorem dX11_rule_50 : decode cX11_rule 50 = .ok (.ireturn, 1) := by decide +kernel
theorem dX11_rule_51 : decode cX11_rule 51 = .ok (.aload_n 0, 1) := by decide +kernel
theorem dX11_rule_52 : decode cX11_rule 52 = .ok (.dup, 1) := by decide +kernel
theorem dX11_rule_53 : decode cX11_rule 53 = .ok (.getfield 126, 3) := by decide +kernel
theorem dX11_rule_56 : decode cX11_rule 56 = .ok (.iconst 1, 1) := by decide +kernel
theorem dX11_rule_57 : decode cX11_rule 57 = .ok (.iadd, 1) := by decide +kernel
theorem dX11_rule_58 : decode cX11_rule 58 = .ok (.putfield 126, 3) := by decide +kernel
theorem dX11_rule_61 : decode cX11_rule 61 = .ok (.aload_n 0, 1) := by decide +kernel
theorem dX11_rule_62 : decode cX11_rule 62 = .ok (.getfield 126, 3) := by decide +kernel
theorem dX11_rule_65 : decode cX11_rule 65 = .ok (.iconst 1, 1) := by decide +kernel
theorem dX11_rule_66 : decode cX11_rule 66 = .ok (.isub, 1) := by decide +kernel
theorem dX11_rule_67 : decode cX11_rule 67 = .ok (.ireturn, 1) := by decide +kernel
theorem dX11_force_0 : decode cX11_force 0 = .ok (.iload_n 1, 1) := by decide +kernel
theorem dX11_force_1 : decode cX11_force 1 = .ok (.iconst (-1), 1) := by decide +kernel
theorem dX11_force_2 : decode cX11_force 2 = .ok (.if_icmp .lt 11, 3) := by decide +kernel
theorem dX11_force_5 : decode cX11_force 5 = .ok (.iload_n 1, 1) := by decide +kernel
theorem dX11_force_6 : decode cX11_force 6 = .ok (.aload_n 0, 1) := by decide +kernel
theorem dX11_force_7 : decode cX11_force 7 = .ok (.getfield 126, 3) := by decide +kernel
theorem dX11_force_10 : decode cX11_force 10 = .ok (.if_icmp .lt 6, 3) := by decide +kernel
theorem dX11_force_13 : decode cX11_force 13 = .ok (.bipush (-2), 2) := by decide +kernel
theorem dX11_force_15 : decode cX11_force 15 = .ok (.ireturn, 1) := by decide +kernel
theorem dX11_force_16 : decode cX11_force 16 = .ok (.aload_n 0, 1) := by decide +kernel
theorem dX11_force_17 : decode cX11_force 17 = .ok (.getfield 42, 3) := by decide +kernel
theorem dX11_force_20 : decode cX11_force 20 = .ok (.getfield 132, 3) := by decide +kernel
theorem dX11_force_23 : decode cX11_force 23 = .ok (.istore_n 2, 1) := by decide +kernel
theorem dX11_force_24 : decode cX11_force 24 = .ok (.aload_n 0, 1) := by decide +kernel
theorem dX11_force_25 : decode cX11_force 25 = .ok (.getfield 42, 3) := by decide +kernel
theorem dX11_force_28 : decode cX11_force 28 = .ok (.iload_n 1, 1) := by decide +kernel
theorem dX11_force_29 : decode cX11_force 29 = .ok (.putfield 132, 3) := by decide +kernel
theorem dX11_force_32 : decode cX11_force 32 = .ok (.iload_n 2, 1) := by decide +kernel
theorem dX11_force_33 : decode cX11_force 33 = .ok (.ireturn, 1) := by decide +kernel
theorem dX11_person_0 : decode cX11_person 0 = .ok (.aload_n 0, 1) := by decide +kernel
theorem dX11_person_1 : decode cX11_person 1 = .ok (.getfield 42, 3) := by decide +kernel
theorem dX11_person_4 : decode cX11_person 4 = .ok (.getfield 56, 3) := by decide +kernel
theorem dX11_person_7 : decode cX11_person 7 = .ok (.iload_n 1, 1) := by decide +kernel
theorem dX11_person_8 : decode cX11_person 8 = .ok (.invokevirtual 135, 3) := by decide +kernel
theorem dX11_person_11 : decode cX11_person 11 = .ok (.ifCond .ne 5, 3) := by decide +kernel
theorem dX11_person_14 : decode cX11_person 14 = .ok (.iconst (-1), 1) := by decide +kernel
theorem dX11_person_15 : decode cX11_person 15 = .ok (.ireturn, 1) := by decide +kernel
theorem dX11_person_16 : decode cX11_person 16 = .ok (.aload_n 0, 1) := by decide +kernel
theorem dX11_person_17 : decode cX11_person 17 = .ok (.getfield 42, 3) := by decide +kernel
theorem dX11_person_20 : decode cX11_person 20 = .ok (.getfield 69, 3) := by decide +kernel
theorem dX11_person_23 : decode cX11_person 23 = .ok (.iload_n 1, 1) := by decide +kernel
theorem dX11_person_24 : decode cX11_person 24 = .ok (.invokevirtual 138, 3) := by decide +kernel
theorem dX11_person_27 : decode cX11_person 27 = .ok (.istore_n 3, 1) := by decide +kernel
theorem dX11_person_28 : decode cX11_person 28 = .ok (.iload_n 2, 1) := by decide +kernel
theorem dX11_person_29 : decode cX11_person 29 = .ok (.tableswitch 104 0 5 #[39, 52, 65, 78, 80, 92], 39) := by decide +kernel
theorem dX11_person_68 : decode cX11_person 68 = .ok (.aload_n 0, 1) := by decide +kernel
theorem dX11_person_69 : decode cX11_person 69 = .ok (.getfield 42, 3) := by decide +kernel
theorem dX11_person_72 : decode cX11_person 72 = .ok (.getfield 56, 3) := by decide +kernel
theorem dX11_person_75 : decode cX11_person 75 = .ok (.getfield 142, 3) := by decide +kernel
theorem dX11_person_78 : decode cX11_person 78 = .ok (.iload_n 1, 1) := by decide +kernel
theorem dX11_person_79 : decode cX11_person 79 = .ok (.iaload, 1) := by decide +kernel
theorem dX11_person_80 : decode cX11_person 80 = .ok (.ireturn, 1) := by decide +kernel
theorem dX11_person_81 : decode cX11_person 81 = .ok (.aload_n 0, 1) := by decide +kernel
theorem dX11_person_82 : decode cX11_person 82 = .ok (.getfield 42, 3) := by decide +kernel
theorem dX11_person_85 : decode cX11_person 85 = .ok (.getfield 69, 3) := by decide +kernel
theorem dX11_person_88 : decode cX11_person 88 = .ok (.getfield 146, 3) := by decide +kernel
theorem dX11_person_91 : decode cX11_person 91 = .ok (.iload_n 1, 1) := by decide +kernel
theorem dX11_person_92 : decode cX11_person 92 = .ok (.iaload, 1) := by decide +kernel
theorem dX11_person_93 : decode cX11_person 93 = .ok (.ireturn, 1) := by decide +kernel
theorem dX11_person_94 : decode cX11_person 94 = .ok (.aload_n 0, 1) := by decide +kernel
theorem dX11_person_95 : decode cX11_person 95 = .ok (.getfield 42, 3) := by decide +kernel
theorem dX11_person_98 : decode cX11_person 98 = .ok (.getfield 69, 3) := by decide +kernel
theorem dX11_person_101 : decode cX11_person 101 = .ok (.getfield 149, 3) := by decide +kernel
theorem dX11_person_104 : decode cX11_person 104 = .ok (.iload_n 1, 1) := by decide +kernel
theorem dX11_person_105 : decode cX11_person 105 = .ok (.iaload, 1) := by decide +kernel
theorem dX11_person_106 : decode cX11_person 106 = .ok (.ireturn, 1) := by decide +kernel
theorem dX11_person_107 : decode cX11_person 107 = .ok (.iload_n 3, 1) := by decide +kernel
theorem dX11_person_108 : decode cX11_person 108 = .ok (.ireturn, 1) := by decide +kernel
theorem dX11_person_109 : decode cX11_person 109 = .ok (.aload_n 0, 1) := by decide +kernel
theorem dX11_person_110 : decode cX11_person 110 = .ok (.getfield 42, 3) := by decide +kernel
theorem dX11_person_113 : decode cX11_person 113 = .ok (.getfield 56, 3) := by decide +kernel
theorem dX11_person_116 : decode cX11_person 116 = .ok (.iload_n 3, 1) := by decide +kernel
theorem dX11_person_117 : decode cX11_person 117 = .ok (.invokevirtual 152, 3) := by decide +kernel
theorem dX11_person_120 : decode cX11_person 120 = .ok (.ireturn, 1) := by decide +kernel
theorem dX11_person_121 : decode cX11_person 121 = .ok (.aload_n 0, 1) := by decide +kernel
theorem dX11_person_122 : decode cX11_person 122 = .ok (.getfield 42, 3) := by decide +kernel
theorem dX11_person_125 : decode cX11_person 125 = .ok (.getfield 56, 3) := by decide +kernel
theorem dX11_person_128 : decode cX11_person 128 = .ok (.iload_n 3, 1) := by decide +kernel
theorem dX11_person_129 : decode cX11_person 129 = .ok (.invokevirtual 155, 3) := by decide +kernel
theorem dX11_person_132 : decode cX11_person 132 = .ok (.ireturn, 1) := by decide +kernel
theorem dX11_person_133 : decode cX11_person 133 = .ok (.iconst (-1), 1) := by decide +kernel
theorem dX11_person_134 : decode cX11_person 134 = .ok (.ireturn, 1) := by decide +kernel
theorem dX11_thing_0 : decode cX11_thing 0 = .ok (.aload_n 0, 1) := by decide +kernel
theorem dX11_thing_1 : decode cX11_thing 1 = .ok (.getfield 42, 3) := by decide +kernel
theorem dX11_thing_4 : decode cX11_thing 4 = .ok (.getfield 56, 3) := by decide +kernel
theorem dX11_thing_7 : decode cX11_thing 7 = .ok (.iload_n 1, 1) := by decide +kernel
theorem dX11_thing_8 : decode cX11_thing 8 = .ok (.invokevirtual 158, 3) := by decide +kernel
theorem dX11_thing_11 : decode cX11_thing 11 = .ok (.ifCond .ne 6, 3) := by decide +kernel
theorem dX11_thing_14 : decode cX11_thing 14 = .ok (.bipush (-2), 2) := by decide +kernel
theorem dX11_thing_16 : decode cX11_thing 16 = .ok (.ireturn, 1) := by decide +kernel
theorem dX11_thing_17 : decode cX11_thing 17 = .ok (.iload_n 2, 1) := by decide +kernel
theorem dX11_thing_18 : decode cX11_thing 18 = .ok (.tableswitch 65 0 2 #[26, 39, 52], 26) := by decide +kernel
theorem dX11_thing_44 : decode cX11_thing 44 = .ok (.aload_n 0, 1) := by decide +kernel
theorem dX11_thing_45 : decode cX11_thing 45 = .ok (.getfield 42, 3) := by decide +kernel
theorem dX11_thing_48 : decode cX11_thing 48 = .ok (.getfield 56, 3) := by decide +kernel
theorem dX11_thing_51 : decode cX11_thing 51 = .ok (.getfield 161, 3) := by decide +kernel
theorem dX11_thing_54 : decode cX11_thing 54 = .ok (.iload_n 1, 1) := by decide +kernel
theorem dX11_thing_55 : decode cX11_thing 55 = .ok (.iaload, 1) := by decide +kernel
theorem dX11_thing_56 : decode cX11_thing 56 = .ok (.ireturn, 1) := by decide +kernel
theorem dX11_thing_57 : decode cX11_thing 57 = .ok (.aload_n 0, 1) := by decide +kernel
theorem dX11_thing_58 : decode cX11_thing 58 = .ok (.getfield 42, 3) := by decide +kernel
theorem dX11_thing_61 : decode cX11_thing 61 = .ok (.getfield 56, 3) := by decide +kernel
theorem dX11_thing_64 : decode cX11_thing 64 = .ok (.getfield 164, 3) := by decide +kernel
theorem dX11_thing_67 : decode cX11_thing 67 = .ok (.iload_n 1, 1) := by decide +kernel
theorem dX11_thing_68 : decode cX11_thing 68 = .ok (.iaload, 1) := by decide +kernel
theorem dX11_thing_69 : decode cX11_thing 69 = .ok (.ireturn, 1) := by decide +kernel
theorem dX11_thing_70 : decode cX11_thing 70 = .ok (.aload_n 0, 1) := by decide +kernel
theorem dX11_thing_71 : decode cX11_thing 71 = .ok (.getfield 42, 3) := by decide +kernel
theorem dX11_thing_74 : decode cX11_thing 74 = .ok (.getfield 69, 3) := by decide +kernel
theorem dX11_thing_77 : decode cX11_thing 77 = .ok (.getfield 167, 3) := by decide +kernel
theorem dX11_thing_80 : decode cX11_thing 80 = .ok (.iload_n 1, 1) := by decide +kernel
theorem dX11_thing_81 : decode cX11_thing 81 = .ok (.iaload, 1) := by decide +kernel
theorem dX11_thing_82 : decode cX11_thing 82 = .ok (.ireturn, 1) := by decide +kernel
theorem dX11_thing_83 : decode cX11_thing 83 = .ok (.bipush (-2), 2) := by decide +kernel
theorem dX11_thing_85 : decode cX11_thing 85 = .ok (.ireturn, 1) := by decide +kernel
theorem dX11_stage_0 : decode cX11_stage 0 = .ok (.aload_n 0, 1) := by decide +kernel
theorem dX11_stage_1 : decode cX11_stage 1 = .ok (.getfield 42, 3) := by decide +kernel
theorem dX11_stage_4 : decode cX11_stage 4 = .ok (.getfield 56, 3) := by decide +kernel
theorem dX11_stage_7 : decode cX11_stage 7 = .ok (.iload_n 1, 1) := by decide +kernel
theorem dX11_stage_8 : decode cX11_stage 8 = .ok (.invokevirtual 170, 3) := by decide +kernel
theorem dX11_stage_11 : decode cX11_stage 11 = .ok (.ifCond .eq 18, 3) := by decide +kernel
theorem dX11_stage_14 : decode cX11_stage 14 = .ok (.aload_n 0, 1) := by decide +kernel
theorem dX11_stage_15 : decode cX11_stage 15 = .ok (.getfield 42, 3) := by decide +kernel
theorem dX11_stage_18 : decode cX11_stage 18 = .ok (.getfield 56, 3) := by decide +kernel
theorem dX11_stage_21 : decode cX11_stage 21 = .ok (.getfield 173, 3) := by decide +kernel
theorem dX11_stage_24 : decode cX11_stage 24 = .ok (.iload_n 1, 1) := by decide +kernel
theorem dX11_stage_25 : decode cX11_stage 25 = .ok (.iaload, 1) := by decide +kernel
theorem dX11_stage_26 : decode cX11_stage 26 = .ok (.goto 4, 3) := by decide +kernel
theorem dX11_stage_29 : decode cX11_stage 29 = .ok (.iconst (-1), 1) := by decide +kernel
theorem dX11_stage_30 : decode cX11_stage 30 = .ok (.ireturn, 1) := by decide +kernel
theorem dX11_count_0 : decode cX11_count 0 = .ok (.iload_n 1, 1) := by decide +kernel
theorem dX11_count_1 : decode cX11_count 1 = .ok (.tableswitch 227 0 13 #[71, 82, 93, 104, 115, 120, 128, 139, 154, 169, 192, 200, 211, 219], 71) := by decide +kernel
theorem dX11_count_72 : decode cX11_count 72 = .ok (.aload_n 0, 1) := by decide +kernel
theorem dX11_count_73 : decode cX11_count 73 = .ok (.getfield 42, 3) := by decide +kernel
theorem dX11_count_76 : decode cX11_count 76 = .ok (.getfield 56, 3) := by decide +kernel
theorem dX11_count_79 : decode cX11_count 79 = .ok (.getfield 176, 3) := by decide +kernel
theorem dX11_count_82 : decode cX11_count 82 = .ok (.ireturn, 1) := by decide +kernel
theorem dX11_count_83 : decode cX11_count 83 = .ok (.aload_n 0, 1) := by decide +kernel
theorem dX11_count_84 : decode cX11_count 84 = .ok (.getfield 42, 3) := by decide +kernel
theorem dX11_count_87 : decode cX11_count 87 = .ok (.getfield 56, 3) := by decide +kernel
theorem dX11_count_90 : decode cX11_count 90 = .ok (.getfield 179, 3) := by decide +kernel
theorem dX11_count_93 : decode cX11_count 93 = .ok (.ireturn, 1) := by decide +kernel
theorem dX11_count_94 : decode cX11_count 94 = .ok (.aload_n 0, 1) := by decide +kernel
theorem dX11_count_95 : decode cX11_count 95 = .ok (.getfield 42, 3) := by decide +kernel
theorem dX11_count_98 : decode cX11_count 98 = .ok (.getfield 56, 3) := by decide +kernel
theorem dX11_count_101 : decode cX11_count 101 = .ok (.getfield 121, 3) := by decide +kernel
theorem dX11_count_104 : decode cX11_count 104 = .ok (.ireturn, 1) := by decide +kernel
theorem dX11_count_105 : decode cX11_count 105 = .ok (.aload_n 0, 1) := by decide +kernel
theorem dX11_count_106 : decode cX11_count 106 = .ok (.getfield 42, 3) := by decide +kernel
theorem dX11_count_109 : decode cX11_count 109 = .ok (.getfield 56, 3) := by decide +kernel
theorem dX11_count_112 : decode cX11_count 112 = .ok (.getfield 182, 3) := by decide +kernel
theorem dX11_count_115 : decode cX11_count 115 = .ok (.ireturn, 1) := by decide +kernel
theorem dX11_count_116 : decode cX11_count 116 = .ok (.aload_n 0, 1) := by decide +kernel
theorem dX11_count_117 : decode cX11_count 117 = .ok (.getfield 126, 3) := by decide +kernel
theorem dX11_count_120 : decode cX11_count 120 = .ok (.ireturn, 1) := by decide +kernel
theorem dX11_count_121 : decode cX11_count 121 = .ok (.aload_n 0, 1) := by decide +kernel
theorem dX11_count_122 : decode cX11_count 122 = .ok (.getfield 42, 3) := by decide +kernel
theorem dX11_count_125 : decode cX11_count 125 = .ok (.getfield 132, 3) := by decide +kernel
theorem dX11_count_128 : decode cX11_count 128 = .ok (.ireturn, 1) := by decide +kernel
theorem dX11_count_129 : decode cX11_count 129 = .ok (.aload_n 0, 1) := by decide +kernel
theorem dX11_count_130 : decode cX11_count 130 = .ok (.getfield 42, 3) := by decide +kernel
theorem dX11_count_133 : decode cX11_count 133 = .ok (.getfield 69, 3) := by decide +kernel
theorem dX11_count_136 : decode cX11_count 136 = .ok (.getfield 185, 3) := by decide +kernel
theorem dX11_count_139 : decode cX11_count 139 = .ok (.ireturn, 1) := by decide +kernel
theorem dX11_count_140 : decode cX11_count 140 = .ok (.aload_n 0, 1) := by decide +kernel
theorem dX11_count_141 : decode cX11_count 141 = .ok (.getfield 63, 3) := by decide +kernel
theorem dX11_count_144 : decode cX11_count 144 = .ok (.aload_n 0, 1) := by decide +kernel
theorem dX11_count_145 : decode cX11_count 145 = .ok (.getfield 42, 3) := by decide +kernel
theorem dX11_count_148 : decode cX11_count 148 = .ok (.getfield 69, 3) := by decide +kernel
theorem dX11_count_151 : decode cX11_count 151 = .ok (.invokevirtual 188, 3) := by decide +kernel
theorem dX11_count_154 : decode cX11_count 154 = .ok (.ireturn, 1) := by decide +kernel
theorem dX11_count_155 : decode cX11_count 155 = .ok (.aload_n 0, 1) := by decide +kernel
theorem dX11_count_156 : decode cX11_count 156 = .ok (.getfield 63, 3) := by decide +kernel
theorem dX11_count_159 : decode cX11_count 159 = .ok (.aload_n 0, 1) := by decide +kernel
theorem dX11_count_160 : decode cX11_count 160 = .ok (.getfield 42, 3) := by decide +kernel
theorem dX11_count_163 : decode cX11_count 163 = .ok (.getfield 69, 3) := by decide +kernel
theorem dX11_count_166 : decode cX11_count 166 = .ok (.invokevirtual 192, 3) := by decide +kernel
theorem dX11_count_169 : decode cX11_count 169 = .ok (.ireturn, 1) := by decide +kernel
theorem dX11_count_170 : decode cX11_count 170 = .ok (.aload_n 0, 1) := by decide +kernel
theorem dX11_count_171 : decode cX11_count 171 = .ok (.getfield 42, 3) := by decide +kernel
theorem dX11_count_174 : decode cX11_count 174 = .ok (.getfield 56, 3) := by decide +kernel
theorem dX11_count_177 : decode cX11_count 177 = .ok (.invokevirtual 195, 3) := by decide +kernel
theorem dX11_count_180 : decode cX11_count 180 = .ok (.aload_n 0, 1) := by decide +kernel
theorem dX11_count_181 : decode cX11_count 181 = .ok (.getfield 42, 3) := by decide +kernel
theorem dX11_count_184 : decode cX11_count 184 = .ok (.getfield 69, 3) := by decide +kernel
theorem dX11_count_187 : decode cX11_count 187 = .ok (.iconst (-1), 1) := by decide +kernel
theorem dX11_count_188 : decode cX11_count 188 = .ok (.invokevirtual 199, 3) := by decide +kernel
theorem dX11_count_191 : decode cX11_count 191 = .ok (.iand, 1) := by decide +kernel
theorem dX11_count_192 : decode cX11_count 192 = .ok (.ireturn, 1) := by decide +kernel
theorem dX11_count_193 : decode cX11_count 193 = .ok (.aload_n 0, 1) := by decide +kernel
theorem dX11_count_194 : decode cX11_count 194 = .ok (.getfield 42, 3) := by decide +kernel
theorem dX11_count_197 : decode cX11_count 197 = .ok (.getfield 202, 3) := by decide +kernel
theorem dX11_count_200 : decode cX11_count 200 = .ok (.ireturn, 1) := by decide +kernel
theorem dX11_count_201 : decode cX11_count 201 = .ok (.aload_n 0, 1) := by decide +kernel
theorem dX11_count_202 : decode cX11_count 202 = .ok (.getfield 42, 3) := by decide +kernel
theorem dX11_count_205 : decode cX11_count 205 = .ok (.getfield 205, 3) := by decide +kernel
theorem dX11_count_208 : decode cX11_count 208 = .ok (.getfield 209, 3) := by decide +kernel
theorem dX11_count_211 : decode cX11_count 211 = .ok (.ireturn, 1) := by decide +kernel
theorem dX11_count_212 : decode cX11_count 212 = .ok (.aload_n 0, 1) := by decide +kernel
theorem dX11_count_213 : decode cX11_count 213 = .ok (.getfield 42, 3) := by decide +kernel
theorem dX11_count_216 : decode cX11_count 216 = .ok (.getfield 214, 3) := by decide +kernel
theorem dX11_count_219 : decode cX11_count 219 = .ok (.ireturn, 1) := by decide +kernel
theorem dX11_count_220 : decode cX11_count 220 = .ok (.aload_n 0, 1) := by decide +kernel
theorem dX11_count_221 : decode cX11_count 221 = .ok (.getfield 10, 3) := by decide +kernel
theorem dX11_count_224 : decode cX11_count 224 = .ok (.getfield 106, 3) := by decide +kernel
theorem dX11_count_227 : decode cX11_count 227 = .ok (.ireturn, 1) := by decide +kernel
theorem dX11_count_228 : decode cX11_count 228 = .ok (.iconst (-1), 1) := by decide +kernel
theorem dX11_count_229 : decode cX11_count 229 = .ok (.ireturn, 1) := by decide +kernel
theorem dX11_day_0 : decode cX11_day 0 = .ok (.aload_n 0, 1) := by decide +kernel
theorem dX11_day_1 : decode cX11_day 1 = .ok (.getfield 42, 3) := by decide +kernel
theorem dX11_day_4 : decode cX11_day 4 = .ok (.getfield 56, 3) := by decide +kernel
theorem dX11_day_7 : decode cX11_day 7 = .ok (.getfield 217, 3) := by decide +kernel
theorem dX11_day_10 : decode cX11_day 10 = .ok (.ifCond .eq 19, 3) := by decide +kernel
theorem dX11_day_13 : decode cX11_day 13 = .ok (.aload_n 0, 1) := by decide +kernel
theorem dX11_day_14 : decode cX11_day 14 = .ok (.getfield 42, 3) := by decide +kernel
theorem dX11_day_17 : decode cX11_day 17 = .ok (.getfield 69, 3) := by decide +kernel
theorem dX11_day_20 : decode cX11_day 20 = .ok (.getfield 185, 3) := by decide +kernel
theorem dX11_day_23 : decode cX11_day 23 = .ok (.sipush 999, 3) := by decide +kernel
theorem dX11_day_26 : decode cX11_day 26 = .ok (.if_icmp .lt 5, 3) := by decide +kernel
theorem dX11_day_29 : decode cX11_day 29 = .ok (.iconst (-1), 1) := by decide +kernel
theorem dX11_day_30 : decode cX11_day 30 = .ok (.ireturn, 1) := by decide +kernel
theorem dX11_day_31 : decode cX11_day 31 = .ok (.aload_n 0, 1) := by decide +kernel
theorem dX11_day_32 : decode cX11_day 32 = .ok (.getfield 42, 3) := by decide +kernel
theorem dX11_day_35 : decode cX11_day 35 = .ok (.getfield 205, 3) := by decide +kernel
theorem dX11_day_38 : decode cX11_day 38 = .ok (.aload_n 0, 1) := by decide +kernel
theorem dX11_day_39 : decode cX11_day 39 = .ok (.getfield 42, 3) := by decide +kernel
theorem dX11_day_42 : decode cX11_day 42 = .ok (.getfield 69, 3) := by decide +kernel
theorem dX11_day_45 : decode cX11_day 45 = .ok (.invokevirtual 221, 3) := by decide +kernel
theorem dX11_day_48 : decode cX11_day 48 = .ok (.aload_n 0, 1) := by decide +kernel
theorem dX11_day_49 : decode cX11_day 49 = .ok (.getfield 63, 3) := by decide +kernel
theorem dX11_day_52 : decode cX11_day 52 = .ok (.aload_n 0, 1) := by decide +kernel
theorem dX11_day_53 : decode cX11_day 53 = .ok (.getfield 42, 3) := by decide +kernel
theorem dX11_day_56 : decode cX11_day 56 = .ok (.getfield 69, 3) := by decide +kernel
theorem dX11_day_59 : decode cX11_day 59 = .ok (.aload_n 0, 1) := by decide +kernel
theorem dX11_day_60 : decode cX11_day 60 = .ok (.invokevirtual 225, 3) := by decide +kernel
theorem dX11_day_63 : decode cX11_day 63 = .ok (.invokevirtual 229, 3) := by decide +kernel
theorem dX11_day_66 : decode cX11_day 66 = .ok (.ireturn, 1) := by decide +kernel
theorem dX11_drop_0 : decode cX11_drop 0 = .ok (.aload_n 0, 1) := by decide +kernel
theorem dX11_drop_1 : decode cX11_drop 1 = .ok (.getfield 42, 3) := by decide +kernel
theorem dX11_drop_4 : decode cX11_drop 4 = .ok (.getfield 69, 3) := by decide +kernel
theorem dX11_drop_7 : decode cX11_drop 7 = .ok (.astore_n 3, 1) := by decide +kernel
theorem dX11_drop_8 : decode cX11_drop 8 = .ok (.aload_n 0, 1) := by decide +kernel
theorem dX11_drop_9 : decode cX11_drop 9 = .ok (.iload_n 1, 1) := by decide +kernel
theorem dX11_drop_10 : decode cX11_drop 10 = .ok (.invokevirtual 233, 3) := by decide +kernel
theorem dX11_drop_13 : decode cX11_drop 13 = .ok (.ifCond .eq 27, 3) := by decide +kernel
theorem dX11_drop_16 : decode cX11_drop 16 = .ok (.aload_n 0, 1) := by decide +kernel
theorem dX11_drop_17 : decode cX11_drop 17 = .ok (.getfield 42, 3) := by decide +kernel
theorem dX11_drop_20 : decode cX11_drop 20 = .ok (.getfield 56, 3) := by decide +kernel
theorem dX11_drop_23 : decode cX11_drop 23 = .ok (.iload_n 2, 1) := by decide +kernel
theorem dX11_drop_24 : decode cX11_drop 24 = .ok (.invokevirtual 158, 3) := by decide +kernel
theorem dX11_drop_27 : decode cX11_drop 27 = .ok (.ifCond .eq 13, 3) := by decide +kernel
theorem dX11_drop_30 : decode cX11_drop 30 = .ok (.aload_n 3, 1) := by decide +kernel
theorem dX11_drop_31 : decode cX11_drop 31 = .ok (.getfield 167, 3) := by decide +kernel
theorem dX11_drop_34 : decode cX11_drop 34 = .ok (.iload_n 2, 1) := by decide +kernel
theorem dX11_drop_35 : decode cX11_drop 35 = .ok (.iaload, 1) := by decide +kernel
theorem dX11_drop_36 : decode cX11_drop 36 = .ok (.iload_n 1, 1) := by decide +kernel
theorem dX11_drop_37 : decode cX11_drop 37 = .ok (.if_icmp .eq 5, 3) := by decide +kernel
theorem dX11_drop_40 : decode cX11_drop 40 = .ok (.iconst (-1), 1) := by decide +kernel
theorem dX11_drop_41 : decode cX11_drop 41 = .ok (.ireturn, 1) := by decide +kernel
theorem dX11_drop_42 : decode cX11_drop 42 = .ok (.aload_n 0, 1) := by decide +kernel
theorem dX11_drop_43 : decode cX11_drop 43 = .ok (.getfield 42, 3) := by decide +kernel
theorem dX11_drop_46 : decode cX11_drop 46 = .ok (.getfield 205, 3) := by decide +kernel
theorem dX11_drop_49 : decode cX11_drop 49 = .ok (.aload_n 3, 1) := by decide +kernel
theorem dX11_drop_50 : decode cX11_drop 50 = .ok (.invokevirtual 221, 3) := by decide +kernel
theorem dX11_drop_53 : decode cX11_drop 53 = .ok (.aload_n 3, 1) := by decide +kernel
theorem dX11_drop_54 : decode cX11_drop 54 = .ok (.getfield 167, 3) := by decide +kernel
theorem dX11_drop_57 : decode cX11_drop 57 = .ok (.iload_n 2, 1) := by decide +kernel
theorem dX11_drop_58 : decode cX11_drop 58 = .ok (.bipush 10, 2) := by decide +kernel
theorem dX11_drop_60 : decode cX11_drop 60 = .ok (.aload_n 3, 1) := by decide +kernel
theorem dX11_drop_61 : decode cX11_drop 61 = .ok (.getfield 146, 3) := by decide +kernel
theorem dX11_drop_64 : decode cX11_drop 64 = .ok (.iload_n 1, 1) := by decide +kernel
theorem dX11_drop_65 : decode cX11_drop 65 = .ok (.iaload, 1) := by decide +kernel
theorem dX11_drop_66 : decode cX11_drop 66 = .ok (.iadd, 1) := by decide +kernel
theorem dX11_drop_67 : decode cX11_drop 67 = .ok (.iastore, 1) := by decide +kernel
theorem dX11_drop_68 : decode cX11_drop 68 = .ok (.aload_n 3, 1) := by decide +kernel
theorem dX11_drop_69 : decode cX11_drop 69 = .ok (.iload_n 1, 1) := by decide +kernel
theorem dX11_drop_70 : decode cX11_drop 70 = .ok (.invokevirtual 236, 3) := by decide +kernel
theorem dX11_drop_73 : decode cX11_drop 73 = .ok (.ireturn, 1) := by decide +kernel
theorem dX11_take_0 : decode cX11_take 0 = .ok (.aload_n 0, 1) := by decide +kernel
theorem dX11_take_1 : decode cX11_take 1 = .ok (.getfield 42, 3) := by decide +kernel
theorem dX11_take_4 : decode cX11_take 4 = .ok (.getfield 69, 3) := by decide +kernel
theorem dX11_take_7 : decode cX11_take 7 = .ok (.astore_n 3, 1) := by decide +kernel
theorem dX11_take_8 : decode cX11_take 8 = .ok (.aload_n 0, 1) := by decide +kernel
theorem dX11_take_9 : decode cX11_take 9 = .ok (.iload_n 1, 1) := by decide +kernel
theorem dX11_take_10 : decode cX11_take 10 = .ok (.invokevirtual 233, 3) := by decide +kernel
theorem dX11_take_13 : decode cX11_take 13 = .ok (.ifCond .eq 43, 3) := by decide +kernel
theorem dX11_take_16 : decode cX11_take 16 = .ok (.aload_n 0, 1) := by decide +kernel
theorem dX11_take_17 : decode cX11_take 17 = .ok (.getfield 42, 3) := by decide +kernel
theorem dX11_take_20 : decode cX11_take 20 = .ok (.getfield 56, 3) := by decide +kernel
theorem dX11_take_23 : decode cX11_take 23 = .ok (.iload_n 2, 1) := by decide +kernel
theorem dX11_take_24 : decode cX11_take 24 = .ok (.invokevirtual 158, 3) := by decide +kernel
theorem dX11_take_27 : decode cX11_take 27 = .ok (.ifCond .eq 29, 3) := by decide +kernel
theorem dX11_take_30 : decode cX11_take 30 = .ok (.aload_n 0, 1) := by decide +kernel
theorem dX11_take_31 : decode cX11_take 31 = .ok (.iload_n 1, 1) := by decide +kernel
theorem dX11_take_32 : decode cX11_take 32 = .ok (.invokevirtual 239, 3) := by decide +kernel
theorem dX11_take_35 : decode cX11_take 35 = .ok (.ifCond .eq 21, 3) := by decide +kernel
theorem dX11_take_38 : decode cX11_take 38 = .ok (.aload_n 3, 1) := by decide +kernel
theorem dX11_take_39 : decode cX11_take 39 = .ok (.getfield 167, 3) := by decide +kernel
theorem dX11_take_42 : decode cX11_take 42 = .ok (.iload_n 2, 1) := by decide +kernel
theorem dX11_take_43 : decode cX11_take 43 = .ok (.iaload, 1) := by decide +kernel
theorem dX11_take_44 : decode cX11_take 44 = .ok (.bipush 10, 2) := by decide +kernel
theorem dX11_take_46 : decode cX11_take 46 = .ok (.aload_n 3, 1) := by decide +kernel
theorem dX11_take_47 : decode cX11_take 47 = .ok (.getfield 146, 3) := by decide +kernel
theorem dX11_take_50 : decode cX11_take 50 = .ok (.iload_n 1, 1) := by decide +kernel
theorem dX11_take_51 : decode cX11_take 51 = .ok (.iaload, 1) := by decide +kernel
theorem dX11_take_52 : decode cX11_take 52 = .ok (.iadd, 1) := by decide +kernel
theorem dX11_take_53 : decode cX11_take 53 = .ok (.if_icmp .eq 5, 3) := by decide +kernel
theorem dX11_take_56 : decode cX11_take 56 = .ok (.iconst (-1), 1) := by decide +kernel
theorem dX11_take_57 : decode cX11_take 57 = .ok (.ireturn, 1) := by decide +kernel
theorem dX11_take_58 : decode cX11_take 58 = .ok (.aload_n 0, 1) := by decide +kernel
theorem dX11_take_59 : decode cX11_take 59 = .ok (.getfield 42, 3) := by decide +kernel
theorem dX11_take_62 : decode cX11_take 62 = .ok (.getfield 205, 3) := by decide +kernel
theorem dX11_take_65 : decode cX11_take 65 = .ok (.aload_n 3, 1) := by decide +kernel
theorem dX11_take_66 : decode cX11_take 66 = .ok (.invokevirtual 221, 3) := by decide +kernel
theorem dX11_take_69 : decode cX11_take 69 = .ok (.aload_n 3, 1) := by decide +kernel
theorem dX11_take_70 : decode cX11_take 70 = .ok (.getfield 167, 3) := by decide +kernel
theorem dX11_take_73 : decode cX11_take 73 = .ok (.iload_n 2, 1) := by decide +kernel
theorem dX11_take_74 : decode cX11_take 74 = .ok (.iload_n 1, 1) := by decide +kernel
theorem dX11_take_75 : decode cX11_take 75 = .ok (.iastore, 1) := by decide +kernel
theorem dX11_take_76 : decode cX11_take 76 = .ok (.aload_n 3, 1) := by decide +kernel
theorem dX11_take_77 : decode cX11_take 77 = .ok (.iload_n 1, 1) := by decide +kernel
theorem dX11_take_78 : decode cX11_take 78 = .ok (.invokevirtual 236, 3) := by decide +kernel
theorem dX11_take_81 : decode cX11_take 81 = .ok (.ireturn, 1) := by decide +kernel
theorem dX11_give_0 : decode cX11_give 0 = .ok (.aload_n 0, 1) := by decide +kernel
theorem dX11_give_1 : decode cX11_give 1 = .ok (.getfield 42, 3) := by decide +kernel
theorem dX11_give_4 : decode cX11_give 4 = .ok (.getfield 69, 3) := by decide +kernel
theorem dX11_give_7 : decode cX11_give 7 = .ok (.astore 4, 2) := by decide +kernel
theorem dX11_give_9 : decode cX11_give 9 = .ok (.aload_n 0, 1) := by decide +kernel
theorem dX11_give_10 : decode cX11_give 10 = .ok (.iload_n 1, 1) := by decide +kernel
theorem dX11_give_11 : decode cX11_give 11 = .ok (.iload_n 2, 1) := by decide +kernel
theorem dX11_give_12 : decode cX11_give 12 = .ok (.invokevirtual 242, 3) := by decide +kernel
theorem dX11_give_15 : decode cX11_give 15 = .ok (.ifCond .eq 36, 3) := by decide +kernel
theorem dX11_give_18 : decode cX11_give 18 = .ok (.aload_n 0, 1) := by decide +kernel
theorem dX11_give_19 : decode cX11_give 19 = .ok (.getfield 42, 3) := by decide +kernel
theorem dX11_give_22 : decode cX11_give 22 = .ok (.getfield 56, 3) := by decide +kernel
theorem dX11_give_25 : decode cX11_give 25 = .ok (.iload_n 3, 1) := by decide +kernel
theorem dX11_give_26 : decode cX11_give 26 = .ok (.invokevirtual 158, 3) := by decide +kernel
theorem dX11_give_29 : decode cX11_give 29 = .ok (.ifCond .eq 22, 3) := by decide +kernel
theorem dX11_give_32 : decode cX11_give 32 = .ok (.aload_n 0, 1) := by decide +kernel
theorem dX11_give_33 : decode cX11_give 33 = .ok (.iload_n 2, 1) := by decide +kernel
theorem dX11_give_34 : decode cX11_give 34 = .ok (.invokevirtual 239, 3) := by decide +kernel
theorem dX11_give_37 : decode cX11_give 37 = .ok (.ifCond .eq 14, 3) := by decide +kernel
theorem dX11_give_40 : decode cX11_give 40 = .ok (.aload 4, 2) := by decide +kernel
theorem dX11_give_42 : decode cX11_give 42 = .ok (.getfield 167, 3) := by decide +kernel
theorem dX11_give_45 : decode cX11_give 45 = .ok (.iload_n 3, 1) := by decide +kernel
theorem dX11_give_46 : decode cX11_give 46 = .ok (.iaload, 1) := by decide +kernel
theorem dX11_give_47 : decode cX11_give 47 = .ok (.iload_n 1, 1) := by decide +kernel
theorem dX11_give_48 : decode cX11_give 48 = .ok (.if_icmp .eq 5, 3) := by decide +kernel
theorem dX11_give_51 : decode cX11_give 51 = .ok (.iconst (-1), 1) := by decide +kernel
theorem dX11_give_52 : decode cX11_give 52 = .ok (.ireturn, 1) := by decide +kernel
theorem dX11_give_53 : decode cX11_give 53 = .ok (.aload_n 0, 1) := by decide +kernel
theorem dX11_give_54 : decode cX11_give 54 = .ok (.getfield 42, 3) := by decide +kernel
theorem dX11_give_57 : decode cX11_give 57 = .ok (.getfield 205, 3) := by decide +kernel
theorem dX11_give_60 : decode cX11_give 60 = .ok (.aload 4, 2) := by decide +kernel
theorem dX11_give_62 : decode cX11_give 62 = .ok (.invokevirtual 221, 3) := by decide +kernel
theorem dX11_give_65 : decode cX11_give 65 = .ok (.aload 4, 2) := by decide +kernel
theorem dX11_give_67 : decode cX11_give 67 = .ok (.getfield 167, 3) := by decide +kernel
theorem dX11_give_70 : decode cX11_give 70 = .ok (.iload_n 3, 1) := by decide +kernel
theorem dX11_give_71 : decode cX11_give 71 = .ok (.iload_n 2, 1) := by decide +kernel
theorem dX11_give_72 : decode cX11_give 72 = .ok (.iastore, 1) := by decide +kernel
theorem dX11_give_73 : decode cX11_give 73 = .ok (.aload 4, 2) := by decide +kernel
theorem dX11_give_75 : decode cX11_give 75 = .ok (.iload_n 2, 1) := by decide +kernel
theorem dX11_give_76 : decode cX11_give 76 = .ok (.invokevirtual 236, 3) := by decide +kernel
theorem dX11_give_79 : decode cX11_give 79 = .ok (.ireturn, 1) := by decide +kernel
theorem dX11_rob_0 : decode cX11_rob 0 = .ok (.aload_n 0, 1) := by decide +kernel
theorem dX11_rob_1 : decode cX11_rob 1 = .ok (.getfield 42, 3) := by decide +kernel
theorem dX11_rob_4 : decode cX11_rob 4 = .ok (.getfield 69, 3) := by decide +kernel
theorem dX11_rob_7 : decode cX11_rob 7 = .ok (.astore_n 2, 1) := by decide +kernel
theorem dX11_rob_8 : decode cX11_rob 8 = .ok (.aload_n 0, 1) := by decide +kernel
theorem dX11_rob_9 : decode cX11_rob 9 = .ok (.getfield 42, 3) := by decide +kernel
theorem dX11_rob_12 : decode cX11_rob 12 = .ok (.getfield 56, 3) := by decide +kernel
theorem dX11_rob_15 : decode cX11_rob 15 = .ok (.iload_n 1, 1) := by decide +kernel
theorem dX11_rob_16 : decode cX11_rob 16 = .ok (.invokevirtual 158, 3) := by decide +kernel
theorem dX11_rob_19 : decode cX11_rob 19 = .ok (.ifCond .eq 13, 3) := by decide +kernel
theorem dX11_rob_22 : decode cX11_rob 22 = .ok (.aload_n 2, 1) := by decide +kernel
theorem dX11_rob_23 : decode cX11_rob 23 = .ok (.getfield 167, 3) := by decide +kernel
theorem dX11_rob_26 : decode cX11_rob 26 = .ok (.iload_n 1, 1) := by decide +kernel
theorem dX11_rob_27 : decode cX11_rob 27 = .ok (.iaload, 1) := by decide +kernel
theorem dX11_rob_28 : decode cX11_rob 28 = .ok (.iconst (-1), 1) := by decide +kernel
theorem dX11_rob_29 : decode cX11_rob 29 = .ok (.if_icmp .ne 6, 3) := by decide +kernel
theorem dX11_rob_32 : decode cX11_rob 32 = .ok (.bipush (-2), 2) := by decide +kernel
theorem dX11_rob_34 : decode cX11_rob 34 = .ok (.ireturn, 1) := by decide +kernel
theorem dX11_rob_35 : decode cX11_rob 35 = .ok (.aload_n 2, 1) := by decide +kernel
theorem dX11_rob_36 : decode cX11_rob 36 = .ok (.getfield 167, 3) := by decide +kernel
theorem dX11_rob_39 : decode cX11_rob 39 = .ok (.iload_n 1, 1) := by decide +kernel
theorem dX11_rob_40 : decode cX11_rob 40 = .ok (.iaload, 1) := by decide +kernel
theorem dX11_rob_41 : decode cX11_rob 41 = .ok (.istore_n 3, 1) := by decide +kernel
theorem dX11_rob_42 : decode cX11_rob 42 = .ok (.aload_n 0, 1) := by decide +kernel
theorem dX11_rob_43 : decode cX11_rob 43 = .ok (.getfield 42, 3) := by decide +kernel
theorem dX11_rob_46 : decode cX11_rob 46 = .ok (.getfield 205, 3) := by decide +kernel
theorem dX11_rob_49 : decode cX11_rob 49 = .ok (.aload_n 2, 1) := by decide +kernel
theorem dX11_rob_50 : decode cX11_rob 50 = .ok (.invokevirtual 221, 3) := by decide +kernel
theorem dX11_rob_53 : decode cX11_rob 53 = .ok (.aload_n 2, 1) := by decide +kernel
theorem dX11_rob_54 : decode cX11_rob 54 = .ok (.getfield 167, 3) := by decide +kernel
theorem dX11_rob_57 : decode cX11_rob 57 = .ok (.iload_n 1, 1) := by decide +kernel
theorem dX11_rob_58 : decode cX11_rob 58 = .ok (.iconst (-1), 1) := by decide +kernel
theorem dX11_rob_59 : decode cX11_rob 59 = .ok (.iastore, 1) := by decide +kernel
theorem dX11_rob_60 : decode cX11_rob 60 = .ok (.iload_n 3, 1) := by decide +kernel
theorem dX11_rob_61 : decode cX11_rob 61 = .ok (.ireturn, 1) := by decide +kernel
theorem dX11_undo_0 : decode cX11_undo 0 = .ok (.aload_n 0, 1) := by decide +kernel
theorem dX11_undo_1 : decode cX11_undo 1 = .ok (.getfield 42, 3) := by decide +kernel
theorem dX11_undo_4 : decode cX11_undo 4 = .ok (.getfield 205, 3) := by decide +kernel
theorem dX11_undo_7 : decode cX11_undo 7 = .ok (.getfield 209, 3) := by decide +kernel
theorem dX11_undo_10 : decode cX11_undo 10 = .ok (.ifCond .ne 6, 3) := by decide +kernel
theorem dX11_undo_13 : decode cX11_undo 13 = .ok (.bipush (-2), 2) := by decide +kernel
theorem dX11_undo_15 : decode cX11_undo 15 = .ok (.ireturn, 1) := by decide +kernel
theorem dX11_undo_16 : decode cX11_undo 16 = .ok (.aload_n 0, 1) := by decide +kernel
theorem dX11_undo_17 : decode cX11_undo 17 = .ok (.getfield 42, 3) := by decide +kernel
theorem dX11_undo_20 : decode cX11_undo 20 = .ok (.getfield 205, 3) := by decide +kernel
theorem dX11_undo_23 : decode cX11_undo 23 = .ok (.aload_n 0, 1) := by decide +kernel
theorem dX11_undo_24 : decode cX11_undo 24 = .ok (.getfield 42, 3) := by decide +kernel
theorem dX11_undo_27 : decode cX11_undo 27 = .ok (.getfield 69, 3) := by decide +kernel
theorem dX11_undo_30 : decode cX11_undo 30 = .ok (.invokevirtual 246, 3) := by decide +kernel
theorem dX11_undo_33 : decode cX11_undo 33 = .ok (.aload_n 0, 1) := by decide +kernel
theorem dX11_undo_34 : decode cX11_undo 34 = .ok (.getfield 42, 3) := by decide +kernel
theorem dX11_undo_37 : decode cX11_undo 37 = .ok (.getfield 205, 3) := by decide +kernel
theorem dX11_undo_40 : decode cX11_undo 40 = .ok (.getfield 209, 3) := by decide +kernel
theorem dX11_undo_43 : decode cX11_undo 43 = .ok (.ireturn, 1) := by decide +kernel
theorem dX11_ahead_0 : decode cX11_ahead 0 = .ok (.iload_n 3, 1) := by decide +kernel
theorem dX11_ahead_1 : decode cX11_ahead 1 = .ok (.iconst 2, 1) := by decide +kernel
theorem dX11_ahead_2 : decode cX11_ahead 2 = .ok (.if_icmp .ne 7, 3) := by decide +kernel
theorem dX11_ahead_5 : decode cX11_ahead 5 = .ok (.iconst 1, 1) := by decide +kernel
theorem dX11_ahead_6 : decode cX11_ahead 6 = .ok (.goto 4, 3) := by decide +kernel
theorem dX11_ahead_9 : decode cX11_ahead 9 = .ok (.iconst 0, 1) := by decide +kernel
theorem dX11_ahead_10 : decode cX11_ahead 10 = .ok (.istore 4, 2) := by decide +kernel
theorem dX11_ahead_12 : decode cX11_ahead 12 = .ok (.iload 4, 2) := by decide +kernel
theorem dX11_ahead_14 : decode cX11_ahead 14 = .ok (.ifCond .eq 17, 3) := by decide +kernel
theorem dX11_ahead_17 : decode cX11_ahead 17 = .ok (.aload_n 0, 1) := by decide +kernel
theorem dX11_ahead_18 : decode cX11_ahead 18 = .ok (.getfield 42, 3) := by decide +kernel
theorem dX11_ahead_21 : decode cX11_ahead 21 = .ok (.getfield 56, 3) := by decide +kernel
theorem dX11_ahead_24 : decode cX11_ahead 24 = .ok (.iload_n 1, 1) := by decide +kernel
theorem dX11_ahead_25 : decode cX11_ahead 25 = .ok (.invokevirtual 158, 3) := by decide +kernel
theorem dX11_ahead_28 : decode cX11_ahead 28 = .ok (.goto 14, 3) := by decide +kernel
theorem dX11_ahead_31 : decode cX11_ahead 31 = .ok (.aload_n 0, 1) := by decide +kernel
theorem dX11_ahead_32 : decode cX11_ahead 32 = .ok (.getfield 42, 3) := by decide +kernel
theorem dX11_ahead_35 : decode cX11_ahead 35 = .ok (.getfield 56, 3) := by decide +kernel
theorem dX11_ahead_38 : decode cX11_ahead 38 = .ok (.iload_n 1, 1) := by decide +kernel
theorem dX11_ahead_39 : decode cX11_ahead 39 = .ok (.invokevirtual 135, 3) := by decide +kernel
theorem dX11_ahead_42 : decode cX11_ahead 42 = .ok (.istore 5, 2) := by decide +kernel
theorem dX11_ahead_44 : decode cX11_ahead 44 = .ok (.iload 5, 2) := by decide +kernel
theorem dX11_ahead_46 : decode cX11_ahead 46 = .ok (.ifCond .eq 22, 3) := by decide +kernel
theorem dX11_ahead_49 : decode cX11_ahead 49 = .ok (.iload_n 3, 1) := by decide +kernel
theorem dX11_ahead_50 : decode cX11_ahead 50 = .ok (.ifCond .lt 18, 3) := by decide +kernel
theorem dX11_ahead_53 : decode cX11_ahead 53 = .ok (.iload_n 3, 1) := by decide +kernel
theorem dX11_ahead_54 : decode cX11_ahead 54 = .ok (.iconst 2, 1) := by decide +kernel
theorem dX11_ahead_55 : decode cX11_ahead 55 = .ok (.if_icmp .gt 13, 3) := by decide +kernel
theorem dX11_ahead_58 : decode cX11_ahead 58 = .ok (.iload_n 2, 1) := by decide +kernel
theorem dX11_ahead_59 : decode cX11_ahead 59 = .ok (.ifCond .lt 9, 3) := by decide +kernel
theorem dX11_ahead_62 : decode cX11_ahead 62 = .ok (.iload_n 2, 1) := by decide +kernel
theorem dX11_ahead_63 : decode cX11_ahead 63 = .ok (.bipush 100, 2) := by decide +kernel
theorem dX11_ahead_65 : decode cX11_ahead 65 = .ok (.if_icmp .le 6, 3) := by decide +kernel
theorem dX11_ahead_68 : decode cX11_ahead 68 = .ok (.bipush (-2), 2) := by decide +kernel
theorem dX11_ahead_70 : decode cX11_ahead 70 = .ok (.ireturn, 1) := by decide +kernel
theorem dX11_ahead_71 : decode cX11_ahead 71 = .ok (.aload_n 0, 1) := by decide +kernel
theorem dX11_ahead_72 : decode cX11_ahead 72 = .ok (.iload_n 2, 1) := by decide +kernel
theorem dX11_ahead_73 : decode cX11_ahead 73 = .ok (.invokevirtual 249, 3) := by decide +kernel
theorem dX11_ahead_76 : decode cX11_ahead 76 = .ok (.iload 4, 2) := by decide +kernel
theorem dX11_ahead_78 : decode cX11_ahead 78 = .ok (.ifCond .eq 13, 3) := by decide +kernel
theorem dX11_ahead_81 : decode cX11_ahead 81 = .ok (.aload_n 0, 1) := by decide +kernel
theorem dX11_ahead_82 : decode cX11_ahead 82 = .ok (.getfield 90, 3) := by decide +kernel
theorem dX11_ahead_85 : decode cX11_ahead 85 = .ok (.getfield 167, 3) := by decide +kernel
theorem dX11_ahead_88 : decode cX11_ahead 88 = .ok (.iload_n 1, 1) := by decide +kernel
theorem dX11_ahead_89 : decode cX11_ahead 89 = .ok (.iaload, 1) := by decide +kernel
theorem dX11_ahead_90 : decode cX11_ahead 90 = .ok (.ireturn, 1) := by decide +kernel
theorem dX11_ahead_91 : decode cX11_ahead 91 = .ok (.iload_n 3, 1) := by decide +kernel
theorem dX11_ahead_92 : decode cX11_ahead 92 = .ok (.ifCond .ne 15, 3) := by decide +kernel
theorem dX11_ahead_95 : decode cX11_ahead 95 = .ok (.aload_n 0, 1) := by decide +kernel
theorem dX11_ahead_96 : decode cX11_ahead 96 = .ok (.getfield 90, 3) := by decide +kernel
theorem dX11_ahead_99 : decode cX11_ahead 99 = .ok (.getfield 146, 3) := by decide +kernel
theorem dX11_ahead_102 : decode cX11_ahead 102 = .ok (.iload_n 1, 1) := by decide +kernel
theorem dX11_ahead_103 : decode cX11_ahead 103 = .ok (.iaload, 1) := by decide +kernel
theorem dX11_ahead_104 : decode cX11_ahead 104 = .ok (.goto 12, 3) := by decide +kernel
theorem dX11_ahead_107 : decode cX11_ahead 107 = .ok (.aload_n 0, 1) := by decide +kernel
theorem dX11_ahead_108 : decode cX11_ahead 108 = .ok (.getfield 90, 3) := by decide +kernel
theorem dX11_ahead_111 : decode cX11_ahead 111 = .ok (.getfield 149, 3) := by decide +kernel
theorem dX11_ahead_114 : decode cX11_ahead 114 = .ok (.iload_n 1, 1) := by decide +kernel
theorem dX11_ahead_115 : decode cX11_ahead 115 = .ok (.iaload, 1) := by decide +kernel
theorem dX11_ahead_116 : decode cX11_ahead 116 = .ok (.ireturn, 1) := by decide +kernel
theorem dX11_comes_0 : decode cX11_comes 0 = .ok (.aload_n 0, 1) := by decide +kernel
theorem dX11_comes_1 : decode cX11_comes 1 = .ok (.getfield 42, 3) := by decide +kernel
theorem dX11_comes_4 : decode cX11_comes 4 = .ok (.getfield 56, 3) := by decide +kernel
theorem dX11_comes_7 : decode cX11_comes 7 = .ok (.iload_n 1, 1) := by decide +kernel
theorem dX11_comes_8 : decode cX11_comes 8 = .ok (.invokevirtual 135, 3) := by decide +kernel
theorem dX11_comes_11 : decode cX11_comes 11 = .ok (.ifCond .ne 5, 3) := by decide +kernel
theorem dX11_comes_14 : decode cX11_comes 14 = .ok (.iconst (-1), 1) := by decide +kernel
theorem dX11_comes_15 : decode cX11_comes 15 = .ok (.ireturn, 1) := by decide +kernel
theorem dX11_comes_16 : decode cX11_comes 16 = .ok (.aload_n 0, 1) := by decide +kernel
theorem dX11_comes_17 : decode cX11_comes 17 = .ok (.getfield 90, 3) := by decide +kernel
theorem dX11_comes_20 : decode cX11_comes 20 = .ok (.aload_n 0, 1) := by decide +kernel
theorem dX11_comes_21 : decode cX11_comes 21 = .ok (.getfield 42, 3) := by decide +kernel
theorem dX11_comes_24 : decode cX11_comes 24 = .ok (.getfield 69, 3) := by decide +kernel
theorem dX11_comes_27 : decode cX11_comes 27 = .ok (.invokevirtual 252, 3) := by decide +kernel
theorem dX11_comes_30 : decode cX11_comes 30 = .ok (.iconst 0, 1) := by decide +kernel
theorem dX11_comes_31 : decode cX11_comes 31 = .ok (.istore_n 2, 1) := by decide +kernel
theorem dX11_comes_32 : decode cX11_comes 32 = .ok (.iload_n 2, 1) := by decide +kernel
theorem dX11_comes_33 : decode cX11_comes 33 = .ok (.sipush 200, 3) := by decide +kernel
theorem dX11_comes_36 : decode cX11_comes 36 = .ok (.if_icmp .ge 55, 3) := by decide +kernel
theorem dX11_comes_39 : decode cX11_comes 39 = .ok (.aload_n 0, 1) := by decide +kernel
theorem dX11_comes_40 : decode cX11_comes 40 = .ok (.getfield 90, 3) := by decide +kernel
theorem dX11_comes_43 : decode cX11_comes 43 = .ok (.getfield 146, 3) := by decide +kernel
theorem dX11_comes_46 : decode cX11_comes 46 = .ok (.iload_n 1, 1) := by decide +kernel
theorem dX11_comes_47 : decode cX11_comes 47 = .ok (.iaload, 1) := by decide +kernel
theorem dX11_comes_48 : decode cX11_comes 48 = .ok (.aload_n 0, 1) := by decide +kernel
theorem dX11_comes_49 : decode cX11_comes 49 = .ok (.getfield 42, 3) := by decide +kernel
theorem dX11_comes_52 : decode cX11_comes 52 = .ok (.getfield 56, 3) := by decide +kernel
theorem dX11_comes_55 : decode cX11_comes 55 = .ok (.getfield 179, 3) := by decide +kernel
theorem dX11_comes_58 : decode cX11_comes 58 = .ok (.if_icmp .ne 11, 3) := by decide +kernel
theorem dX11_comes_61 : decode cX11_comes 61 = .ok (.aload_n 0, 1) := by decide +kernel
theorem dX11_comes_62 : decode cX11_comes 62 = .ok (.getfield 90, 3) := by decide +kernel
theorem dX11_comes_65 : decode cX11_comes 65 = .ok (.getfield 185, 3) := by decide +kernel
theorem dX11_comes_68 : decode cX11_comes 68 = .ok (.ireturn, 1) := by decide +kernel
theorem dX11_comes_69 : decode cX11_comes 69 = .ok (.aload_n 0, 1) := by decide +kernel
theorem dX11_comes_70 : decode cX11_comes 70 = .ok (.getfield 63, 3) := by decide +kernel
theorem dX11_comes_73 : decode cX11_comes 73 = .ok (.aload_n 0, 1) := by decide +kernel
theorem dX11_comes_74 : decode cX11_comes 74 = .ok (.getfield 90, 3) := by decide +kernel
theorem dX11_comes_77 : decode cX11_comes 77 = .ok (.aload_n 0, 1) := by decide +kernel
theorem dX11_comes_78 : decode cX11_comes 78 = .ok (.invokevirtual 225, 3) := by decide +kernel
theorem dX11_comes_81 : decode cX11_comes 81 = .ok (.invokevirtual 229, 3) := by decide +kernel
theorem dX11_comes_84 : decode cX11_comes 84 = .ok (.pop, 1) := by decide +kernel
theorem dX11_comes_85 : decode cX11_comes 85 = .ok (.iinc 2 1, 3) := by decide +kernel
theorem dX11_comes_88 : decode cX11_comes 88 = .ok (.goto (-56), 3) := by decide +kernel
theorem dX11_comes_91 : decode cX11_comes 91 = .ok (.bipush (-2), 2) := by decide +kernel
theorem dX11_comes_93 : decode cX11_comes 93 = .ok (.ireturn, 1) := by decide +kernel
theorem dX11_wealth_0 : decode cX11_wealth 0 = .ok (.aload_n 0, 1) := by decide +kernel
theorem dX11_wealth_1 : decode cX11_wealth 1 = .ok (.getfield 42, 3) := by decide +kernel
theorem dX11_wealth_4 : decode cX11_wealth 4 = .ok (.getfield 56, 3) := by decide +kernel
theorem dX11_wealth_7 : decode cX11_wealth 7 = .ok (.getfield 217, 3) := by decide +kernel
theorem dX11_wealth_10 : decode cX11_wealth 10 = .ok (.ifCond .eq 13, 3) := by decide +kernel
theorem dX11_wealth_13 : decode cX11_wealth 13 = .ok (.iload_n 1, 1) := by decide +kernel
theorem dX11_wealth_14 : decode cX11_wealth 14 = .ok (.ifCond .lt 9, 3) := by decide +kernel
theorem dX11_wealth_17 : decode cX11_wealth 17 = .ok (.iload_n 1, 1) := by decide +kernel
theorem dX11_wealth_18 : decode cX11_wealth 18 = .ok (.bipush 100, 2) := by decide +kernel
theorem dX11_wealth_20 : decode cX11_wealth 20 = .ok (.if_icmp .le 5, 3) := by decide +kernel
theorem dX11_wealth_23 : decode cX11_wealth 23 = .ok (.iconst (-1), 1) := by decide +kernel
theorem dX11_wealth_24 : decode cX11_wealth 24 = .ok (.ireturn, 1) := by decide +kernel
theorem dX11_wealth_25 : decode cX11_wealth 25 = .ok (.aload_n 0, 1) := by decide +kernel
theorem dX11_wealth_26 : decode cX11_wealth 26 = .ok (.iload_n 1, 1) := by decide +kernel
theorem dX11_wealth_27 : decode cX11_wealth 27 = .ok (.invokevirtual 249, 3) := by decide +kernel
theorem dX11_wealth_30 : decode cX11_wealth 30 = .ok (.aload_n 0, 1) := by decide +kernel
theorem dX11_wealth_31 : decode cX11_wealth 31 = .ok (.getfield 63, 3) := by decide +kernel
theorem dX11_wealth_34 : decode cX11_wealth 34 = .ok (.aload_n 0, 1) := by decide +kernel
theorem dX11_wealth_35 : decode cX11_wealth 35 = .ok (.getfield 90, 3) := by decide +kernel
theorem dX11_wealth_38 : decode cX11_wealth 38 = .ok (.invokevirtual 192, 3) := by decide +kernel
theorem dX11_wealth_41 : decode cX11_wealth 41 = .ok (.ireturn, 1) := by decide +kernel
theorem dX11_robbed_0 : decode cX11_robbed 0 = .ok (.aload_n 0, 1) := by decide +kernel
theorem dX11_robbed_1 : decode cX11_robbed 1 = .ok (.getfield 42, 3) := by decide +kernel
theorem dX11_robbed_4 : decode cX11_robbed 4 = .ok (.getfield 56, 3) := by decide +kernel
theorem dX11_robbed_7 : decode cX11_robbed 7 = .ok (.getfield 217, 3) := by decide +kernel
theorem dX11_robbed_10 : decode cX11_robbed 10 = .ok (.ifCond .eq 23, 3) := by decide +kernel
theorem dX11_robbed_13 : decode cX11_robbed 13 = .ok (.iload_n 1, 1) := by decide +kernel
theorem dX11_robbed_14 : decode cX11_robbed 14 = .ok (.iconst 1, 1) := by decide +kernel
theorem dX11_robbed_15 : decode cX11_robbed 15 = .ok (.if_icmp .lt 18, 3) := by decide +kernel
theorem dX11_robbed_18 : decode cX11_robbed 18 = .ok (.iload_n 1, 1) := by decide +kernel
theorem dX11_robbed_19 : decode cX11_robbed 19 = .ok (.bipush 60, 2) := by decide +kernel
theorem dX11_robbed_21 : decode cX11_robbed 21 = .ok (.if_icmp .gt 12, 3) := by decide +kernel
theorem dX11_robbed_24 : decode cX11_robbed 24 = .ok (.iload_n 2, 1) := by decide +kernel
theorem dX11_robbed_25 : decode cX11_robbed 25 = .ok (.ifCond .lt 8, 3) := by decide +kernel
theorem dX11_robbed_28 : decode cX11_robbed 28 = .ok (.iload_n 2, 1) := by decide +kernel
theorem dX11_robbed_29 : decode cX11_robbed 29 = .ok (.iconst 1, 1) := by decide +kernel
theorem dX11_robbed_30 : decode cX11_robbed 30 = .ok (.if_icmp .le 6, 3) := by decide +kernel
theorem dX11_robbed_33 : decode cX11_robbed 33 = .ok (.bipush (-2), 2) := by decide +kernel
theorem dX11_robbed_35 : decode cX11_robbed 35 = .ok (.ireturn, 1) := by decide +kernel
theorem dX11_robbed_36 : decode cX11_robbed 36 = .ok (.iconst (-1), 1) := by decide +kernel
theorem dX11_robbed_37 : decode cX11_robbed 37 = .ok (.istore_n 3, 1) := by decide +kernel
theorem dX11_robbed_38 : decode cX11_robbed 38 = .ok (.aload_n 0, 1) := by decide +kernel
theorem dX11_robbed_39 : decode cX11_robbed 39 = .ok (.iconst (-1), 1) := by decide +kernel
theorem dX11_robbed_40 : decode cX11_robbed 40 = .ok (.iload_n 1, 1) := by decide +kernel
theorem dX11_robbed_41 : decode cX11_robbed 41 = .ok (.invokevirtual 255, 3) := by decide +kernel
theorem dX11_robbed_44 : decode cX11_robbed 44 = .ok (.istore 4, 2) := by decide +kernel
theorem dX11_robbed_46 : decode cX11_robbed 46 = .ok (.iconst 0, 1) := by decide +kernel
theorem dX11_robbed_47 : decode cX11_robbed 47 = .ok (.istore 5, 2) := by decide +kernel
theorem dX11_robbed_49 : decode cX11_robbed 49 = .ok (.iload 5, 2) := by decide +kernel
theorem dX11_robbed_51 : decode cX11_robbed 51 = .ok (.aload_n 0, 1) := by decide +kernel
theorem dX11_robbed_52 : decode cX11_robbed 52 = .ok (.getfield 42, 3) := by decide +kernel
theorem dX11_robbed_55 : decode cX11_robbed 55 = .ok (.getfield 56, 3) := by decide +kernel
theorem dX11_robbed_58 : decode cX11_robbed 58 = .ok (.getfield 182, 3) := by decide +kernel
theorem dX11_robbed_61 : decode cX11_robbed 61 = .ok (.if_icmp .ge 32, 3) := by decide +kernel
theorem dX11_robbed_64 : decode cX11_robbed 64 = .ok (.aload_n 0, 1) := by decide +kernel
theorem dX11_robbed_65 : decode cX11_robbed 65 = .ok (.iload 5, 2) := by decide +kernel
theorem dX11_robbed_67 : decode cX11_robbed 67 = .ok (.iload_n 1, 1) := by decide +kernel
theorem dX11_robbed_68 : decode cX11_robbed 68 = .ok (.invokevirtual 255, 3) := by decide +kernel
theorem dX11_robbed_71 : decode cX11_robbed 71 = .ok (.istore 6, 2) := by decide +kernel
theorem dX11_robbed_73 : decode cX11_robbed 73 = .ok (.iload 6, 2) := by decide +kernel
theorem dX11_robbed_75 : decode cX11_robbed 75 = .ok (.iload 4, 2) := by decide +kernel
theorem dX11_robbed_77 : decode cX11_robbed 77 = .ok (.if_icmp .le 10, 3) := by decide +kernel
theorem dX11_robbed_80 : decode cX11_robbed 80 = .ok (.iload 6, 2) := by decide +kernel
theorem dX11_robbed_82 : decode cX11_robbed 82 = .ok (.istore 4, 2) := by decide +kernel
theorem dX11_robbed_84 : decode cX11_robbed 84 = .ok (.iload 5, 2) := by decide +kernel
theorem dX11_robbed_86 : decode cX11_robbed 86 = .ok (.istore_n 3, 1) := by decide +kernel
theorem dX11_robbed_87 : decode cX11_robbed 87 = .ok (.iinc 5 1, 3) := by decide +kernel
theorem dX11_robbed_90 : decode cX11_robbed 90 = .ok (.goto (-41), 3) := by decide +kernel
theorem dX11_robbed_93 : decode cX11_robbed 93 = .ok (.iload_n 2, 1) := by decide +kernel
theorem dX11_robbed_94 : decode cX11_robbed 94 = .ok (.ifCond .ne 7, 3) := by decide +kernel
theorem dX11_robbed_97 : decode cX11_robbed 97 = .ok (.iload_n 3, 1) := by decide +kernel
theorem dX11_robbed_98 : decode cX11_robbed 98 = .ok (.goto 5, 3) := by decide +kernel
theorem dX11_robbed_101 : decode cX11_robbed 101 = .ok (.iload 4, 2) := by decide +kernel
theorem dX11_robbed_103 : decode cX11_robbed 103 = .ok (.ireturn, 1) := by decide +kernel
theorem dX11_wealthWithout_0 : decode cX11_wealthWithout 0 = .ok (.aload_n 0, 1) := by decide +kernel
theorem dX11_wealthWithout_1 : decode cX11_wealthWithout 1 = .ok (.getfield 90, 3) := by decide +kernel
theorem dX11_wealthWithout_4 : decode cX11_wealthWithout 4 = .ok (.aload_n 0, 1) := by decide +kernel
theorem dX11_wealthWithout_5 : decode cX11_wealthWithout 5 = .ok (.getfield 42, 3) := by decide +kernel
theorem dX11_wealthWithout_8 : decode cX11_wealthWithout 8 = .ok (.getfield 69, 3) := by decide +kernel
theorem dX11_wealthWithout_11 : decode cX11_wealthWithout 11 = .ok (.invokevirtual 252, 3) := by decide +kernel
theorem dX11_wealthWithout_14 : decode cX11_wealthWithout 14 = .ok (.aload_n 0, 1) := by decide +kernel
theorem dX11_wealthWithout_15 : decode cX11_wealthWithout 15 = .ok (.getfield 42, 3) := by decide +kernel
theorem dX11_wealthWithout_18 : decode cX11_wealthWithout 18 = .ok (.getfield 56, 3) := by decide +kernel
theorem dX11_wealthWithout_21 : decode cX11_wealthWithout 21 = .ok (.iload_n 1, 1) := by decide +kernel
theorem dX11_wealthWithout_22 : decode cX11_wealthWithout 22 = .ok (.invokevirtual 158, 3) := by decide +kernel
theorem dX11_wealthWithout_25 : decode cX11_wealthWithout 25 = .ok (.ifCond .eq 13, 3) := by decide +kernel
theorem dX11_wealthWithout_28 : decode cX11_wealthWithout 28 = .ok (.aload_n 0, 1) := by decide +kernel
theorem dX11_wealthWithout_29 : decode cX11_wealthWithout 29 = .ok (.getfield 90, 3) := by decide +kernel
theorem dX11_wealthWithout_32 : decode cX11_wealthWithout 32 = .ok (.getfield 167, 3) := by decide +kernel
theorem dX11_wealthWithout_35 : decode cX11_wealthWithout 35 = .ok (.iload_n 1, 1) := by decide +kernel
theorem dX11_wealthWithout_36 : decode cX11_wealthWithout 36 = .ok (.iconst (-1), 1) := by decide +kernel
theorem dX11_wealthWithout_37 : decode cX11_wealthWithout 37 = .ok (.iastore, 1) := by decide +kernel
theorem dX11_wealthWithout_38 : decode cX11_wealthWithout 38 = .ok (.aload_n 0, 1) := by decide +kernel
theorem dX11_wealthWithout_39 : decode cX11_wealthWithout 39 = .ok (.getfield 63, 3) := by decide +kernel
theorem dX11_wealthWithout_42 : decode cX11_wealthWithout 42 = .ok (.aload_n 0, 1) := by decide +kernel
theorem dX11_wealthWithout_43 : decode cX11_wealthWithout 43 = .ok (.getfield 90, 3) := by decide +kernel
theorem dX11_wealthWithout_46 : decode cX11_wealthWithout 46 = .ok (.aload_n 0, 1) := by decide +kernel
theorem dX11_wealthWithout_47 : decode cX11_wealthWithout 47 = .ok (.invokevirtual 225, 3) := by decide +kernel
theorem dX11_wealthWithout_50 : decode cX11_wealthWithout 50 = .ok (.iload_n 2, 1) := by decide +kernel
theorem dX11_wealthWithout_51 : decode cX11_wealthWithout 51 = .ok (.invokevirtual 259, 3) := by decide +kernel
theorem dX11_wealthWithout_54 : decode cX11_wealthWithout 54 = .ok (.aload_n 0, 1) := by decide +kernel
theorem dX11_wealthWithout_55 : decode cX11_wealthWithout 55 = .ok (.getfield 63, 3) := by decide +kernel
theorem dX11_wealthWithout_58 : decode cX11_wealthWithout 58 = .ok (.aload_n 0, 1) := by decide +kernel
theorem dX11_wealthWithout_59 : decode cX11_wealthWithout 59 = .ok (.getfield 90, 3) := by decide +kernel
theorem dX11_wealthWithout_62 : decode cX11_wealthWithout 62 = .ok (.invokevirtual 192, 3) := by decide +kernel
theorem dX11_wealthWithout_65 : decode cX11_wealthWithout 65 = .ok (.ireturn, 1) := by decide +kernel
theorem dX11_far_0 : decode cX11_far 0 = .ok (.aload_n 0, 1) := by decide +kernel
theorem dX11_far_1 : decode cX11_far 1 = .ok (.iload_n 1, 1) := by decide +kernel
theorem dX11_far_2 : decode cX11_far 2 = .ok (.invokevirtual 233, 3) := by decide +kernel
theorem dX11_far_5 : decode cX11_far 5 = .ok (.ifCond .eq 14, 3) := by decide +kernel
theorem dX11_far_8 : decode cX11_far 8 = .ok (.aload_n 0, 1) := by decide +kernel
theorem dX11_far_9 : decode cX11_far 9 = .ok (.getfield 76, 3) := by decide +kernel
theorem dX11_far_12 : decode cX11_far 12 = .ok (.iload_n 2, 1) := by decide +kernel
theorem dX11_far_13 : decode cX11_far 13 = .ok (.invokevirtual 263, 3) := by decide +kernel
theorem dX11_far_16 : decode cX11_far 16 = .ok (.ifCond .ne 5, 3) := by decide +kernel
theorem dX11_far_19 : decode cX11_far 19 = .ok (.iconst (-1), 1) := by decide +kernel
theorem dX11_far_20 : decode cX11_far 20 = .ok (.ireturn, 1) := by decide +kernel
theorem dX11_far_21 : decode cX11_far 21 = .ok (.aload_n 0, 1) := by decide +kernel
theorem dX11_far_22 : decode cX11_far 22 = .ok (.getfield 76, 3) := by decide +kernel
theorem dX11_far_25 : decode cX11_far 25 = .ok (.iload_n 1, 1) := by decide +kernel
theorem dX11_far_26 : decode cX11_far 26 = .ok (.iload_n 2, 1) := by decide +kernel
theorem dX11_far_27 : decode cX11_far 27 = .ok (.invokevirtual 266, 3) := by decide +kernel
theorem dX11_far_30 : decode cX11_far 30 = .ok (.ireturn, 1) := by decide +kernel
theorem dX11_load_0 : decode cX11_load 0 = .ok (.aload_n 0, 1) := by decide +kernel
theorem dX11_load_1 : decode cX11_load 1 = .ok (.iload_n 1, 1) := by decide +kernel
theorem dX11_load_2 : decode cX11_load 2 = .ok (.invokevirtual 233, 3) := by decide +kernel
theorem dX11_load_5 : decode cX11_load 5 = .ok (.ifCond .eq 23, 3) := by decide +kernel
theorem dX11_load_8 : decode cX11_load 8 = .ok (.iload_n 2, 1) := by decide +kernel
theorem dX11_load_9 : decode cX11_load 9 = .ok (.iconst 1, 1) := by decide +kernel
theorem dX11_load_10 : decode cX11_load 10 = .ok (.if_icmp .lt 18, 3) := by decide +kernel
theorem dX11_load_13 : decode cX11_load 13 = .ok (.iload_n 2, 1) := by decide +kernel
theorem dX11_load_14 : decode cX11_load 14 = .ok (.bipush 60, 2) := by decide +kernel
theorem dX11_load_16 : decode cX11_load 16 = .ok (.if_icmp .gt 12, 3) := by decide +kernel
theorem dX11_load_19 : decode cX11_load 19 = .ok (.iload_n 3, 1) := by decide +kernel
theorem dX11_load_20 : decode cX11_load 20 = .ok (.ifCond .lt 8, 3) := by decide +kernel
theorem dX11_load_23 : decode cX11_load 23 = .ok (.iload_n 3, 1) := by decide +kernel
theorem dX11_load_24 : decode cX11_load 24 = .ok (.iconst 2, 1) := by decide +kernel
theorem dX11_load_25 : decode cX11_load 25 = .ok (.if_icmp .le 5, 3) := by decide +kernel
theorem dX11_load_28 : decode cX11_load 28 = .ok (.iconst (-1), 1) := by decide +kernel
theorem dX11_load_29 : decode cX11_load 29 = .ok (.ireturn, 1) := by decide +kernel
theorem dX11_load_30 : decode cX11_load 30 = .ok (.aload_n 0, 1) := by decide +kernel
theorem dX11_load_31 : decode cX11_load 31 = .ok (.getfield 76, 3) := by decide +kernel
theorem dX11_load_34 : decode cX11_load 34 = .ok (.iload_n 1, 1) := by decide +kernel
theorem dX11_load_35 : decode cX11_load 35 = .ok (.iload_n 2, 1) := by decide +kernel
theorem dX11_load_36 : decode cX11_load 36 = .ok (.invokevirtual 269, 3) := by decide +kernel
theorem dX11_load_39 : decode cX11_load 39 = .ok (.istore 4, 2) := by decide +kernel
theorem dX11_load_41 : decode cX11_load 41 = .ok (.iload 4, 2) := by decide +kernel
theorem dX11_load_43 : decode cX11_load 43 = .ok (.iconst (-1), 1) := by decide +kernel
theorem dX11_load_44 : decode cX11_load 44 = .ok (.if_icmp .ne 6, 3) := by decide +kernel
theorem dX11_load_47 : decode cX11_load 47 = .ok (.bipush (-2), 2) := by decide +kernel
theorem dX11_load_49 : decode cX11_load 49 = .ok (.ireturn, 1) := by decide +kernel
theorem dX11_load_50 : decode cX11_load 50 = .ok (.iload_n 3, 1) := by decide +kernel
theorem dX11_load_51 : decode cX11_load 51 = .ok (.lookupswitch 41 #[(0, 25), (1, 28)], 25) := by decide +kernel
theorem dX11_load_76 : decode cX11_load 76 = .ok (.iload 4, 2) := by decide +kernel
theorem dX11_load_78 : decode cX11_load 78 = .ok (.ireturn, 1) := by decide +kernel
theorem dX11_load_79 : decode cX11_load 79 = .ok (.aload_n 0, 1) := by decide +kernel
theorem dX11_load_80 : decode cX11_load 80 = .ok (.getfield 42, 3) := by decide +kernel
theorem dX11_load_83 : decode cX11_load 83 = .ok (.getfield 56, 3) := by decide +kernel
theorem dX11_load_86 : decode cX11_load 86 = .ok (.iload 4, 2) := by decide +kernel
theorem dX11_load_88 : decode cX11_load 88 = .ok (.invokevirtual 155, 3) := by decide +kernel
theorem dX11_load_91 : decode cX11_load 91 = .ok (.ireturn, 1) := by decide +kernel
theorem dX11_load_92 : decode cX11_load 92 = .ok (.aload_n 0, 1) := by decide +kernel
theorem dX11_load_93 : decode cX11_load 93 = .ok (.getfield 76, 3) := by decide +kernel
theorem dX11_load_96 : decode cX11_load 96 = .ok (.iload_n 1, 1) := by decide +kernel
theorem dX11_load_97 : decode cX11_load 97 = .ok (.iload 4, 2) := by decide +kernel
theorem dX11_load_99 : decode cX11_load 99 = .ok (.invokevirtual 266, 3) := by decide +kernel
theorem dX11_load_102 : decode cX11_load 102 = .ok (.ireturn, 1) := by decide +kernel
theorem dX11_had_0 : decode cX11_had 0 = .ok (.aload_n 0, 1) := by decide +kernel
theorem dX11_had_1 : decode cX11_had 1 = .ok (.getfield 42, 3) := by decide +kernel
theorem dX11_had_4 : decode cX11_had 4 = .ok (.getfield 56, 3) := by decide +kernel
theorem dX11_had_7 : decode cX11_had 7 = .ok (.iload_n 1, 1) := by decide +kernel
theorem dX11_had_8 : decode cX11_had 8 = .ok (.invokevirtual 135, 3) := by decide +kernel
theorem dX11_had_11 : decode cX11_had 11 = .ok (.ifCond .eq 50, 3) := by decide +kernel
theorem dX11_had_14 : decode cX11_had 14 = .ok (.iload_n 2, 1) := by decide +kernel
theorem dX11_had_15 : decode cX11_had 15 = .ok (.ifCond .lt 46, 3) := by decide +kernel
theorem dX11_had_18 : decode cX11_had 18 = .ok (.iload_n 3, 1) := by decide +kernel
theorem dX11_had_19 : decode cX11_had 19 = .ok (.iload_n 2, 1) := by decide +kernel
theorem dX11_had_20 : decode cX11_had 20 = .ok (.if_icmp .le 41, 3) := by decide +kernel
theorem dX11_had_23 : decode cX11_had 23 = .ok (.iload_n 3, 1) := by decide +kernel
theorem dX11_had_24 : decode cX11_had 24 = .ok (.aload_n 0, 1) := by decide +kernel
theorem dX11_had_25 : decode cX11_had 25 = .ok (.getfield 42, 3) := by decide +kernel
theorem dX11_had_28 : decode cX11_had 28 = .ok (.getfield 56, 3) := by decide +kernel
theorem dX11_had_31 : decode cX11_had 31 = .ok (.getfield 179, 3) := by decide +kernel
theorem dX11_had_34 : decode cX11_had 34 = .ok (.if_icmp .gt 27, 3) := by decide +kernel
theorem dX11_had_37 : decode cX11_had 37 = .ok (.iload 4, 2) := by decide +kernel
theorem dX11_had_39 : decode cX11_had 39 = .ok (.iconst 1, 1) := by decide +kernel
theorem dX11_had_40 : decode cX11_had 40 = .ok (.if_icmp .lt 21, 3) := by decide +kernel
theorem dX11_had_43 : decode cX11_had 43 = .ok (.iload 4, 2) := by decide +kernel
theorem dX11_had_45 : decode cX11_had 45 = .ok (.bipush 100, 2) := by decide +kernel
theorem dX11_had_47 : decode cX11_had 47 = .ok (.if_icmp .gt 14, 3) := by decide +kernel
theorem dX11_had_50 : decode cX11_had 50 = .ok (.iload 5, 2) := by decide +kernel
theorem dX11_had_52 : decode cX11_had 52 = .ok (.ifCond .lt 9, 3) := by decide +kernel
theorem dX11_had_55 : decode cX11_had 55 = .ok (.iload 5, 2) := by decide +kernel
theorem dX11_had_57 : decode cX11_had 57 = .ok (.iconst 2, 1) := by decide +kernel
theorem dX11_had_58 : decode cX11_had 58 = .ok (.if_icmp .le 6, 3) := by decide +kernel
theorem dX11_had_61 : decode cX11_had 61 = .ok (.bipush (-3), 2) := by decide +kernel
theorem dX11_had_63 : decode cX11_had 63 = .ok (.ireturn, 1) := by decide +kernel
theorem dX11_had_64 : decode cX11_had 64 = .ok (.aload_n 0, 1) := by decide +kernel
theorem dX11_had_65 : decode cX11_had 65 = .ok (.getfield 76, 3) := by decide +kernel
theorem dX11_had_68 : decode cX11_had 68 = .ok (.iload_n 1, 1) := by decide +kernel
theorem dX11_had_69 : decode cX11_had 69 = .ok (.iload_n 2, 1) := by decide +kernel
theorem dX11_had_70 : decode cX11_had 70 = .ok (.iload_n 3, 1) := by decide +kernel
theorem dX11_had_71 : decode cX11_had 71 = .ok (.iload 4, 2) := by decide +kernel
theorem dX11_had_73 : decode cX11_had 73 = .ok (.iload 5, 2) := by decide +kernel
theorem dX11_had_75 : decode cX11_had 75 = .ok (.invokevirtual 272, 3) := by decide +kernel
theorem dX11_had_78 : decode cX11_had 78 = .ok (.ireturn, 1) := by decide +kernel
theorem dX11_exchange_0 : decode cX11_exchange 0 = .ok (.aload_n 0, 1) := by decide +kernel
theorem dX11_exchange_1 : decode cX11_exchange 1 = .ok (.iload_n 1, 1) := by decide +kernel
theorem dX11_exchange_2 : decode cX11_exchange 2 = .ok (.iload_n 2, 1) := by decide +kernel
theorem dX11_exchange_3 : decode cX11_exchange 3 = .ok (.invokevirtual 242, 3) := by decide +kernel
theorem dX11_exchange_6 : decode cX11_exchange 6 = .ok (.ifCond .eq 12, 3) := by decide +kernel
theorem dX11_exchange_9 : decode cX11_exchange 9 = .ok (.iload_n 3, 1) := by decide +kernel
theorem dX11_exchange_10 : decode cX11_exchange 10 = .ok (.ifCond .lt 8, 3) := by decide +kernel
theorem dX11_exchange_13 : decode cX11_exchange 13 = .ok (.iload_n 3, 1) := by decide +kernel
theorem dX11_exchange_14 : decode cX11_exchange 14 = .ok (.iconst 2, 1) := by decide +kernel
theorem dX11_exchange_15 : decode cX11_exchange 15 = .ok (.if_icmp .le 6, 3) := by decide +kernel
theorem dX11_exchange_18 : decode cX11_exchange 18 = .ok (.bipush (-2), 2) := by decide +kernel
theorem dX11_exchange_20 : decode cX11_exchange 20 = .ok (.ireturn, 1) := by decide +kernel
theorem dX11_exchange_21 : decode cX11_exchange 21 = .ok (.aload_n 0, 1) := by decide +kernel
theorem dX11_exchange_22 : decode cX11_exchange 22 = .ok (.getfield 76, 3) := by decide +kernel
theorem dX11_exchange_25 : decode cX11_exchange 25 = .ok (.iload_n 1, 1) := by decide +kernel
theorem dX11_exchange_26 : decode cX11_exchange 26 = .ok (.iload_n 2, 1) := by decide +kernel
theorem dX11_exchange_27 : decode cX11_exchange 27 = .ok (.invokevirtual 276, 3) := by decide +kernel
theorem dX11_exchange_30 : decode cX11_exchange 30 = .ok (.istore 4, 2) := by decide +kernel
theorem dX11_exchange_32 : decode cX11_exchange 32 = .ok (.iload_n 3, 1) := by decide +kernel
theorem dX11_exchange_33 : decode cX11_exchange 33 = .ok (.ifCond .ne 15, 3) := by decide +kernel
theorem dX11_exchange_36 : decode cX11_exchange 36 = .ok (.aload_n 0, 1) := by decide +kernel
theorem dX11_exchange_37 : decode cX11_exchange 37 = .ok (.getfield 76, 3) := by decide +kernel
theorem dX11_exchange_40 : decode cX11_exchange 40 = .ok (.iload_n 1, 1) := by decide +kernel
theorem dX11_exchange_41 : decode cX11_exchange 41 = .ok (.iload_n 2, 1) := by decide +kernel
theorem dX11_exchange_42 : decode cX11_exchange 42 = .ok (.iload 4, 2) := by decide +kernel
theorem dX11_exchange_44 : decode cX11_exchange 44 = .ok (.invokevirtual 279, 3) := by decide +kernel
theorem dX11_exchange_47 : decode cX11_exchange 47 = .ok (.ireturn, 1) := by decide +kernel
theorem dX11_exchange_48 : decode cX11_exchange 48 = .ok (.iload 4, 2) := by decide +kernel
theorem dX11_exchange_50 : decode cX11_exchange 50 = .ok (.iconst (-1), 1) := by decide +kernel
theorem dX11_exchange_51 : decode cX11_exchange 51 = .ok (.if_icmp .ne 5, 3) := by decide +kernel
theorem dX11_exchange_54 : decode cX11_exchange 54 = .ok (.iconst (-1), 1) := by decide +kernel
theorem dX11_exchange_55 : decode cX11_exchange 55 = .ok (.ireturn, 1) := by decide +kernel
theorem dX11_exchange_56 : decode cX11_exchange 56 = .ok (.iload_n 3, 1) := by decide +kernel
theorem dX11_exchange_57 : decode cX11_exchange 57 = .ok (.iconst 1, 1) := by decide +kernel
theorem dX11_exchange_58 : decode cX11_exchange 58 = .ok (.if_icmp .ne 11, 3) := by decide +kernel
theorem dX11_exchange_61 : decode cX11_exchange 61 = .ok (.iload 4, 2) := by decide +kernel
theorem dX11_exchange_63 : decode cX11_exchange 63 = .ok (.bipush 6, 2) := by decide +kernel
theorem dX11_exchange_65 : decode cX11_exchange 65 = .ok (.idiv, 1) := by decide +kernel
theorem dX11_exchange_66 : decode cX11_exchange 66 = .ok (.goto 8, 3) := by decide +kernel
theorem dX11_exchange_69 : decode cX11_exchange 69 = .ok (.iload 4, 2) := by decide +kernel
theorem dX11_exchange_71 : decode cX11_exchange 71 = .ok (.bipush 6, 2) := by decide +kernel
theorem dX11_exchange_73 : decode cX11_exchange 73 = .ok (.irem, 1) := by decide +kernel
theorem dX11_exchange_74 : decode cX11_exchange 74 = .ok (.ireturn, 1) := by decide +kernel
theorem dX11_game_0 : decode cX11_game 0 = .ok (.aload_n 0, 1) := by decide +kernel
theorem dX11_game_1 : decode cX11_game 1 = .ok (.iload_n 1, 1) := by decide +kernel
theorem dX11_game_2 : decode cX11_game 2 = .ok (.iload_n 2, 1) := by decide +kernel
theorem dX11_game_3 : decode cX11_game 3 = .ok (.invokevirtual 242, 3) := by decide +kernel
theorem dX11_game_6 : decode cX11_game 6 = .ok (.ifCond .eq 12, 3) := by decide +kernel
theorem dX11_game_9 : decode cX11_game 9 = .ok (.iload_n 3, 1) := by decide +kernel
theorem dX11_game_10 : decode cX11_game 10 = .ok (.ifCond .lt 8, 3) := by decide +kernel
theorem dX11_game_13 : decode cX11_game 13 = .ok (.iload_n 3, 1) := by decide +kernel
theorem dX11_game_14 : decode cX11_game 14 = .ok (.iconst 1, 1) := by decide +kernel
theorem dX11_game_15 : decode cX11_game 15 = .ok (.if_icmp .le 7, 3) := by decide +kernel
theorem dX11_game_18 : decode cX11_game 18 = .ok (.sipush (-10000), 3) := by decide +kernel
theorem dX11_game_21 : decode cX11_game 21 = .ok (.ireturn, 1) := by decide +kernel
theorem dX11_game_22 : decode cX11_game 22 = .ok (.aload_n 0, 1) := by decide +kernel
theorem dX11_game_23 : decode cX11_game 23 = .ok (.getfield 83, 3) := by decide +kernel
theorem dX11_game_26 : decode cX11_game 26 = .ok (.iload_n 1, 1) := by decide +kernel
theorem dX11_game_27 : decode cX11_game 27 = .ok (.iload_n 2, 1) := by decide +kernel
theorem dX11_game_28 : decode cX11_game 28 = .ok (.invokevirtual 283, 3) := by decide +kernel
theorem dX11_game_31 : decode cX11_game 31 = .ok (.iload_n 3, 1) := by decide +kernel
theorem dX11_game_32 : decode cX11_game 32 = .ok (.ifCond .ne 13, 3) := by decide +kernel
theorem dX11_game_35 : decode cX11_game 35 = .ok (.aload_n 0, 1) := by decide +kernel
theorem dX11_game_36 : decode cX11_game 36 = .ok (.getfield 83, 3) := by decide +kernel
theorem dX11_game_39 : decode cX11_game 39 = .ok (.getfield 287, 3) := by decide +kernel
theorem dX11_game_42 : decode cX11_game 42 = .ok (.goto 10, 3) := by decide +kernel
theorem dX11_game_45 : decode cX11_game 45 = .ok (.aload_n 0, 1) := by decide +kernel
theorem dX11_game_46 : decode cX11_game 46 = .ok (.getfield 83, 3) := by decide +kernel
theorem dX11_game_49 : decode cX11_game 49 = .ok (.getfield 290, 3) := by decide +kernel
theorem dX11_game_52 : decode cX11_game 52 = .ok (.ireturn, 1) := by decide +kernel
theorem dX11_pence_0 : decode cX11_pence 0 = .ok (.aload_n 0, 1) := by decide +kernel
theorem dX11_pence_1 : decode cX11_pence 1 = .ok (.getfield 42, 3) := by decide +kernel
theorem dX11_pence_4 : decode cX11_pence 4 = .ok (.getfield 56, 3) := by decide +kernel
theorem dX11_pence_7 : decode cX11_pence 7 = .ok (.iload_n 2, 1) := by decide +kernel
theorem dX11_pence_8 : decode cX11_pence 8 = .ok (.invokevirtual 135, 3) := by decide +kernel
theorem dX11_pence_11 : decode cX11_pence 11 = .ok (.ifCond .eq 14, 3) := by decide +kernel
theorem dX11_pence_14 : decode cX11_pence 14 = .ok (.iload_n 1, 1) := by decide +kernel
theorem dX11_pence_15 : decode cX11_pence 15 = .ok (.ifCond .lt 10, 3) := by decide +kernel
theorem dX11_pence_18 : decode cX11_pence 18 = .ok (.iload_n 1, 1) := by decide +kernel
theorem dX11_pence_19 : decode cX11_pence 19 = .ok (.sipush 9999, 3) := by decide +kernel
theorem dX11_pence_22 : decode cX11_pence 22 = .ok (.if_icmp .le 5, 3) := by decide +kernel
theorem dX11_pence_25 : decode cX11_pence 25 = .ok (.iconst (-1), 1) := by decide +kernel
theorem dX11_pence_26 : decode cX11_pence 26 = .ok (.ireturn, 1) := by decide +kernel
theorem dX11_pence_27 : decode cX11_pence 27 = .ok (.aload_n 0, 1) := by decide +kernel
theorem dX11_pence_28 : decode cX11_pence 28 = .ok (.getfield 76, 3) := by decide +kernel
theorem dX11_pence_31 : decode cX11_pence 31 = .ok (.iload_n 1, 1) := by decide +kernel
theorem dX11_pence_32 : decode cX11_pence 32 = .ok (.iload_n 2, 1) := by decide +kernel
theorem dX11_pence_33 : decode cX11_pence 33 = .ok (.invokevirtual 293, 3) := by decide +kernel
theorem dX11_pence_36 : decode cX11_pence 36 = .ok (.ireturn, 1) := by decide +kernel
theorem dX11_note_0 : decode cX11_note 0 = .ok (.iload_n 1, 1) := by decide +kernel
theorem dX11_note_1 : decode cX11_note 1 = .ok (.iconst (-1), 1) := by decide +kernel
theorem dX11_note_2 : decode cX11_note 2 = .ok (.if_icmp .ne 13, 3) := by decide +kernel
theorem dX11_note_5 : decode cX11_note 5 = .ok (.aload_n 0, 1) := by decide +kernel
theorem dX11_note_6 : decode cX11_note 6 = .ok (.getfield 42, 3) := by decide +kernel
theorem dX11_note_9 : decode cX11_note 9 = .ok (.iconst 0, 1) := by decide +kernel
theorem dX11_note_10 : decode cX11_note 10 = .ok (.putfield 202, 3) := by decide +kernel
theorem dX11_note_13 : decode cX11_note 13 = .ok (.iconst 0, 1) := by decide +kernel
theorem dX11_note_14 : decode cX11_note 14 = .ok (.ireturn, 1) := by decide +kernel
theorem dX11_note_15 : decode cX11_note 15 = .ok (.iload_n 1, 1) := by decide +kernel
theorem dX11_note_16 : decode cX11_note 16 = .ok (.ifCond .lt 47, 3) := by decide +kernel
theorem dX11_note_19 : decode cX11_note 19 = .ok (.iload_n 1, 1) := by decide +kernel
theorem dX11_note_20 : decode cX11_note 20 = .ok (.bipush 60, 2) := by decide +kernel
theorem dX11_note_22 : decode cX11_note 22 = .ok (.if_icmp .gt 41, 3) := by decide +kernel
theorem dX11_note_25 : decode cX11_note 25 = .ok (.aload_n 0, 1) := by decide +kernel
theorem dX11_note_26 : decode cX11_note 26 = .ok (.getfield 42, 3) := by decide +kernel
theorem dX11_note_29 : decode cX11_note 29 = .ok (.getfield 56, 3) := by decide +kernel
theorem dX11_note_32 : decode cX11_note 32 = .ok (.iload_n 2, 1) := by decide +kernel
theorem dX11_note_33 : decode cX11_note 33 = .ok (.invokevirtual 135, 3) := by decide +kernel
theorem dX11_note_36 : decode cX11_note 36 = .ok (.ifCond .eq 27, 3) := by decide +kernel
theorem dX11_note_39 : decode cX11_note 39 = .ok (.aload_n 0, 1) := by decide +kernel
theorem dX11_note_40 : decode cX11_note 40 = .ok (.getfield 42, 3) := by decide +kernel
theorem dX11_note_43 : decode cX11_note 43 = .ok (.getfield 56, 3) := by decide +kernel
theorem dX11_note_46 : decode cX11_note 46 = .ok (.iload_n 3, 1) := by decide +kernel
theorem dX11_note_47 : decode cX11_note 47 = .ok (.invokevirtual 296, 3) := by decide +kernel
theorem dX11_note_50 : decode cX11_note 50 = .ok (.ifCond .eq 13, 3) := by decide +kernel
theorem dX11_note_53 : decode cX11_note 53 = .ok (.aload_n 0, 1) := by decide +kernel
theorem dX11_note_54 : decode cX11_note 54 = .ok (.getfield 42, 3) := by decide +kernel
theorem dX11_note_57 : decode cX11_note 57 = .ok (.invokevirtual 299, 3) := by decide +kernel
theorem dX11_note_60 : decode cX11_note 60 = .ok (.ifCond .ne 6, 3) := by decide +kernel
theorem dX11_note_63 : decode cX11_note 63 = .ok (.bipush (-2), 2) := by decide +kernel
theorem dX11_note_65 : decode cX11_note 65 = .ok (.ireturn, 1) := by decide +kernel
theorem dX11_note_66 : decode cX11_note 66 = .ok (.aload_n 0, 1) := by decide +kernel
theorem dX11_note_67 : decode cX11_note 67 = .ok (.getfield 42, 3) := by decide +kernel
theorem dX11_note_70 : decode cX11_note 70 = .ok (.iload_n 1, 1) := by decide +kernel
theorem dX11_note_71 : decode cX11_note 71 = .ok (.iload_n 2, 1) := by decide +kernel
theorem dX11_note_72 : decode cX11_note 72 = .ok (.iload_n 3, 1) := by decide +kernel
theorem dX11_note_73 : decode cX11_note 73 = .ok (.invokevirtual 302, 3) := by decide +kernel
theorem dX11_note_76 : decode cX11_note 76 = .ok (.aload_n 0, 1) := by decide +kernel
theorem dX11_note_77 : decode cX11_note 77 = .ok (.getfield 42, 3) := by decide +kernel
theorem dX11_note_80 : decode cX11_note 80 = .ok (.getfield 202, 3) := by decide +kernel
theorem dX11_note_83 : decode cX11_note 83 = .ok (.ireturn, 1) := by decide +kernel
theorem dX11_ruled_0 : decode cX11_ruled 0 = .ok (.aload_n 0, 1) := by decide +kernel
theorem dX11_ruled_1 : decode cX11_ruled 1 = .ok (.getfield 42, 3) := by decide +kernel
theorem dX11_ruled_4 : decode cX11_ruled 4 = .ok (.getfield 56, 3) := by decide +kernel
theorem dX11_ruled_7 : decode cX11_ruled 7 = .ok (.getfield 217, 3) := by decide +kernel
theorem dX11_ruled_10 : decode cX11_ruled 10 = .ok (.ifCond .eq 12, 3) := by decide +kernel
theorem dX11_ruled_13 : decode cX11_ruled 13 = .ok (.iload_n 1, 1) := by decide +kernel
theorem dX11_ruled_14 : decode cX11_ruled 14 = .ok (.ifCond .lt 8, 3) := by decide +kernel
theorem dX11_ruled_17 : decode cX11_ruled 17 = .ok (.iload_n 1, 1) := by decide +kernel
theorem dX11_ruled_18 : decode cX11_ruled 18 = .ok (.iconst 1, 1) := by decide +kernel
theorem dX11_ruled_19 : decode cX11_ruled 19 = .ok (.if_icmp .le 6, 3) := by decide +kernel
theorem dX11_ruled_22 : decode cX11_ruled 22 = .ok (.bipush (-3), 2) := by decide +kernel
theorem dX11_ruled_24 : decode cX11_ruled 24 = .ok (.ireturn, 1) := by decide +kernel
theorem dX11_ruled_25 : decode cX11_ruled 25 = .ok (.iconst 0, 1) := by decide +kernel
theorem dX11_ruled_26 : decode cX11_ruled 26 = .ok (.istore_n 2, 1) := by decide +kernel
theorem dX11_ruled_27 : decode cX11_ruled 27 = .ok (.bipush (-2), 2) := by decide +kernel
theorem dX11_ruled_29 : decode cX11_ruled 29 = .ok (.istore_n 3, 1) := by decide +kernel
theorem dX11_ruled_30 : decode cX11_ruled 30 = .ok (.iconst (-1), 1) := by decide +kernel
theorem dX11_ruled_31 : decode cX11_ruled 31 = .ok (.istore 4, 2) := by decide +kernel
theorem dX11_ruled_33 : decode cX11_ruled 33 = .ok (.iload 4, 2) := by decide +kernel
theorem dX11_ruled_35 : decode cX11_ruled 35 = .ok (.aload_n 0, 1) := by decide +kernel
theorem dX11_ruled_36 : decode cX11_ruled 36 = .ok (.getfield 126, 3) := by decide +kernel
theorem dX11_ruled_39 : decode cX11_ruled 39 = .ok (.if_icmp .ge 28, 3) := by decide +kernel
theorem dX11_ruled_42 : decode cX11_ruled 42 = .ok (.aload_n 0, 1) := by decide +kernel
theorem dX11_ruled_43 : decode cX11_ruled 43 = .ok (.iload 4, 2) := by decide +kernel
theorem dX11_ruled_45 : decode cX11_ruled 45 = .ok (.invokevirtual 306, 3) := by decide +kernel
theorem dX11_ruled_48 : decode cX11_ruled 48 = .ok (.ifCond .eq 13, 3) := by decide +kernel
theorem dX11_ruled_51 : decode cX11_ruled 51 = .ok (.iload_n 2, 1) := by decide +kernel
theorem dX11_ruled_52 : decode cX11_ruled 52 = .ok (.ifCond .ne 6, 3) := by decide +kernel
theorem dX11_ruled_55 : decode cX11_ruled 55 = .ok (.iload 4, 2) := by decide +kernel
theorem dX11_ruled_57 : decode cX11_ruled 57 = .ok (.istore_n 3, 1) := by decide +kernel
theorem dX11_ruled_58 : decode cX11_ruled 58 = .ok (.iinc 2 1, 3) := by decide +kernel
theorem dX11_ruled_61 : decode cX11_ruled 61 = .ok (.iinc 4 1, 3) := by decide +kernel
theorem dX11_ruled_64 : decode cX11_ruled 64 = .ok (.goto (-31), 3) := by decide +kernel
theorem dX11_ruled_67 : decode cX11_ruled 67 = .ok (.iload_n 1, 1) := by decide +kernel
theorem dX11_ruled_68 : decode cX11_ruled 68 = .ok (.ifCond .ne 7, 3) := by decide +kernel
theorem dX11_ruled_71 : decode cX11_ruled 71 = .ok (.iload_n 2, 1) := by decide +kernel
theorem dX11_ruled_72 : decode cX11_ruled 72 = .ok (.goto 4, 3) := by decide +kernel
theorem dX11_ruled_75 : decode cX11_ruled 75 = .ok (.iload_n 3, 1) := by decide +kernel
theorem dX11_ruled_76 : decode cX11_ruled 76 = .ok (.ireturn, 1) := by decide +kernel
theorem dX11_look_0 : decode cX11_look 0 = .ok (.aload_n 0, 1) := by decide +kernel
theorem dX11_look_1 : decode cX11_look 1 = .ok (.getfield 42, 3) := by decide +kernel
theorem dX11_look_4 : decode cX11_look 4 = .ok (.getfield 56, 3) := by decide +kernel
theorem dX11_look_7 : decode cX11_look 7 = .ok (.getfield 217, 3) := by decide +kernel
theorem dX11_look_10 : decode cX11_look 10 = .ok (.ifCond .eq 22, 3) := by decide +kernel
theorem dX11_look_13 : decode cX11_look 13 = .ok (.iload_n 1, 1) := by decide +kernel
theorem dX11_look_14 : decode cX11_look 14 = .ok (.ifCond .lt 18, 3) := by decide +kernel
theorem dX11_look_17 : decode cX11_look 17 = .ok (.iload_n 1, 1) := by decide +kernel
theorem dX11_look_18 : decode cX11_look 18 = .ok (.bipush 60, 2) := by decide +kernel
theorem dX11_look_20 : decode cX11_look 20 = .ok (.if_icmp .gt 12, 3) := by decide +kernel
theorem dX11_look_23 : decode cX11_look 23 = .ok (.iload_n 2, 1) := by decide +kernel
theorem dX11_look_24 : decode cX11_look 24 = .ok (.ifCond .lt 8, 3) := by decide +kernel
theorem dX11_look_27 : decode cX11_look 27 = .ok (.iload_n 2, 1) := by decide +kernel
theorem dX11_look_28 : decode cX11_look 28 = .ok (.iconst 1, 1) := by decide +kernel
theorem dX11_look_29 : decode cX11_look 29 = .ok (.if_icmp .le 5, 3) := by decide +kernel
theorem dX11_look_32 : decode cX11_look 32 = .ok (.iconst (-1), 1) := by decide +kernel
theorem dX11_look_33 : decode cX11_look 33 = .ok (.ireturn, 1) := by decide +kernel
theorem dX11_look_34 : decode cX11_look 34 = .ok (.aload_n 0, 1) := by decide +kernel
theorem dX11_look_35 : decode cX11_look 35 = .ok (.iload_n 1, 1) := by decide +kernel
theorem dX11_look_36 : decode cX11_look 36 = .ok (.invokevirtual 309, 3) := by decide +kernel
theorem dX11_look_39 : decode cX11_look 39 = .ok (.istore_n 3, 1) := by decide +kernel
theorem dX11_look_40 : decode cX11_look 40 = .ok (.iload_n 3, 1) := by decide +kernel
theorem dX11_look_41 : decode cX11_look 41 = .ok (.ifCond .ne 6, 3) := by decide +kernel
theorem dX11_look_44 : decode cX11_look 44 = .ok (.bipush (-2), 2) := by decide +kernel
theorem dX11_look_46 : decode cX11_look 46 = .ok (.ireturn, 1) := by decide +kernel
theorem dX11_look_47 : decode cX11_look 47 = .ok (.bipush (-2), 2) := by decide +kernel
theorem dX11_look_49 : decode cX11_look 49 = .ok (.istore 4, 2) := by decide +kernel
theorem dX11_look_51 : decode cX11_look 51 = .ok (.bipush (-2), 2) := by decide +kernel
theorem dX11_look_53 : decode cX11_look 53 = .ok (.istore 5, 2) := by decide +kernel
theorem dX11_look_55 : decode cX11_look 55 = .ok (.iconst 0, 1) := by decide +kernel
theorem dX11_look_56 : decode cX11_look 56 = .ok (.istore 6, 2) := by decide +kernel
theorem dX11_look_58 : decode cX11_look 58 = .ok (.iload 6, 2) := by decide +kernel
theorem dX11_look_60 : decode cX11_look 60 = .ok (.aload_n 0, 1) := by decide +kernel
theorem dX11_look_61 : decode cX11_look 61 = .ok (.getfield 42, 3) := by decide +kernel
theorem dX11_look_64 : decode cX11_look 64 = .ok (.getfield 56, 3) := by decide +kernel
theorem dX11_look_67 : decode cX11_look 67 = .ok (.getfield 121, 3) := by decide +kernel
theorem dX11_look_70 : decode cX11_look 70 = .ok (.if_icmp .ge 40, 3) := by decide +kernel
theorem dX11_look_73 : decode cX11_look 73 = .ok (.aload_n 0, 1) := by decide +kernel
theorem dX11_look_74 : decode cX11_look 74 = .ok (.iload_n 3, 1) := by decide +kernel
theorem dX11_look_75 : decode cX11_look 75 = .ok (.iload 6, 2) := by decide +kernel
theorem dX11_look_77 : decode cX11_look 77 = .ok (.invokevirtual 312, 3) := by decide +kernel
theorem dX11_look_80 : decode cX11_look 80 = .ok (.istore 7, 2) := by decide +kernel
theorem dX11_look_82 : decode cX11_look 82 = .ok (.iload 4, 2) := by decide +kernel
theorem dX11_look_84 : decode cX11_look 84 = .ok (.bipush (-2), 2) := by decide +kernel
theorem dX11_look_86 : decode cX11_look 86 = .ok (.if_icmp .eq 10, 3) := by decide +kernel
theorem dX11_look_89 : decode cX11_look 89 = .ok (.iload 7, 2) := by decide +kernel
theorem dX11_look_91 : decode cX11_look 91 = .ok (.iload 5, 2) := by decide +kernel
theorem dX11_look_93 : decode cX11_look 93 = .ok (.if_icmp .ge 11, 3) := by decide +kernel
theorem dX11_look_96 : decode cX11_look 96 = .ok (.iload 6, 2) := by decide +kernel
theorem dX11_look_98 : decode cX11_look 98 = .ok (.istore 4, 2) := by decide +kernel
theorem dX11_look_100 : decode cX11_look 100 = .ok (.iload 7, 2) := by decide +kernel
theorem dX11_look_102 : decode cX11_look 102 = .ok (.istore 5, 2) := by decide +kernel
theorem dX11_look_104 : decode cX11_look 104 = .ok (.iinc 6 1, 3) := by decide +kernel
theorem dX11_look_107 : decode cX11_look 107 = .ok (.goto (-49), 3) := by decide +kernel
theorem dX11_look_110 : decode cX11_look 110 = .ok (.iload_n 2, 1) := by decide +kernel
theorem dX11_look_111 : decode cX11_look 111 = .ok (.ifCond .ne 8, 3) := by decide +kernel
theorem dX11_look_114 : decode cX11_look 114 = .ok (.iload 4, 2) := by decide +kernel
theorem dX11_look_116 : decode cX11_look 116 = .ok (.goto 5, 3) := by decide +kernel
theorem dX11_look_119 : decode cX11_look 119 = .ok (.iload 5, 2) := by decide +kernel
theorem dX11_look_121 : decode cX11_look 121 = .ok (.ireturn, 1) := by decide +kernel
theorem dX11_wouldBeAsNoted_0 : decode cX11_wouldBeAsNoted 0 = .ok (.aload_n 0, 1) := by decide +kernel
theorem dX11_wouldBeAsNoted_1 : decode cX11_wouldBeAsNoted 1 = .ok (.getfield 42, 3) := by decide +kernel
theorem dX11_wouldBeAsNoted_4 : decode cX11_wouldBeAsNoted 4 = .ok (.getfield 56, 3) := by decide +kernel
theorem dX11_wouldBeAsNoted_7 : decode cX11_wouldBeAsNoted 7 = .ok (.aload_n 0, 1) := by decide +kernel
theorem dX11_wouldBeAsNoted_8 : decode cX11_wouldBeAsNoted 8 = .ok (.getfield 90, 3) := by decide +kernel
theorem dX11_wouldBeAsNoted_11 : decode cX11_wouldBeAsNoted 11 = .ok (.invokevirtual 315, 3) := by decide +kernel
theorem dX11_wouldBeAsNoted_14 : decode cX11_wouldBeAsNoted 14 = .ok (.iconst 0, 1) := by decide +kernel
theorem dX11_wouldBeAsNoted_15 : decode cX11_wouldBeAsNoted 15 = .ok (.istore_n 2, 1) := by decide +kernel
theorem dX11_wouldBeAsNoted_16 : decode cX11_wouldBeAsNoted 16 = .ok (.iload_n 2, 1) := by decide +kernel
theorem dX11_wouldBeAsNoted_17 : decode cX11_wouldBeAsNoted 17 = .ok (.bipush 60, 2) := by decide +kernel
theorem dX11_wouldBeAsNoted_19 : decode cX11_wouldBeAsNoted 19 = .ok (.if_icmp .gt 42, 3) := by decide +kernel
theorem dX11_wouldBeAsNoted_22 : decode cX11_wouldBeAsNoted 22 = .ok (.aload_n 0, 1) := by decide +kernel
theorem dX11_wouldBeAsNoted_23 : decode cX11_wouldBeAsNoted 23 = .ok (.getfield 42, 3) := by decide +kernel
theorem dX11_wouldBeAsNoted_26 : decode cX11_wouldBeAsNoted 26 = .ok (.aload_n 0, 1) := by decide +kernel
theorem dX11_wouldBeAsNoted_27 : decode cX11_wouldBeAsNoted 27 = .ok (.getfield 90, 3) := by decide +kernel
theorem dX11_wouldBeAsNoted_30 : decode cX11_wouldBeAsNoted 30 = .ok (.invokevirtual 317, 3) := by decide +kernel
theorem dX11_wouldBeAsNoted_33 : decode cX11_wouldBeAsNoted 33 = .ok (.ifCond .ne 5, 3) := by decide +kernel
theorem dX11_wouldBeAsNoted_36 : decode cX11_wouldBeAsNoted 36 = .ok (.iconst 0, 1) := by decide +kernel
theorem dX11_wouldBeAsNoted_37 : decode cX11_wouldBeAsNoted 37 = .ok (.ireturn, 1) := by decide +kernel
theorem dX11_wouldBeAsNoted_38 : decode cX11_wouldBeAsNoted 38 = .ok (.aload_n 0, 1) := by decide +kernel
theorem dX11_wouldBeAsNoted_39 : decode cX11_wouldBeAsNoted 39 = .ok (.getfield 63, 3) := by decide +kernel
theorem dX11_wouldBeAsNoted_42 : decode cX11_wouldBeAsNoted 42 = .ok (.aload_n 0, 1) := by decide +kernel
theorem dX11_wouldBeAsNoted_43 : decode cX11_wouldBeAsNoted 43 = .ok (.getfield 90, 3) := by decide +kernel
theorem dX11_wouldBeAsNoted_46 : decode cX11_wouldBeAsNoted 46 = .ok (.aload_n 0, 1) := by decide +kernel
theorem dX11_wouldBeAsNoted_47 : decode cX11_wouldBeAsNoted 47 = .ok (.iload_n 1, 1) := by decide +kernel
theorem dX11_wouldBeAsNoted_48 : decode cX11_wouldBeAsNoted 48 = .ok (.invokevirtual 321, 3) := by decide +kernel
theorem dX11_wouldBeAsNoted_51 : decode cX11_wouldBeAsNoted 51 = .ok (.invokevirtual 229, 3) := by decide +kernel
theorem dX11_wouldBeAsNoted_54 : decode cX11_wouldBeAsNoted 54 = .ok (.pop, 1) := by decide +kernel
theorem dX11_wouldBeAsNoted_55 : decode cX11_wouldBeAsNoted 55 = .ok (.iinc 2 1, 3) := by decide +kernel
theorem dX11_wouldBeAsNoted_58 : decode cX11_wouldBeAsNoted 58 = .ok (.goto (-42), 3) := by decide +kernel
theorem dX11_wouldBeAsNoted_61 : decode cX11_wouldBeAsNoted 61 = .ok (.iconst 1, 1) := by decide +kernel
theorem dX11_wouldBeAsNoted_62 : decode cX11_wouldBeAsNoted 62 = .ok (.ireturn, 1) := by decide +kernel
theorem dX11_seeAt_0 : decode cX11_seeAt 0 = .ok (.iconst 0, 1) := by decide +kernel
theorem dX11_seeAt_1 : decode cX11_seeAt 1 = .ok (.istore_n 2, 1) := by decide +kernel
theorem dX11_seeAt_2 : decode cX11_seeAt 2 = .ok (.iconst (-1), 1) := by decide +kernel
theorem dX11_seeAt_3 : decode cX11_seeAt 3 = .ok (.istore_n 3, 1) := by decide +kernel
theorem dX11_seeAt_4 : decode cX11_seeAt 4 = .ok (.iload_n 3, 1) := by decide +kernel
theorem dX11_seeAt_5 : decode cX11_seeAt 5 = .ok (.aload_n 0, 1) := by decide +kernel
theorem dX11_seeAt_6 : decode cX11_seeAt 6 = .ok (.getfield 126, 3) := by decide +kernel
theorem dX11_seeAt_9 : decode cX11_seeAt 9 = .ok (.if_icmp .ge 79, 3) := by decide +kernel
theorem dX11_seeAt_12 : decode cX11_seeAt 12 = .ok (.iload_n 2, 1) := by decide +kernel
theorem dX11_seeAt_13 : decode cX11_seeAt 13 = .ok (.aload_n 0, 1) := by decide +kernel
theorem dX11_seeAt_14 : decode cX11_seeAt 14 = .ok (.getfield 95, 3) := by decide +kernel
theorem dX11_seeAt_17 : decode cX11_seeAt 17 = .ok (.arraylength, 1) := by decide +kernel
theorem dX11_seeAt_18 : decode cX11_seeAt 18 = .ok (.if_icmp .ge 64, 3) := by decide +kernel
theorem dX11_seeAt_21 : decode cX11_seeAt 21 = .ok (.aload_n 0, 1) := by decide +kernel
theorem dX11_seeAt_22 : decode cX11_seeAt 22 = .ok (.iload_n 3, 1) := by decide +kernel
theorem dX11_seeAt_23 : decode cX11_seeAt 23 = .ok (.invokevirtual 306, 3) := by decide +kernel
theorem dX11_seeAt_26 : decode cX11_seeAt 26 = .ok (.ifCond .eq 56, 3) := by decide +kernel
theorem dX11_seeAt_29 : decode cX11_seeAt 29 = .ok (.aload_n 0, 1) := by decide +kernel
theorem dX11_seeAt_30 : decode cX11_seeAt 30 = .ok (.getfield 42, 3) := by decide +kernel
theorem dX11_seeAt_33 : decode cX11_seeAt 33 = .ok (.getfield 56, 3) := by decide +kernel
theorem dX11_seeAt_36 : decode cX11_seeAt 36 = .ok (.aload_n 0, 1) := by decide +kernel
theorem dX11_seeAt_37 : decode cX11_seeAt 37 = .ok (.getfield 90, 3) := by decide +kernel
theorem dX11_seeAt_40 : decode cX11_seeAt 40 = .ok (.invokevirtual 315, 3) := by decide +kernel
theorem dX11_seeAt_43 : decode cX11_seeAt 43 = .ok (.aload_n 0, 1) := by decide +kernel
theorem dX11_seeAt_44 : decode cX11_seeAt 44 = .ok (.getfield 63, 3) := by decide +kernel
theorem dX11_seeAt_47 : decode cX11_seeAt 47 = .ok (.aload_n 0, 1) := by decide +kernel
theorem dX11_seeAt_48 : decode cX11_seeAt 48 = .ok (.getfield 90, 3) := by decide +kernel
theorem dX11_seeAt_51 : decode cX11_seeAt 51 = .ok (.aload_n 0, 1) := by decide +kernel
theorem dX11_seeAt_52 : decode cX11_seeAt 52 = .ok (.iload_n 3, 1) := by decide +kernel
theorem dX11_seeAt_53 : decode cX11_seeAt 53 = .ok (.invokevirtual 321, 3) := by decide +kernel
theorem dX11_seeAt_56 : decode cX11_seeAt 56 = .ok (.iload_n 1, 1) := by decide +kernel
theorem dX11_seeAt_57 : decode cX11_seeAt 57 = .ok (.invokevirtual 259, 3) := by decide +kernel
theorem dX11_seeAt_60 : decode cX11_seeAt 60 = .ok (.aload_n 0, 1) := by decide +kernel
theorem dX11_seeAt_61 : decode cX11_seeAt 61 = .ok (.getfield 90, 3) := by decide +kernel
theorem dX11_seeAt_64 : decode cX11_seeAt 64 = .ok (.getfield 146, 3) := by decide +kernel
theorem dX11_seeAt_67 : decode cX11_seeAt 67 = .ok (.iconst 0, 1) := by decide +kernel
theorem dX11_seeAt_68 : decode cX11_seeAt 68 = .ok (.aload_n 0, 1) := by decide +kernel
theorem dX11_seeAt_69 : decode cX11_seeAt 69 = .ok (.getfield 95, 3) := by decide +kernel
theorem dX11_seeAt_72 : decode cX11_seeAt 72 = .ok (.iload_n 2, 1) := by decide +kernel
theorem dX11_seeAt_73 : decode cX11_seeAt 73 = .ok (.aaload, 1) := by decide +kernel
theorem dX11_seeAt_74 : decode cX11_seeAt 74 = .ok (.iconst 0, 1) := by decide +kernel
theorem dX11_seeAt_75 : decode cX11_seeAt 75 = .ok (.iconst 4, 1) := by decide +kernel
theorem dX11_seeAt_76 : decode cX11_seeAt 76 = .ok (.invokestatic 325, 3) := by decide +kernel
theorem dX11_seeAt_79 : decode cX11_seeAt 79 = .ok (.iinc 2 1, 3) := by decide +kernel
theorem dX11_seeAt_82 : decode cX11_seeAt 82 = .ok (.iinc 3 1, 3) := by decide +kernel
theorem dX11_seeAt_85 : decode cX11_seeAt 85 = .ok (.goto (-81), 3) := by decide +kernel
theorem dX11_seeAt_88 : decode cX11_seeAt 88 = .ok (.iload_n 2, 1) := by decide +kernel
theorem dX11_seeAt_89 : decode cX11_seeAt 89 = .ok (.ireturn, 1) := by decide +kernel
theorem dX11_mostAlike_0 : decode cX11_mostAlike 0 = .ok (.iconst 0, 1) := by decide +kernel
theorem dX11_mostAlike_1 : decode cX11_mostAlike 1 = .ok (.istore_n 3, 1) := by decide +kernel
theorem dX11_mostAlike_2 : decode cX11_mostAlike 2 = .ok (.iconst 0, 1) := by decide +kernel
theorem dX11_mostAlike_3 : decode cX11_mostAlike 3 = .ok (.istore 4, 2) := by decide +kernel
theorem dX11_mostAlike_5 : decode cX11_mostAlike 5 = .ok (.iload 4, 2) := by decide +kernel
theorem dX11_mostAlike_7 : decode cX11_mostAlike 7 = .ok (.iload_n 1, 1) := by decide +kernel
theorem dX11_mostAlike_8 : decode cX11_mostAlike 8 = .ok (.if_icmp .ge 58, 3) := by decide +kernel
theorem dX11_mostAlike_11 : decode cX11_mostAlike 11 = .ok (.iconst 0, 1) := by decide +kernel
theorem dX11_mostAlike_12 : decode cX11_mostAlike 12 = .ok (.istore 5, 2) := by decide +kernel
theorem dX11_mostAlike_14 : decode cX11_mostAlike 14 = .ok (.iconst 0, 1) := by decide +kernel
theorem dX11_mostAlike_15 : decode cX11_mostAlike 15 = .ok (.istore 6, 2) := by decide +kernel
theorem dX11_mostAlike_17 : decode cX11_mostAlike 17 = .ok (.iload 6, 2) := by decide +kernel
theorem dX11_mostAlike_19 : decode cX11_mostAlike 19 = .ok (.iload_n 1, 1) := by decide +kernel
theorem dX11_mostAlike_20 : decode cX11_mostAlike 20 = .ok (.if_icmp .ge 33, 3) := by decide +kernel
theorem dX11_mostAlike_23 : decode cX11_mostAlike 23 = .ok (.aload_n 0, 1) := by decide +kernel
theorem dX11_mostAlike_24 : decode cX11_mostAlike 24 = .ok (.getfield 95, 3) := by decide +kernel
theorem dX11_mostAlike_27 : decode cX11_mostAlike 27 = .ok (.iload 6, 2) := by decide +kernel
theorem dX11_mostAlike_29 : decode cX11_mostAlike 29 = .ok (.aaload, 1) := by decide +kernel
theorem dX11_mostAlike_30 : decode cX11_mostAlike 30 = .ok (.iload_n 2, 1) := by decide +kernel
theorem dX11_mostAlike_31 : decode cX11_mostAlike 31 = .ok (.iaload, 1) := by decide +kernel
theorem dX11_mostAlike_32 : decode cX11_mostAlike 32 = .ok (.aload_n 0, 1) := by decide +kernel
theorem dX11_mostAlike_33 : decode cX11_mostAlike 33 = .ok (.getfield 95, 3) := by decide +kernel
theorem dX11_mostAlike_36 : decode cX11_mostAlike 36 = .ok (.iload 4, 2) := by decide +kernel
theorem dX11_mostAlike_38 : decode cX11_mostAlike 38 = .ok (.aaload, 1) := by decide +kernel
theorem dX11_mostAlike_39 : decode cX11_mostAlike 39 = .ok (.iload_n 2, 1) := by decide +kernel
theorem dX11_mostAlike_40 : decode cX11_mostAlike 40 = .ok (.iaload, 1) := by decide +kernel
theorem dX11_mostAlike_41 : decode cX11_mostAlike 41 = .ok (.if_icmp .ne 6, 3) := by decide +kernel
theorem dX11_mostAlike_44 : decode cX11_mostAlike 44 = .ok (.iinc 5 1, 3) := by decide +kernel
theorem dX11_mostAlike_47 : decode cX11_mostAlike 47 = .ok (.iinc 6 1, 3) := by decide +kernel
theorem dX11_mostAlike_50 : decode cX11_mostAlike 50 = .ok (.goto (-33), 3) := by decide +kernel
theorem dX11_mostAlike_53 : decode cX11_mostAlike 53 = .ok (.iload_n 3, 1) := by decide +kernel
theorem dX11_mostAlike_54 : decode cX11_mostAlike 54 = .ok (.iload 5, 2) := by decide +kernel
theorem dX11_mostAlike_56 : decode cX11_mostAlike 56 = .ok (.invokestatic 331, 3) := by decide +kernel
theorem dX11_mostAlike_59 : decode cX11_mostAlike 59 = .ok (.istore_n 3, 1) := by decide +kernel
theorem dX11_mostAlike_60 : decode cX11_mostAlike 60 = .ok (.iinc 4 1, 3) := by decide +kernel
theorem dX11_mostAlike_63 : decode cX11_mostAlike 63 = .ok (.goto (-58), 3) := by decide +kernel
theorem dX11_mostAlike_66 : decode cX11_mostAlike 66 = .ok (.iload_n 3, 1) := by decide +kernel
theorem dX11_mostAlike_67 : decode cX11_mostAlike 67 = .ok (.ireturn, 1) := by decide +kernel
theorem dX11_seed_0 : decode cX11_seed 0 = .ok (.iload_n 1, 1) := by decide +kernel
theorem dX11_seed_1 : decode cX11_seed 1 = .ok (.ifCond .ge 5, 3) := by decide +kernel
theorem dX11_seed_4 : decode cX11_seed 4 = .ok (.iconst (-1), 1) := by decide +kernel
theorem dX11_seed_5 : decode cX11_seed 5 = .ok (.ireturn, 1) := by decide +kernel
theorem dX11_seed_6 : decode cX11_seed 6 = .ok (.aload_n 0, 1) := by decide +kernel
theorem dX11_seed_7 : decode cX11_seed 7 = .ok (.getfield 42, 3) := by decide +kernel
theorem dX11_seed_10 : decode cX11_seed 10 = .ok (.getfield 214, 3) := by decide +kernel
theorem dX11_seed_13 : decode cX11_seed 13 = .ok (.istore_n 2, 1) := by decide +kernel
theorem dX11_seed_14 : decode cX11_seed 14 = .ok (.aload_n 0, 1) := by decide +kernel
theorem dX11_seed_15 : decode cX11_seed 15 = .ok (.getfield 42, 3) := by decide +kernel
theorem dX11_seed_18 : decode cX11_seed 18 = .ok (.iload_n 1, 1) := by decide +kernel
theorem dX11_seed_19 : decode cX11_seed 19 = .ok (.putfield 214, 3) := by decide +kernel
theorem dX11_seed_22 : decode cX11_seed 22 = .ok (.iload_n 2, 1) := by decide +kernel
theorem dX11_seed_23 : decode cX11_seed 23 = .ok (.ireturn, 1) := by decide +kernel
theorem dX11_thieves_0 : decode cX11_thieves 0 = .ok (.aload_n 0, 1) := by decide +kernel
theorem dX11_thieves_1 : decode cX11_thieves 1 = .ok (.getfield 42, 3) := by decide +kernel
theorem dX11_thieves_4 : decode cX11_thieves 4 = .ok (.getfield 56, 3) := by decide +kernel
theorem dX11_thieves_7 : decode cX11_thieves 7 = .ok (.getfield 217, 3) := by decide +kernel
theorem dX11_thieves_10 : decode cX11_thieves 10 = .ok (.ifCond .eq 46, 3) := by decide +kernel
theorem dX11_thieves_13 : decode cX11_thieves 13 = .ok (.iload_n 1, 1) := by decide +kernel
theorem dX11_thieves_14 : decode cX11_thieves 14 = .ok (.iconst 1, 1) := by decide +kernel
theorem dX11_thieves_15 : decode cX11_thieves 15 = .ok (.if_icmp .lt 41, 3) := by decide +kernel
theorem dX11_thieves_18 : decode cX11_thieves 18 = .ok (.iload_n 1, 1) := by decide +kernel
theorem dX11_thieves_19 : decode cX11_thieves 19 = .ok (.bipush 10, 2) := by decide +kernel
theorem dX11_thieves_21 : decode cX11_thieves 21 = .ok (.if_icmp .gt 35, 3) := by decide +kernel
theorem dX11_thieves_24 : decode cX11_thieves 24 = .ok (.iload_n 2, 1) := by decide +kernel
theorem dX11_thieves_25 : decode cX11_thieves 25 = .ok (.iconst 1, 1) := by decide +kernel
theorem dX11_thieves_26 : decode cX11_thieves 26 = .ok (.if_icmp .lt 30, 3) := by decide +kernel
theorem dX11_thieves_29 : decode cX11_thieves 29 = .ok (.iload_n 2, 1) := by decide +kernel
theorem dX11_thieves_30 : decode cX11_thieves 30 = .ok (.bipush 60, 2) := by decide +kernel
theorem dX11_thieves_32 : decode cX11_thieves 32 = .ok (.if_icmp .gt 24, 3) := by decide +kernel
theorem dX11_thieves_35 : decode cX11_thieves 35 = .ok (.iload_n 3, 1) := by decide +kernel
theorem dX11_thieves_36 : decode cX11_thieves 36 = .ok (.ifCond .lt 20, 3) := by decide +kernel
theorem dX11_thieves_39 : decode cX11_thieves 39 = .ok (.iload_n 3, 1) := by decide +kernel
theorem dX11_thieves_40 : decode cX11_thieves 40 = .ok (.bipush 100, 2) := by decide +kernel
theorem dX11_thieves_42 : decode cX11_thieves 42 = .ok (.if_icmp .gt 14, 3) := by decide +kernel
theorem dX11_thieves_45 : decode cX11_thieves 45 = .ok (.iload 4, 2) := by decide +kernel
theorem dX11_thieves_47 : decode cX11_thieves 47 = .ok (.ifCond .lt 9, 3) := by decide +kernel
theorem dX11_thieves_50 : decode cX11_thieves 50 = .ok (.iload 4, 2) := by decide +kernel
theorem dX11_thieves_52 : decode cX11_thieves 52 = .ok (.iconst 1, 1) := by decide +kernel
theorem dX11_thieves_53 : decode cX11_thieves 53 = .ok (.if_icmp .le 5, 3) := by decide +kernel
theorem dX11_thieves_56 : decode cX11_thieves 56 = .ok (.iconst (-1), 1) := by decide +kernel
theorem dX11_thieves_57 : decode cX11_thieves 57 = .ok (.ireturn, 1) := by decide +kernel
theorem dX11_thieves_58 : decode cX11_thieves 58 = .ok (.aload_n 0, 1) := by decide +kernel
theorem dX11_thieves_59 : decode cX11_thieves 59 = .ok (.getfield 42, 3) := by decide +kernel
theorem dX11_thieves_62 : decode cX11_thieves 62 = .ok (.getfield 214, 3) := by decide +kernel
theorem dX11_thieves_65 : decode cX11_thieves 65 = .ok (.istore 5, 2) := by decide +kernel
theorem dX11_thieves_67 : decode cX11_thieves 67 = .ok (.iconst 0, 1) := by decide +kernel
theorem dX11_thieves_68 : decode cX11_thieves 68 = .ok (.istore 6, 2) := by decide +kernel
theorem dX11_thieves_70 : decode cX11_thieves 70 = .ok (.iconst 0, 1) := by decide +kernel
theorem dX11_thieves_71 : decode cX11_thieves 71 = .ok (.istore 7, 2) := by decide +kernel
theorem dX11_thieves_73 : decode cX11_thieves 73 = .ok (.iload 7, 2) := by decide +kernel
theorem dX11_thieves_75 : decode cX11_thieves 75 = .ok (.iload_n 1, 1) := by decide +kernel
theorem dX11_thieves_76 : decode cX11_thieves 76 = .ok (.if_icmp .ge 101, 3) := by decide +kernel
theorem dX11_thieves_79 : decode cX11_thieves 79 = .ok (.aload_n 0, 1) := by decide +kernel
theorem dX11_thieves_80 : decode cX11_thieves 80 = .ok (.getfield 90, 3) := by decide +kernel
theorem dX11_thieves_83 : decode cX11_thieves 83 = .ok (.aload_n 0, 1) := by decide +kernel
theorem dX11_thieves_84 : decode cX11_thieves 84 = .ok (.getfield 42, 3) := by decide +kernel
theorem dX11_thieves_87 : decode cX11_thieves 87 = .ok (.getfield 69, 3) := by decide +kernel
theorem dX11_thieves_90 : decode cX11_thieves 90 = .ok (.invokevirtual 252, 3) := by decide +kernel
theorem dX11_thieves_93 : decode cX11_thieves 93 = .ok (.iconst 0, 1) := by decide +kernel
theorem dX11_thieves_94 : decode cX11_thieves 94 = .ok (.istore 8, 2) := by decide +kernel
theorem dX11_thieves_96 : decode cX11_thieves 96 = .ok (.iload 8, 2) := by decide +kernel
theorem dX11_thieves_98 : decode cX11_thieves 98 = .ok (.iload_n 2, 1) := by decide +kernel
theorem dX11_thieves_99 : decode cX11_thieves 99 = .ok (.if_icmp .ge 34, 3) := by decide +kernel
theorem dX11_thieves_102 : decode cX11_thieves 102 = .ok (.aload_n 0, 1) := by decide +kernel
theorem dX11_thieves_103 : decode cX11_thieves 103 = .ok (.iload 5, 2) := by decide +kernel
theorem dX11_thieves_105 : decode cX11_thieves 105 = .ok (.iload_n 3, 1) := by decide +kernel
theorem dX11_thieves_106 : decode cX11_thieves 106 = .ok (.invokevirtual 336, 3) := by decide +kernel
theorem dX11_thieves_109 : decode cX11_thieves 109 = .ok (.istore 5, 2) := by decide +kernel
theorem dX11_thieves_111 : decode cX11_thieves 111 = .ok (.aload_n 0, 1) := by decide +kernel
theorem dX11_thieves_112 : decode cX11_thieves 112 = .ok (.getfield 63, 3) := by decide +kernel
theorem dX11_thieves_115 : decode cX11_thieves 115 = .ok (.aload_n 0, 1) := by decide +kernel
theorem dX11_thieves_116 : decode cX11_thieves 116 = .ok (.getfield 90, 3) := by decide +kernel
theorem dX11_thieves_119 : decode cX11_thieves 119 = .ok (.aload_n 0, 1) := by decide +kernel
theorem dX11_thieves_120 : decode cX11_thieves 120 = .ok (.invokevirtual 225, 3) := by decide +kernel
theorem dX11_thieves_123 : decode cX11_thieves 123 = .ok (.invokevirtual 229, 3) := by decide +kernel
theorem dX11_thieves_126 : decode cX11_thieves 126 = .ok (.pop, 1) := by decide +kernel
theorem dX11_thieves_127 : decode cX11_thieves 127 = .ok (.iinc 8 1, 3) := by decide +kernel
theorem dX11_thieves_130 : decode cX11_thieves 130 = .ok (.goto (-34), 3) := by decide +kernel
theorem dX11_thieves_133 : decode cX11_thieves 133 = .ok (.iload 6, 2) := by decide +kernel
theorem dX11_thieves_135 : decode cX11_thieves 135 = .ok (.iload 4, 2) := by decide +kernel
theorem dX11_thieves_137 : decode cX11_thieves 137 = .ok (.ifCond .ne 17, 3) := by decide +kernel
theorem dX11_thieves_140 : decode cX11_thieves 140 = .ok (.aload_n 0, 1) := by decide +kernel
theorem dX11_thieves_141 : decode cX11_thieves 141 = .ok (.getfield 63, 3) := by decide +kernel
theorem dX11_thieves_144 : decode cX11_thieves 144 = .ok (.aload_n 0, 1) := by decide +kernel
theorem dX11_thieves_145 : decode cX11_thieves 145 = .ok (.getfield 90, 3) := by decide +kernel
theorem dX11_thieves_148 : decode cX11_thieves 148 = .ok (.invokevirtual 192, 3) := by decide +kernel
theorem dX11_thieves_151 : decode cX11_thieves 151 = .ok (.goto 17, 3) := by decide +kernel
theorem dX11_thieves_154 : decode cX11_thieves 154 = .ok (.aload_n 0, 1) := by decide +kernel
theorem dX11_thieves_155 : decode cX11_thieves 155 = .ok (.getfield 63, 3) := by decide +kernel
theorem dX11_thieves_158 : decode cX11_thieves 158 = .ok (.aload_n 0, 1) := by decide +kernel
theorem dX11_thieves_159 : decode cX11_thieves 159 = .ok (.getfield 90, 3) := by decide +kernel
theorem dX11_thieves_162 : decode cX11_thieves 162 = .ok (.invokevirtual 188, 3) := by decide +kernel
theorem dX11_thieves_165 : decode cX11_thieves 165 = .ok (.invokestatic 339, 3) := by decide +kernel
theorem dX11_thieves_168 : decode cX11_thieves 168 = .ok (.iadd, 1) := by decide +kernel
theorem dX11_thieves_169 : decode cX11_thieves 169 = .ok (.istore 6, 2) := by decide +kernel
theorem dX11_thieves_171 : decode cX11_thieves 171 = .ok (.iinc 7 1, 3) := by decide +kernel
theorem dX11_thieves_174 : decode cX11_thieves 174 = .ok (.goto (-101), 3) := by decide +kernel
theorem dX11_thieves_177 : decode cX11_thieves 177 = .ok (.iload 6, 2) := by decide +kernel
theorem dX11_thieves_179 : decode cX11_thieves 179 = .ok (.ireturn, 1) := by decide +kernel
theorem dX11_robByDraw_0 : decode cX11_robByDraw 0 = .ok (.iload_n 1, 1) := by decide +kernel
theorem dX11_robByDraw_1 : decode cX11_robByDraw 1 = .ok (.invokestatic 344, 3) := by decide +kernel
theorem dX11_robByDraw_4 : decode cX11_robByDraw 4 = .ok (.istore_n 3, 1) := by decide +kernel
theorem dX11_robByDraw_5 : decode cX11_robByDraw 5 = .ok (.aload_n 0, 1) := by decide +kernel
theorem dX11_robByDraw_6 : decode cX11_robByDraw 6 = .ok (.getfield 42, 3) := by decide +kernel
theorem dX11_robByDraw_9 : decode cX11_robByDraw 9 = .ok (.getfield 56, 3) := by decide +kernel
theorem dX11_robByDraw_12 : decode cX11_robByDraw 12 = .ok (.getfield 182, 3) := by decide +kernel
theorem dX11_robByDraw_15 : decode cX11_robByDraw 15 = .ok (.istore 4, 2) := by decide +kernel
theorem dX11_robByDraw_17 : decode cX11_robByDraw 17 = .ok (.iload_n 3, 1) := by decide +kernel
theorem dX11_robByDraw_18 : decode cX11_robByDraw 18 = .ok (.ldc_w 347, 3) := by decide +kernel
theorem dX11_robByDraw_21 : decode cX11_robByDraw 21 = .ok (.idiv, 1) := by decide +kernel
theorem dX11_robByDraw_22 : decode cX11_robByDraw 22 = .ok (.bipush 100, 2) := by decide +kernel
theorem dX11_robByDraw_24 : decode cX11_robByDraw 24 = .ok (.irem, 1) := by decide +kernel
theorem dX11_robByDraw_25 : decode cX11_robByDraw 25 = .ok (.iload_n 2, 1) := by decide +kernel
theorem dX11_robByDraw_26 : decode cX11_robByDraw 26 = .ok (.if_icmp .ge 9, 3) := by decide +kernel
theorem dX11_robByDraw_29 : decode cX11_robByDraw 29 = .ok (.iload 4, 2) := by decide +kernel
theorem dX11_robByDraw_31 : decode cX11_robByDraw 31 = .ok (.iconst 1, 1) := by decide +kernel
theorem dX11_robByDraw_32 : decode cX11_robByDraw 32 = .ok (.if_icmp .ge 5, 3) := by decide +kernel
theorem dX11_robByDraw_35 : decode cX11_robByDraw 35 = .ok (.iload_n 3, 1) := by decide +kernel
theorem dX11_robByDraw_36 : decode cX11_robByDraw 36 = .ok (.ireturn, 1) := by decide +kernel
theorem dX11_robByDraw_37 : decode cX11_robByDraw 37 = .ok (.iload_n 3, 1) := by decide +kernel
theorem dX11_robByDraw_38 : decode cX11_robByDraw 38 = .ok (.invokestatic 344, 3) := by decide +kernel
theorem dX11_robByDraw_41 : decode cX11_robByDraw 41 = .ok (.istore_n 3, 1) := by decide +kernel
theorem dX11_robByDraw_42 : decode cX11_robByDraw 42 = .ok (.iload_n 3, 1) := by decide +kernel
theorem dX11_robByDraw_43 : decode cX11_robByDraw 43 = .ok (.ldc_w 347, 3) := by decide +kernel
theorem dX11_robByDraw_46 : decode cX11_robByDraw 46 = .ok (.idiv, 1) := by decide +kernel
theorem dX11_robByDraw_47 : decode cX11_robByDraw 47 = .ok (.iload 4, 2) := by decide +kernel
theorem dX11_robByDraw_49 : decode cX11_robByDraw 49 = .ok (.irem, 1) := by decide +kernel
theorem dX11_robByDraw_50 : decode cX11_robByDraw 50 = .ok (.istore 5, 2) := by decide +kernel
theorem dX11_robByDraw_52 : decode cX11_robByDraw 52 = .ok (.aload_n 0, 1) := by decide +kernel
theorem dX11_robByDraw_53 : decode cX11_robByDraw 53 = .ok (.getfield 42, 3) := by decide +kernel
theorem dX11_robByDraw_56 : decode cX11_robByDraw 56 = .ok (.getfield 56, 3) := by decide +kernel
theorem dX11_robByDraw_59 : decode cX11_robByDraw 59 = .ok (.iload 5, 2) := by decide +kernel
theorem dX11_robByDraw_61 : decode cX11_robByDraw 61 = .ok (.invokevirtual 158, 3) := by decide +kernel
theorem dX11_robByDraw_64 : decode cX11_robByDraw 64 = .ok (.ifCond .eq 14, 3) := by decide +kernel
theorem dX11_robByDraw_67 : decode cX11_robByDraw 67 = .ok (.aload_n 0, 1) := by decide +kernel
theorem dX11_robByDraw_68 : decode cX11_robByDraw 68 = .ok (.getfield 90, 3) := by decide +kernel
theorem dX11_robByDraw_71 : decode cX11_robByDraw 71 = .ok (.getfield 167, 3) := by decide +kernel
theorem dX11_robByDraw_74 : decode cX11_robByDraw 74 = .ok (.iload 5, 2) := by decide +kernel
theorem dX11_robByDraw_76 : decode cX11_robByDraw 76 = .ok (.iconst (-1), 1) := by decide +kernel
theorem dX11_robByDraw_77 : decode cX11_robByDraw 77 = .ok (.iastore, 1) := by decide +kernel
theorem dX11_robByDraw_78 : decode cX11_robByDraw 78 = .ok (.iload_n 3, 1) := by decide +kernel
theorem dX11_robByDraw_79 : decode cX11_robByDraw 79 = .ok (.ireturn, 1) := by decide +kernel
theorem dX11_drawnFrom_0 : decode cX11_drawnFrom 0 = .ok (.iload_n 0, 1) := by decide +kernel
theorem dX11_drawnFrom_1 : decode cX11_drawnFrom 1 = .ok (.i2l, 1) := by decide +kernel
theorem dX11_drawnFrom_2 : decode cX11_drawnFrom 2 = .ok (.ldc2_w 348, 3) := by decide +kernel
theorem dX11_drawnFrom_5 : decode cX11_drawnFrom 5 = .ok (.lmul, 1) := by decide +kernel
theorem dX11_drawnFrom_6 : decode cX11_drawnFrom 6 = .ok (.ldc2_w 350, 3) := by decide +kernel
theorem dX11_drawnFrom_9 : decode cX11_drawnFrom 9 = .ok (.ladd, 1) := by decide +kernel
theorem dX11_drawnFrom_10 : decode cX11_drawnFrom 10 = .ok (.ldc2_w 352, 3) := by decide +kernel
theorem dX11_drawnFrom_13 : decode cX11_drawnFrom 13 = .ok (.lrem, 1) := by decide +kernel
theorem dX11_drawnFrom_14 : decode cX11_drawnFrom 14 = .ok (.l2i, 1) := by decide +kernel
theorem dX11_drawnFrom_15 : decode cX11_drawnFrom 15 = .ok (.ireturn, 1) := by decide +kernel
theorem dX11_image_0 : decode cX11_image 0 = .ok (.iload_n 1, 1) := by decide +kernel
theorem dX11_image_1 : decode cX11_image 1 = .ok (.ifCond .lt 8, 3) := by decide +kernel
theorem dX11_image_4 : decode cX11_image 4 = .ok (.iload_n 1, 1) := by decide +kernel
theorem dX11_image_5 : decode cX11_image 5 = .ok (.iconst 4, 1) := by decide +kernel
theorem dX11_image_6 : decode cX11_image 6 = .ok (.if_icmp .lt 5, 3) := by decide +kernel
theorem dX11_image_9 : decode cX11_image 9 = .ok (.iconst (-1), 1) := by decide +kernel
theorem dX11_image_10 : decode cX11_image 10 = .ok (.ireturn, 1) := by decide +kernel
theorem dX11_image_11 : decode cX11_image 11 = .ok (.aload_n 0, 1) := by decide +kernel
theorem dX11_image_12 : decode cX11_image 12 = .ok (.getfield 46, 3) := by decide +kernel
theorem dX11_image_15 : decode cX11_image 15 = .ok (.iload_n 1, 1) := by decide +kernel
theorem dX11_image_16 : decode cX11_image 16 = .ok (.aaload, 1) := by decide +kernel
theorem dX11_image_17 : decode cX11_image 17 = .ok (.aload_n 0, 1) := by decide +kernel
theorem dX11_image_18 : decode cX11_image 18 = .ok (.getfield 42, 3) := by decide +kernel
theorem dX11_image_21 : decode cX11_image 21 = .ok (.invokevirtual 354, 3) := by decide +kernel
theorem dX11_image_24 : decode cX11_image 24 = .ok (.aload_n 0, 1) := by decide +kernel
theorem dX11_image_25 : decode cX11_image 25 = .ok (.getfield 50, 3) := by decide +kernel
theorem dX11_image_28 : decode cX11_image 28 = .ok (.iload_n 1, 1) := by decide +kernel
theorem dX11_image_29 : decode cX11_image 29 = .ok (.iconst 1, 1) := by decide +kernel
theorem dX11_image_30 : decode cX11_image 30 = .ok (.bastore, 1) := by decide +kernel
theorem dX11_image_31 : decode cX11_image 31 = .ok (.aload_n 0, 1) := by decide +kernel
theorem dX11_image_32 : decode cX11_image 32 = .ok (.getfield 42, 3) := by decide +kernel
theorem dX11_image_35 : decode cX11_image 35 = .ok (.getfield 69, 3) := by decide +kernel
theorem dX11_image_38 : decode cX11_image 38 = .ok (.getfield 185, 3) := by decide +kernel
theorem dX11_image_41 : decode cX11_image 41 = .ok (.ireturn, 1) := by decide +kernel
theorem dX11_back_0 : decode cX11_back 0 = .ok (.iload_n 1, 1) := by decide +kernel
theorem dX11_back_1 : decode cX11_back 1 = .ok (.ifCond .lt 17, 3) := by decide +kernel
theorem dX11_back_4 : decode cX11_back 4 = .ok (.iload_n 1, 1) := by decide +kernel
theorem dX11_back_5 : decode cX11_back 5 = .ok (.iconst 4, 1) := by decide +kernel
theorem dX11_back_6 : decode cX11_back 6 = .ok (.if_icmp .ge 12, 3) := by decide +kernel
theorem dX11_back_9 : decode cX11_back 9 = .ok (.aload_n 0, 1) := by decide +kernel
theorem dX11_back_10 : decode cX11_back 10 = .ok (.getfield 50, 3) := by decide +kernel
theorem dX11_back_13 : decode cX11_back 13 = .ok (.iload_n 1, 1) := by decide +kernel
theorem dX11_back_14 : decode cX11_back 14 = .ok (.baload, 1) := by decide +kernel
theorem dX11_back_15 : decode cX11_back 15 = .ok (.ifCond .ne 5, 3) := by decide +kernel
theorem dX11_back_18 : decode cX11_back 18 = .ok (.iconst (-1), 1) := by decide +kernel
theorem dX11_back_19 : decode cX11_back 19 = .ok (.ireturn, 1) := by decide +kernel
theorem dX11_back_20 : decode cX11_back 20 = .ok (.aload_n 0, 1) := by decide +kernel
theorem dX11_back_21 : decode cX11_back 21 = .ok (.getfield 42, 3) := by decide +kernel
theorem dX11_back_24 : decode cX11_back 24 = .ok (.aload_n 0, 1) := by decide +kernel
theorem dX11_back_25 : decode cX11_back 25 = .ok (.getfield 46, 3) := by decide +kernel
theorem dX11_back_28 : decode cX11_back 28 = .ok (.iload_n 1, 1) := by decide +kernel
theorem dX11_back_29 : decode cX11_back 29 = .ok (.aaload, 1) := by decide +kernel
theorem dX11_back_30 : decode cX11_back 30 = .ok (.invokevirtual 354, 3) := by decide +kernel
theorem dX11_back_33 : decode cX11_back 33 = .ok (.aload_n 0, 1) := by decide +kernel
theorem dX11_back_34 : decode cX11_back 34 = .ok (.getfield 42, 3) := by decide +kernel
theorem dX11_back_37 : decode cX11_back 37 = .ok (.getfield 69, 3) := by decide +kernel
theorem dX11_back_40 : decode cX11_back 40 = .ok (.getfield 185, 3) := by decide +kernel
theorem dX11_back_43 : decode cX11_back 43 = .ok (.ireturn, 1) := by decide +kernel
theorem dX11_ruleOf_0 : decode cX11_ruleOf 0 = .ok (.iload_n 1, 1) := by decide +kernel
theorem dX11_ruleOf_1 : decode cX11_ruleOf 1 = .ok (.ifCond .lt 26, 3) := by decide +kernel
theorem dX11_ruleOf_4 : decode cX11_ruleOf 4 = .ok (.iload_n 1, 1) := by decide +kernel
theorem dX11_ruleOf_5 : decode cX11_ruleOf 5 = .ok (.aload_n 0, 1) := by decide +kernel
theorem dX11_ruleOf_6 : decode cX11_ruleOf 6 = .ok (.getfield 126, 3) := by decide +kernel
theorem dX11_ruleOf_9 : decode cX11_ruleOf 9 = .ok (.if_icmp .ge 18, 3) := by decide +kernel
theorem dX11_ruleOf_12 : decode cX11_ruleOf 12 = .ok (.iload_n 1, 1) := by decide +kernel
theorem dX11_ruleOf_13 : decode cX11_ruleOf 13 = .ok (.bipush 6, 2) := by decide +kernel
theorem dX11_ruleOf_15 : decode cX11_ruleOf 15 = .ok (.if_icmp .ge 12, 3) := by decide +kernel
theorem dX11_ruleOf_18 : decode cX11_ruleOf 18 = .ok (.aload_n 0, 1) := by decide +kernel
theorem dX11_ruleOf_19 : decode cX11_ruleOf 19 = .ok (.getfield 34, 3) := by decide +kernel
theorem dX11_ruleOf_22 : decode cX11_ruleOf 22 = .ok (.iload_n 1, 1) := by decide +kernel
theorem dX11_ruleOf_23 : decode cX11_ruleOf 23 = .ok (.aaload, 1) := by decide +kernel
theorem dX11_ruleOf_24 : decode cX11_ruleOf 24 = .ok (.goto 4, 3) := by decide +kernel
theorem dX11_ruleOf_27 : decode cX11_ruleOf 27 = .ok (.aconst_null, 1) := by decide +kernel
theorem dX11_ruleOf_28 : decode cX11_ruleOf 28 = .ok (.areturn, 1) := by decide +kernel
theorem dX11_inForce_0 : decode cX11_inForce 0 = .ok (.aload_n 0, 1) := by decide +kernel
theorem dX11_inForce_1 : decode cX11_inForce 1 = .ok (.aload_n 0, 1) := by decide +kernel
theorem dX11_inForce_2 : decode cX11_inForce 2 = .ok (.getfield 42, 3) := by decide +kernel
theorem dX11_inForce_5 : decode cX11_inForce 5 = .ok (.getfield 132, 3) := by decide +kernel
theorem dX11_inForce_8 : decode cX11_inForce 8 = .ok (.invokevirtual 321, 3) := by decide +kernel
theorem dX11_inForce_11 : decode cX11_inForce 11 = .ok (.areturn, 1) := by decide +kernel
theorem dX11_goOnFromNow_0 : decode cX11_goOnFromNow 0 = .ok (.aload_n 0, 1) := by decide +kernel
theorem dX11_goOnFromNow_1 : decode cX11_goOnFromNow 1 = .ok (.getfield 90, 3) := by decide +kernel
theorem dX11_goOnFromNow_4 : decode cX11_goOnFromNow 4 = .ok (.aload_n 0, 1) := by decide +kernel
theorem dX11_goOnFromNow_5 : decode cX11_goOnFromNow 5 = .ok (.getfield 42, 3) := by decide +kernel
theorem dX11_goOnFromNow_8 : decode cX11_goOnFromNow 8 = .ok (.getfield 69, 3) := by decide +kernel
theorem dX11_goOnFromNow_11 : decode cX11_goOnFromNow 11 = .ok (.invokevirtual 252, 3) := by decide +kernel
theorem dX11_goOnFromNow_14 : decode cX11_goOnFromNow 14 = .ok (.aload_n 0, 1) := by decide +kernel
theorem dX11_goOnFromNow_15 : decode cX11_goOnFromNow 15 = .ok (.getfield 63, 3) := by decide +kernel
theorem dX11_goOnFromNow_18 : decode cX11_goOnFromNow 18 = .ok (.aload_n 0, 1) := by decide +kernel
theorem dX11_goOnFromNow_19 : decode cX11_goOnFromNow 19 = .ok (.getfield 90, 3) := by decide +kernel
theorem dX11_goOnFromNow_22 : decode cX11_goOnFromNow 22 = .ok (.aload_n 0, 1) := by decide +kernel
theorem dX11_goOnFromNow_23 : decode cX11_goOnFromNow 23 = .ok (.invokevirtual 225, 3) := by decide +kernel
theorem dX11_goOnFromNow_26 : decode cX11_goOnFromNow 26 = .ok (.iload_n 1, 1) := by decide +kernel
theorem dX11_goOnFromNow_27 : decode cX11_goOnFromNow 27 = .ok (.invokevirtual 259, 3) := by decide +kernel
theorem dX11_goOnFromNow_30 : decode cX11_goOnFromNow 30 = .ok (.return_, 1) := by decide +kernel
theorem dX11_isAtPlace_0 : decode cX11_isAtPlace 0 = .ok (.aload_n 0, 1) := by decide +kernel
theorem dX11_isAtPlace_1 : decode cX11_isAtPlace 1 = .ok (.getfield 42, 3) := by decide +kernel
theorem dX11_isAtPlace_4 : decode cX11_isAtPlace 4 = .ok (.getfield 56, 3) := by decide +kernel
theorem dX11_isAtPlace_7 : decode cX11_isAtPlace 7 = .ok (.iload_n 1, 1) := by decide +kernel
theorem dX11_isAtPlace_8 : decode cX11_isAtPlace 8 = .ok (.invokevirtual 135, 3) := by decide +kernel
theorem dX11_isAtPlace_11 : decode cX11_isAtPlace 11 = .ok (.ifCond .eq 22, 3) := by decide +kernel
theorem dX11_isAtPlace_14 : decode cX11_isAtPlace 14 = .ok (.aload_n 0, 1) := by decide +kernel
theorem dX11_isAtPlace_15 : decode cX11_isAtPlace 15 = .ok (.getfield 42, 3) := by decide +kernel
theorem dX11_isAtPlace_18 : decode cX11_isAtPlace 18 = .ok (.getfield 69, 3) := by decide +kernel
theorem dX11_isAtPlace_21 : decode cX11_isAtPlace 21 = .ok (.getfield 149, 3) := by decide +kernel
theorem dX11_isAtPlace_24 : decode cX11_isAtPlace 24 = .ok (.iload_n 1, 1) := by decide +kernel
theorem dX11_isAtPlace_25 : decode cX11_isAtPlace 25 = .ok (.iaload, 1) := by decide +kernel
theorem dX11_isAtPlace_26 : decode cX11_isAtPlace 26 = .ok (.ifCond .ne 7, 3) := by decide +kernel
theorem dX11_isAtPlace_29 : decode cX11_isAtPlace 29 = .ok (.iconst 1, 1) := by decide +kernel
theorem dX11_isAtPlace_30 : decode cX11_isAtPlace 30 = .ok (.goto 4, 3) := by decide +kernel
theorem dX11_isAtPlace_33 : decode cX11_isAtPlace 33 = .ok (.iconst 0, 1) := by decide +kernel
theorem dX11_isAtPlace_34 : decode cX11_isAtPlace 34 = .ok (.ireturn, 1) := by decide +kernel
theorem dX11_areAtOnePlace_0 : decode cX11_areAtOnePlace 0 = .ok (.iload_n 1, 1) := by decide +kernel
theorem dX11_areAtOnePlace_1 : decode cX11_areAtOnePlace 1 = .ok (.iload_n 2, 1) := by decide +kernel
theorem dX11_areAtOnePlace_2 : decode cX11_areAtOnePlace 2 = .ok (.if_icmp .eq 50, 3) := by decide +kernel
theorem dX11_areAtOnePlace_5 : decode cX11_areAtOnePlace 5 = .ok (.aload_n 0, 1) := by decide +kernel
theorem dX11_areAtOnePlace_6 : decode cX11_areAtOnePlace 6 = .ok (.iload_n 1, 1) := by decide +kernel
theorem dX11_areAtOnePlace_7 : decode cX11_areAtOnePlace 7 = .ok (.invokevirtual 233, 3) := by decide +kernel
theorem dX11_areAtOnePlace_10 : decode cX11_areAtOnePlace 10 = .ok (.ifCond .eq 42, 3) := by decide +kernel
theorem dX11_areAtOnePlace_13 : decode cX11_areAtOnePlace 13 = .ok (.aload_n 0, 1) := by decide +kernel
theorem dX11_areAtOnePlace_14 : decode cX11_areAtOnePlace 14 = .ok (.iload_n 2, 1) := by decide +kernel
theorem dX11_areAtOnePlace_15 : decode cX11_areAtOnePlace 15 = .ok (.invokevirtual 233, 3) := by decide +kernel
theorem dX11_areAtOnePlace_18 : decode cX11_areAtOnePlace 18 = .ok (.ifCond .eq 34, 3) := by decide +kernel
theorem dX11_areAtOnePlace_21 : decode cX11_areAtOnePlace 21 = .ok (.aload_n 0, 1) := by decide +kernel
theorem dX11_areAtOnePlace_22 : decode cX11_areAtOnePlace 22 = .ok (.getfield 42, 3) := by decide +kernel
theorem dX11_areAtOnePlace_25 : decode cX11_areAtOnePlace 25 = .ok (.getfield 69, 3) := by decide +kernel
theorem dX11_areAtOnePlace_28 : decode cX11_areAtOnePlace 28 = .ok (.getfield 146, 3) := by decide +kernel
theorem dX11_areAtOnePlace_31 : decode cX11_areAtOnePlace 31 = .ok (.iload_n 1, 1) := by decide +kernel
theorem dX11_areAtOnePlace_32 : decode cX11_areAtOnePlace 32 = .ok (.iaload, 1) := by decide +kernel
theorem dX11_areAtOnePlace_33 : decode cX11_areAtOnePlace 33 = .ok (.aload_n 0, 1) := by decide +kernel
theorem dX11_areAtOnePlace_34 : decode cX11_areAtOnePlace 34 = .ok (.getfield 42, 3) := by decide +kernel
theorem dX11_areAtOnePlace_37 : decode cX11_areAtOnePlace 37 = .ok (.getfield 69, 3) := by decide +kernel
theorem dX11_areAtOnePlace_40 : decode cX11_areAtOnePlace 40 = .ok (.getfield 146, 3) := by decide +kernel
theorem dX11_areAtOnePlace_43 : decode cX11_areAtOnePlace 43 = .ok (.iload_n 2, 1) := by decide +kernel
theorem dX11_areAtOnePlace_44 : decode cX11_areAtOnePlace 44 = .ok (.iaload, 1) := by decide +kernel
theorem dX11_areAtOnePlace_45 : decode cX11_areAtOnePlace 45 = .ok (.if_icmp .ne 7, 3) := by decide +kernel
theorem dX11_areAtOnePlace_48 : decode cX11_areAtOnePlace 48 = .ok (.iconst 1, 1) := by decide +kernel
theorem dX11_areAtOnePlace_49 : decode cX11_areAtOnePlace 49 = .ok (.goto 4, 3) := by decide +kernel
theorem dX11_areAtOnePlace_52 : decode cX11_areAtOnePlace 52 = .ok (.iconst 0, 1) := by decide +kernel
theorem dX11_areAtOnePlace_53 : decode cX11_areAtOnePlace 53 = .ok (.ireturn, 1) := by decide +kernel
theorem dX11_hasFreeHand_0 : decode cX11_hasFreeHand 0 = .ok (.aload_n 0, 1) := by decide +kernel
theorem dX11_hasFreeHand_1 : decode cX11_hasFreeHand 1 = .ok (.getfield 42, 3) := by decide +kernel
theorem dX11_hasFreeHand_4 : decode cX11_hasFreeHand 4 = .ok (.getfield 69, 3) := by decide +kernel
theorem dX11_hasFreeHand_7 : decode cX11_hasFreeHand 7 = .ok (.iload_n 1, 1) := by decide +kernel
theorem dX11_hasFreeHand_8 : decode cX11_hasFreeHand 8 = .ok (.invokevirtual 236, 3) := by decide +kernel
theorem dX11_hasFreeHand_11 : decode cX11_hasFreeHand 11 = .ok (.aload_n 0, 1) := by decide +kernel
theorem dX11_hasFreeHand_12 : decode cX11_hasFreeHand 12 = .ok (.getfield 42, 3) := by decide +kernel
theorem dX11_hasFreeHand_15 : decode cX11_hasFreeHand 15 = .ok (.getfield 56, 3) := by decide +kernel
theorem dX11_hasFreeHand_18 : decode cX11_hasFreeHand 18 = .ok (.getfield 176, 3) := by decide +kernel
theorem dX11_hasFreeHand_21 : decode cX11_hasFreeHand 21 = .ok (.if_icmp .ge 7, 3) := by decide +kernel
theorem dX11_hasFreeHand_24 : decode cX11_hasFreeHand 24 = .ok (.iconst 1, 1) := by decide +kernel
theorem dX11_hasFreeHand_25 : decode cX11_hasFreeHand 25 = .ok (.goto 4, 3) := by decide +kernel
theorem dX11_hasFreeHand_28 : decode cX11_hasFreeHand 28 = .ok (.iconst 0, 1) := by decide +kernel
theorem dX11_hasFreeHand_29 : decode cX11_hasFreeHand 29 = .ok (.ireturn, 1) := by decide +kernel
theorem dX12_init_0 : decode cX12_init 0 = .ok (.aload_n 0, 1) := by decide +kernel
theorem dX12_init_1 : decode cX12_init 1 = .ok (.invokespecial 3, 3) := by decide +kernel
theorem dX12_init_4 : decode cX12_init 4 = .ok (.aload_n 0, 1) := by decide +kernel
theorem dX12_init_5 : decode cX12_init 5 = .ok (.bipush 9, 2) := by decide +kernel
theorem dX12_init_7 : decode cX12_init 7 = .ok (.newarray .int, 2) := by decide +kernel
theorem dX12_init_9 : decode cX12_init 9 = .ok (.dup, 1) := by decide +kernel
theorem dX12_init_10 : decode cX12_init 10 = .ok (.iconst 0, 1) := by decide +kernel
theorem dX12_init_11 : decode cX12_init 11 = .ok (.iconst 0, 1) := by decide +kernel
theorem dX12_init_12 : decode cX12_init 12 = .ok (.iastore, 1) := by decide +kernel
theorem dX12_init_13 : decode cX12_init 13 = .ok (.dup, 1) := by decide +kernel
theorem dX12_init_14 : decode cX12_init 14 = .ok (.iconst 1, 1) := by decide +kernel
theorem dX12_init_15 : decode cX12_init 15 = .ok (.iconst 0, 1) := by decide +kernel
theorem dX12_init_16 : decode cX12_init 16 = .ok (.iastore, 1) := by decide +kernel
theorem dX12_init_17 : decode cX12_init 17 = .ok (.dup, 1) := by decide +kernel
theorem dX12_init_18 : decode cX12_init 18 = .ok (.iconst 2, 1) := by decide +kernel
theorem dX12_init_19 : decode cX12_init 19 = .ok (.iconst 0, 1) := by decide +kernel
theorem dX12_init_20 : decode cX12_init 20 = .ok (.iastore, 1) := by decide +kernel
theorem dX12_init_21 : decode cX12_init 21 = .ok (.dup, 1) := by decide +kernel
theorem dX12_init_22 : decode cX12_init 22 = .ok (.iconst 3, 1) := by decide +kernel
theorem dX12_init_23 : decode cX12_init 23 = .ok (.iconst 0, 1) := by decide +kernel
theorem dX12_init_24 : decode cX12_init 24 = .ok (.iastore, 1) := by decide +kernel
theorem dX12_init_25 : decode cX12_init 25 = .ok (.dup, 1) := by decide +kernel
theorem dX12_init_26 : decode cX12_init 26 = .ok (.iconst 4, 1) := by decide +kernel
theorem dX12_init_27 : decode cX12_init 27 = .ok (.iconst 0, 1) := by decide +kernel
theorem dX12_init_28 : decode cX12_init 28 = .ok (.iastore, 1) := by decide +kernel
theorem dX12_init_29 : decode cX12_init 29 = .ok (.dup, 1) := by decide +kernel
theorem dX12_init_30 : decode cX12_init 30 = .ok (.iconst 5, 1) := by decide +kernel
theorem dX12_init_31 : decode cX12_init 31 = .ok (.iconst 0, 1) := by decide +kernel
theorem dX12_init_32 : decode cX12_init 32 = .ok (.iastore, 1) := by decide +kernel
theorem dX12_init_33 : decode cX12_init 33 = .ok (.dup, 1) := by decide +kernel
theorem dX12_init_34 : decode cX12_init 34 = .ok (.bipush 6, 2) := by decide +kernel
theorem dX12_init_36 : decode cX12_init 36 = .ok (.iconst 0, 1) := by decide +kernel
theorem dX12_init_37 : decode cX12_init 37 = .ok (.iastore, 1) := by decide +kernel
theorem dX12_init_38 : decode cX12_init 38 = .ok (.dup, 1) := by decide +kernel
theorem dX12_init_39 : decode cX12_init 39 = .ok (.bipush 7, 2) := by decide +kernel
theorem dX12_init_41 : decode cX12_init 41 = .ok (.iconst 0, 1) := by decide +kernel
theorem dX12_init_42 : decode cX12_init 42 = .ok (.iastore, 1) := by decide +kernel
theorem dX12_init_43 : decode cX12_init 43 = .ok (.dup, 1) := by decide +kernel
theorem dX12_init_44 : decode cX12_init 44 = .ok (.bipush 8, 2) := by decide +kernel
theorem dX12_init_46 : decode cX12_init 46 = .ok (.iconst (-1), 1) := by decide +kernel
theorem dX12_init_47 : decode cX12_init 47 = .ok (.iastore, 1) := by decide +kernel
theorem dX12_init_48 : decode cX12_init 48 = .ok (.putfield 9, 3) := by decide +kernel
theorem dX12_init_51 : decode cX12_init 51 = .ok (.aload_n 0, 1) := by decide +kernel
theorem dX12_init_52 : decode cX12_init 52 = .ok (.iconst 4, 1) := by decide +kernel
theorem dX12_init_53 : decode cX12_init 53 = .ok (.newarray .int, 2) := by decide +kernel
theorem dX12_init_55 : decode cX12_init 55 = .ok (.putfield 13, 3) := by decide +kernel
theorem dX12_init_58 : decode cX12_init 58 = .ok (.aload_n 0, 1) := by decide +kernel
theorem dX12_init_59 : decode cX12_init 59 = .ok (.iconst 4, 1) := by decide +kernel
theorem dX12_init_60 : decode cX12_init 60 = .ok (.newarray .int, 2) := by decide +kernel
theorem dX12_init_62 : decode cX12_init 62 = .ok (.putfield 16, 3) := by decide +kernel
theorem dX12_init_65 : decode cX12_init 65 = .ok (.aload_n 0, 1) := by decide +kernel
theorem dX12_init_66 : decode cX12_init 66 = .ok (.bipush 6, 2) := by decide +kernel
theorem dX12_init_68 : decode cX12_init 68 = .ok (.newarray .int, 2) := by decide +kernel
theorem dX12_init_70 : decode cX12_init 70 = .ok (.putfield 19, 3) := by decide +kernel
theorem dX12_init_73 : decode cX12_init 73 = .ok (.aload_n 0, 1) := by decide +kernel
theorem dX12_init_74 : decode cX12_init 74 = .ok (.bipush 8, 2) := by decide +kernel
theorem dX12_init_76 : decode cX12_init 76 = .ok (.newarray .int, 2) := by decide +kernel
theorem dX12_init_78 : decode cX12_init 78 = .ok (.putfield 22, 3) := by decide +kernel
theorem dX12_init_81 : decode cX12_init 81 = .ok (.aload_n 0, 1) := by decide +kernel
theorem dX12_init_82 : decode cX12_init 82 = .ok (.iconst 4, 1) := by decide +kernel
theorem dX12_init_83 : decode cX12_init 83 = .ok (.newarray .int, 2) := by decide +kernel
theorem dX12_init_85 : decode cX12_init 85 = .ok (.putfield 25, 3) := by decide +kernel
theorem dX12_init_88 : decode cX12_init 88 = .ok (.aload_n 0, 1) := by decide +kernel
theorem dX12_init_89 : decode cX12_init 89 = .ok (.bipush 6, 2) := by decide +kernel
theorem dX12_init_91 : decode cX12_init 91 = .ok (.newarray .int, 2) := by decide +kernel
theorem dX12_init_93 : decode cX12_init 93 = .ok (.putfield 28, 3) := by decide +kernel
theorem dX12_init_96 : decode cX12_init 96 = .ok (.aload_n 0, 1) := by decide +kernel
theorem dX12_init_97 : decode cX12_init 97 = .ok (.bipush 6, 2) := by decide +kernel
theorem dX12_init_99 : decode cX12_init 99 = .ok (.newarray .int, 2) := by decide +kernel
theorem dX12_init_101 : decode cX12_init 101 = .ok (.putfield 31, 3) := by decide +kernel
theorem dX12_init_104 : decode cX12_init 104 = .ok (.aload_n 0, 1) := by decide +kernel
theorem dX12_init_105 : decode cX12_init 105 = .ok (.bipush 10, 2) := by decide +kernel
theorem dX12_init_107 : decode cX12_init 107 = .ok (.newarray .int, 2) := by decide +kernel
theorem dX12_init_109 : decode cX12_init 109 = .ok (.putfield 34, 3) := by decide +kernel
theorem dX12_init_112 : decode cX12_init 112 = .ok (.aload_n 0, 1) := by decide +kernel
theorem dX12_init_113 : decode cX12_init 113 = .ok (.bipush 10, 2) := by decide +kernel
theorem dX12_init_115 : decode cX12_init 115 = .ok (.newarray .int, 2) := by decide +kernel
theorem dX12_init_117 : decode cX12_init 117 = .ok (.putfield 37, 3) := by decide +kernel
theorem dX12_init_120 : decode cX12_init 120 = .ok (.aload_n 0, 1) := by decide +kernel
theorem dX12_init_121 : decode cX12_init 121 = .ok (.bipush 10, 2) := by decide +kernel
theorem dX12_init_123 : decode cX12_init 123 = .ok (.newarray .int, 2) := by decide +kernel
theorem dX12_init_125 : decode cX12_init 125 = .ok (.putfield 40, 3) := by decide +kernel
theorem dX12_init_128 : decode cX12_init 128 = .ok (.aload_n 0, 1) := by decide +kernel
theorem dX12_init_129 : decode cX12_init 129 = .ok (.bipush 6, 2) := by decide +kernel
theorem dX12_init_131 : decode cX12_init 131 = .ok (.newarray .int, 2) := by decide +kernel
theorem dX12_init_133 : decode cX12_init 133 = .ok (.putfield 43, 3) := by decide +kernel
theorem dX12_init_136 : decode cX12_init 136 = .ok (.aload_n 0, 1) := by decide +kernel
theorem dX12_init_137 : decode cX12_init 137 = .ok (.iconst 5, 1) := by decide +kernel
theorem dX12_init_138 : decode cX12_init 138 = .ok (.newarray .int, 2) := by decide +kernel
theorem dX12_init_140 : decode cX12_init 140 = .ok (.putfield 46, 3) := by decide +kernel
theorem dX12_init_143 : decode cX12_init 143 = .ok (.aload_n 0, 1) := by decide +kernel
theorem dX12_init_144 : decode cX12_init 144 = .ok (.bipush 8, 2) := by decide +kernel
theorem dX12_init_146 : decode cX12_init 146 = .ok (.newarray .int, 2) := by decide +kernel
theorem dX12_init_148 : decode cX12_init 148 = .ok (.putfield 49, 3) := by decide +kernel
theorem dX12_init_151 : decode cX12_init 151 = .ok (.aload_n 0, 1) := by decide +kernel
theorem dX12_init_152 : decode cX12_init 152 = .ok (.iconst 4, 1) := by decide +kernel
theorem dX12_init_153 : decode cX12_init 153 = .ok (.newarray .int, 2) := by decide +kernel
theorem dX12_init_155 : decode cX12_init 155 = .ok (.putfield 52, 3) := by decide +kernel
theorem dX12_init_158 : decode cX12_init 158 = .ok (.aload_n 0, 1) := by decide +kernel
theorem dX12_init_159 : decode cX12_init 159 = .ok (.bipush 6, 2) := by decide +kernel
theorem dX12_init_161 : decode cX12_init 161 = .ok (.newarray .int, 2) := by decide +kernel
theorem dX12_init_163 : decode cX12_init 163 = .ok (.putfield 55, 3) := by decide +kernel
theorem dX12_init_166 : decode cX12_init 166 = .ok (.aload_n 0, 1) := by decide +kernel
theorem dX12_init_167 : decode cX12_init 167 = .ok (.bipush 6, 2) := by decide +kernel
theorem dX12_init_169 : decode cX12_init 169 = .ok (.newarray .int, 2) := by decide +kernel
theorem dX12_init_171 : decode cX12_init 171 = .ok (.putfield 58, 3) := by decide +kernel
theorem dX12_init_174 : decode cX12_init 174 = .ok (.aload_n 0, 1) := by decide +kernel
theorem dX12_init_175 : decode cX12_init 175 = .ok (.bipush 6, 2) := by decide +kernel
theorem dX12_init_177 : decode cX12_init 177 = .ok (.newarray .int, 2) := by decide +kernel
theorem dX12_init_179 : decode cX12_init 179 = .ok (.putfield 61, 3) := by decide +kernel
theorem dX12_init_182 : decode cX12_init 182 = .ok (.aload_n 0, 1) := by decide +kernel
theorem dX12_init_183 : decode cX12_init 183 = .ok (.bipush 12, 2) := by decide +kernel
theorem dX12_init_185 : decode cX12_init 185 = .ok (.putfield 64, 3) := by decide +kernel
theorem dX12_init_188 : decode cX12_init 188 = .ok (.aload_n 0, 1) := by decide +kernel
theorem dX12_init_189 : decode cX12_init 189 = .ok (.sipush 400, 3) := by decide +kernel
theorem dX12_init_192 : decode cX12_init 192 = .ok (.newarray .byte, 2) := by decide +kernel
theorem dX12_init_194 : decode cX12_init 194 = .ok (.putfield 68, 3) := by decide +kernel
theorem dX12_init_197 : decode cX12_init 197 = .ok (.aload_n 0, 1) := by decide +kernel
theorem dX12_init_198 : decode cX12_init 198 = .ok (.sipush 1800, 3) := by decide +kernel
theorem dX12_init_201 : decode cX12_init 201 = .ok (.newarray .int, 2) := by decide +kernel
theorem dX12_init_203 : decode cX12_init 203 = .ok (.putfield 72, 3) := by decide +kernel
theorem dX12_init_206 : decode cX12_init 206 = .ok (.aload_n 0, 1) := by decide +kernel
theorem dX12_init_207 : decode cX12_init 207 = .ok (.sipush 1800, 3) := by decide +kernel
theorem dX12_init_210 : decode cX12_init 210 = .ok (.newarray .int, 2) := by decide +kernel
theorem dX12_init_212 : decode cX12_init 212 = .ok (.putfield 75, 3) := by decide +kernel
theorem dX12_init_215 : decode cX12_init 215 = .ok (.aload_n 0, 1) := by decide +kernel
theorem dX12_init_216 : decode cX12_init 216 = .ok (.bipush 6, 2) := by decide +kernel
theorem dX12_init_218 : decode cX12_init 218 = .ok (.newarray .int, 2) := by decide +kernel
theorem dX12_init_220 : decode cX12_init 220 = .ok (.putfield 78, 3) := by decide +kernel
theorem dX12_init_223 : decode cX12_init 223 = .ok (.aload_n 0, 1) := by decide +kernel
theorem dX12_init_224 : decode cX12_init 224 = .ok (.bipush 72, 2) := by decide +kernel
theorem dX12_init_226 : decode cX12_init 226 = .ok (.newarray .int, 2) := by decide +kernel
theorem dX12_init_228 : decode cX12_init 228 = .ok (.putfield 81, 3) := by decide +kernel
theorem dX12_init_231 : decode cX12_init 231 = .ok (.aload_n 0, 1) := by decide +kernel
theorem dX12_init_232 : decode cX12_init 232 = .ok (.bipush 72, 2) := by decide +kernel
theorem dX12_init_234 : decode cX12_init 234 = .ok (.newarray .int, 2) := by decide +kernel
theorem dX12_init_236 : decode cX12_init 236 = .ok (.putfield 84, 3) := by decide +kernel
theorem dX12_init_239 : decode cX12_init 239 = .ok (.aload_n 0, 1) := by decide +kernel
theorem dX12_init_240 : decode cX12_init 240 = .ok (.bipush 72, 2) := by decide +kernel
theorem dX12_init_242 : decode cX12_init 242 = .ok (.newarray .int, 2) := by decide +kernel
theorem dX12_init_244 : decode cX12_init 244 = .ok (.putfield 87, 3) := by decide +kernel
theorem dX12_init_247 : decode cX12_init 247 = .ok (.aload_n 0, 1) := by decide +kernel
theorem dX12_init_248 : decode cX12_init 248 = .ok (.sipush 402, 3) := by decide +kernel
theorem dX12_init_251 : decode cX12_init 251 = .ok (.newarray .int, 2) := by decide +kernel
theorem dX12_init_253 : decode cX12_init 253 = .ok (.putfield 90, 3) := by decide +kernel
theorem dX12_init_256 : decode cX12_init 256 = .ok (.aload_n 0, 1) := by decide +kernel
theorem dX12_init_257 : decode cX12_init 257 = .ok (.bipush 12, 2) := by decide +kernel
theorem dX12_init_259 : decode cX12_init 259 = .ok (.newarray .long, 2) := by decide +kernel
theorem dX12_init_261 : decode cX12_init 261 = .ok (.putfield 93, 3) := by decide +kernel
theorem dX12_init_264 : decode cX12_init 264 = .ok (.aload_n 0, 1) := by decide +kernel
theorem dX12_init_265 : decode cX12_init 265 = .ok (.sipush 300, 3) := by decide +kernel
theorem dX12_init_268 : decode cX12_init 268 = .ok (.newarray .long, 2) := by decide +kernel
theorem dX12_init_270 : decode cX12_init 270 = .ok (.putfield 97, 3) := by decide +kernel
theorem dX12_init_273 : decode cX12_init 273 = .ok (.aload_n 0, 1) := by decide +kernel
theorem dX12_init_274 : decode cX12_init 274 = .ok (.sipush 300, 3) := by decide +kernel
theorem dX12_init_277 : decode cX12_init 277 = .ok (.newarray .int, 2) := by decide +kernel
theorem dX12_init_279 : decode cX12_init 279 = .ok (.putfield 100, 3) := by decide +kernel
theorem dX12_init_282 : decode cX12_init 282 = .ok (.aload_n 0, 1) := by decide +kernel
theorem dX12_init_283 : decode cX12_init 283 = .ok (.iconst 1, 1) := by decide +kernel
theorem dX12_init_284 : decode cX12_init 284 = .ok (.newarray .int, 2) := by decide +kernel
theorem dX12_init_286 : decode cX12_init 286 = .ok (.putfield 103, 3) := by decide +kernel
theorem dX12_init_289 : decode cX12_init 289 = .ok (.aload_n 0, 1) := by decide +kernel
theorem dX12_init_290 : decode cX12_init 290 = .ok (.sipush 2916, 3) := by decide +kernel
theorem dX12_init_293 : decode cX12_init 293 = .ok (.newarray .int, 2) := by decide +kernel
theorem dX12_init_295 : decode cX12_init 295 = .ok (.putfield 106, 3) := by decide +kernel
theorem dX12_init_298 : decode cX12_init 298 = .ok (.aload_n 0, 1) := by decide +kernel
theorem dX12_init_299 : decode cX12_init 299 = .ok (.bipush 6, 2) := by decide +kernel
theorem dX12_init_301 : decode cX12_init 301 = .ok (.newarray .int, 2) := by decide +kernel
theorem dX12_init_303 : decode cX12_init 303 = .ok (.dup, 1) := by decide +kernel
theorem dX12_init_304 : decode cX12_init 304 = .ok (.iconst 0, 1) := by decide +kernel
theorem dX12_init_305 : decode cX12_init 305 = .ok (.iconst 1, 1) := by decide +kernel
theorem dX12_init_306 : decode cX12_init 306 = .ok (.iastore, 1) := by decide +kernel
theorem dX12_init_307 : decode cX12_init 307 = .ok (.dup, 1) := by decide +kernel
theorem dX12_init_308 : decode cX12_init 308 = .ok (.iconst 1, 1) := by decide +kernel
theorem dX12_init_309 : decode cX12_init 309 = .ok (.iconst 3, 1) := by decide +kernel
theorem dX12_init_310 : decode cX12_init 310 = .ok (.iastore, 1) := by decide +kernel
theorem dX12_init_311 : decode cX12_init 311 = .ok (.dup, 1) := by decide +kernel
theorem dX12_init_312 : decode cX12_init 312 = .ok (.iconst 2, 1) := by decide +kernel
theorem dX12_init_313 : decode cX12_init 313 = .ok (.bipush 9, 2) := by decide +kernel
theorem dX12_init_315 : decode cX12_init 315 = .ok (.iastore, 1) := by decide +kernel
theorem dX12_init_316 : decode cX12_init 316 = .ok (.dup, 1) := by decide +kernel
theorem dX12_init_317 : decode cX12_init 317 = .ok (.iconst 3, 1) := by decide +kernel
theorem dX12_init_318 : decode cX12_init 318 = .ok (.bipush 27, 2) := by decide +kernel
theorem dX12_init_320 : decode cX12_init 320 = .ok (.iastore, 1) := by decide +kernel
theorem dX12_init_321 : decode cX12_init 321 = .ok (.dup, 1) := by decide +kernel
theorem dX12_init_322 : decode cX12_init 322 = .ok (.iconst 4, 1) := by decide +kernel
theorem dX12_init_323 : decode cX12_init 323 = .ok (.bipush 81, 2) := by decide +kernel
theorem dX12_init_325 : decode cX12_init 325 = .ok (.iastore, 1) := by decide +kernel
theorem dX12_init_326 : decode cX12_init 326 = .ok (.dup, 1) := by decide +kernel
theorem dX12_init_327 : decode cX12_init 327 = .ok (.iconst 5, 1) := by decide +kernel
theorem dX12_init_328 : decode cX12_init 328 = .ok (.sipush 243, 3) := by decide +kernel
theorem dX12_init_331 : decode cX12_init 331 = .ok (.iastore, 1) := by decide +kernel
theorem dX12_init_332 : decode cX12_init 332 = .ok (.putfield 109, 3) := by decide +kernel
theorem dX12_init_335 : decode cX12_init 335 = .ok (.aload_n 0, 1) := by decide +kernel
theorem dX12_init_336 : decode cX12_init 336 = .ok (.sipush 244, 3) := by decide +kernel
theorem dX12_init_339 : decode cX12_init 339 = .ok (.newarray .int, 2) := by decide +kernel
theorem dX12_init_341 : decode cX12_init 341 = .ok (.putfield 112, 3) := by decide +kernel
theorem dX12_init_344 : decode cX12_init 344 = .ok (.aload_n 0, 1) := by decide +kernel
theorem dX12_init_345 : decode cX12_init 345 = .ok (.bipush 28, 2) := by decide +kernel
theorem dX12_init_347 : decode cX12_init 347 = .ok (.newarray .int, 2) := by decide +kernel
theorem dX12_init_349 : decode cX12_init 349 = .ok (.putfield 115, 3) := by decide +kernel
theorem dX12_init_352 : decode cX12_init 352 = .ok (.aload_n 0, 1) := by decide +kernel
theorem dX12_init_353 : decode cX12_init 353 = .ok (.sipush 2250, 3) := by decide +kernel
theorem dX12_init_356 : decode cX12_init 356 = .ok (.newarray .int, 2) := by decide +kernel
theorem dX12_init_358 : decode cX12_init 358 = .ok (.putfield 118, 3) := by decide +kernel
theorem dX12_init_361 : decode cX12_init 361 = .ok (.aload_n 0, 1) := by decide +kernel
theorem dX12_init_362 : decode cX12_init 362 = .ok (.iconst 4, 1) := by decide +kernel
theorem dX12_init_363 : decode cX12_init 363 = .ok (.newarray .boolean, 2) := by decide +kernel
theorem dX12_init_365 : decode cX12_init 365 = .ok (.putfield 121, 3) := by decide +kernel
theorem dX12_init_368 : decode cX12_init 368 = .ok (.return_, 1) := by decide +kernel
theorem dX12_in_0 : decode cX12_in 0 = .ok (.lload_n 0, 1) := by decide +kernel
theorem dX12_in_1 : decode cX12_in 1 = .ok (.lload_n 2, 1) := by decide +kernel
theorem dX12_in_2 : decode cX12_in 2 = .ok (.lcmp, 1) := by decide +kernel
theorem dX12_in_3 : decode cX12_in 3 = .ok (.ifCond .lt 14, 3) := by decide +kernel
theorem dX12_in_6 : decode cX12_in 6 = .ok (.lload_n 0, 1) := by decide +kernel
theorem dX12_in_7 : decode cX12_in 7 = .ok (.lload 4, 2) := by decide +kernel
theorem dX12_in_9 : decode cX12_in 9 = .ok (.lcmp, 1) := by decide +kernel
theorem dX12_in_10 : decode cX12_in 10 = .ok (.ifCond .gt 7, 3) := by decide +kernel
theorem dX12_in_13 : decode cX12_in 13 = .ok (.iconst 1, 1) := by decide +kernel
theorem dX12_in_14 : decode cX12_in 14 = .ok (.goto 4, 3) := by decide +kernel
theorem dX12_in_17 : decode cX12_in 17 = .ok (.iconst 0, 1) := by decide +kernel
theorem dX12_in_18 : decode cX12_in 18 = .ok (.ireturn, 1) := by decide +kernel
theorem dX12_bits_0 : decode cX12_bits 0 = .ok (.iconst 0, 1) := by decide +kernel
theorem dX12_bits_1 : decode cX12_bits 1 = .ok (.istore_n 1, 1) := by decide +kernel
theorem dX12_bits_2 : decode cX12_bits 2 = .ok (.iconst 0, 1) := by decide +kernel
theorem dX12_bits_3 : decode cX12_bits 3 = .ok (.istore_n 2, 1) := by decide +kernel
theorem dX12_bits_4 : decode cX12_bits 4 = .ok (.iload_n 2, 1) := by decide +kernel
theorem dX12_bits_5 : decode cX12_bits 5 = .ok (.bipush 16, 2) := by decide +kernel
theorem dX12_bits_7 : decode cX12_bits 7 = .ok (.if_icmp .ge 17, 3) := by decide +kernel
theorem dX12_bits_10 : decode cX12_bits 10 = .ok (.iload_n 1, 1) := by decide +kernel
theorem dX12_bits_11 : decode cX12_bits 11 = .ok (.iload_n 0, 1) := by decide +kernel
theorem dX12_bits_12 : decode cX12_bits 12 = .ok (.iload_n 2, 1) := by decide +kernel
theorem dX12_bits_13 : decode cX12_bits 13 = .ok (.ishr, 1) := by decide +kernel
theorem dX12_bits_14 : decode cX12_bits 14 = .ok (.iconst 1, 1) := by decide +kernel
theorem dX12_bits_15 : decode cX12_bits 15 = .ok (.iand, 1) := by decide +kernel
theorem dX12_bits_16 : decode cX12_bits 16 = .ok (.iadd, 1) := by decide +kernel
theorem dX12_bits_17 : decode cX12_bits 17 = .ok (.istore_n 1, 1) := by decide +kernel
theorem dX12_bits_18 : decode cX12_bits 18 = .ok (.iinc 2 1, 3) := by decide +kernel
theorem dX12_bits_21 : decode cX12_bits 21 = .ok (.goto (-17), 3) := by decide +kernel
theorem dX12_bits_24 : decode cX12_bits 24 = .ok (.iload_n 1, 1) := by decide +kernel
theorem dX12_bits_25 : decode cX12_bits 25 = .ok (.ireturn, 1) := by decide +kernel
theorem dX12_has_0 : decode cX12_has 0 = .ok (.iload_n 0, 1) := by decide +kernel
theorem dX12_has_1 : decode cX12_has 1 = .ok (.iload_n 1, 1) := by decide +kernel
theorem dX12_has_2 : decode cX12_has 2 = .ok (.ishr, 1) := by decide +kernel
theorem dX12_has_3 : decode cX12_has 3 = .ok (.iconst 1, 1) := by decide +kernel
theorem dX12_has_4 : decode cX12_has 4 = .ok (.iand, 1) := by decide +kernel
theorem dX12_has_5 : decode cX12_has 5 = .ok (.iconst 1, 1) := by decide +kernel
theorem dX12_has_6 : decode cX12_has 6 = .ok (.if_icmp .ne 7, 3) := by decide +kernel
theorem dX12_has_9 : decode cX12_has 9 = .ok (.iconst 1, 1) := by decide +kernel
theorem dX12_has_10 : decode cX12_has 10 = .ok (.goto 4, 3) := by decide +kernel
theorem dX12_has_13 : decode cX12_has 13 = .ok (.iconst 0, 1) := by decide +kernel
theorem dX12_has_14 : decode cX12_has 14 = .ok (.ireturn, 1) := by decide +kernel
theorem dX12_isRoad_0 : decode cX12_isRoad 0 = .ok (.aload_n 0, 1) := by decide +kernel
theorem dX12_isRoad_1 : decode cX12_isRoad 1 = .ok (.getfield 9, 3) := by decide +kernel
theorem dX12_isRoad_4 : decode cX12_isRoad 4 = .ok (.iconst 0, 1) := by decide +kernel
theorem dX12_isRoad_5 : decode cX12_isRoad 5 = .ok (.iaload, 1) := by decide +kernel
theorem dX12_isRoad_6 : decode cX12_isRoad 6 = .ok (.iconst 1, 1) := by decide +kernel
theorem dX12_isRoad_7 : decode cX12_isRoad 7 = .ok (.if_icmp .ne 7, 3) := by decide +kernel
theorem dX12_isRoad_10 : decode cX12_isRoad 10 = .ok (.iconst 1, 1) := by decide +kernel
theorem dX12_isRoad_11 : decode cX12_isRoad 11 = .ok (.goto 4, 3) := by decide +kernel
theorem dX12_isRoad_14 : decode cX12_isRoad 14 = .ok (.iconst 0, 1) := by decide +kernel
theorem dX12_isRoad_15 : decode cX12_isRoad 15 = .ok (.ireturn, 1) := by decide +kernel
theorem dX12_isPerson_0 : decode cX12_isPerson 0 = .ok (.iload_n 1, 1) := by decide +kernel
theorem dX12_isPerson_1 : decode cX12_isPerson 1 = .ok (.i2l, 1) := by decide +kernel
theorem dX12_isPerson_2 : decode cX12_isPerson 2 = .ok (.lconst 0, 1) := by decide +kernel
theorem dX12_isPerson_3 : decode cX12_isPerson 3 = .ok (.aload_n 0, 1) := by decide +kernel
theorem dX12_isPerson_4 : decode cX12_isPerson 4 = .ok (.getfield 9, 3) := by decide +kernel
theorem dX12_isPerson_7 : decode cX12_isPerson 7 = .ok (.iconst 3, 1) := by decide +kernel
theorem dX12_isPerson_8 : decode cX12_isPerson 8 = .ok (.iaload, 1) := by decide +kernel
theorem dX12_isPerson_9 : decode cX12_isPerson 9 = .ok (.iconst 1, 1) := by decide +kernel
theorem dX12_isPerson_10 : decode cX12_isPerson 10 = .ok (.isub, 1) := by decide +kernel
theorem dX12_isPerson_11 : decode cX12_isPerson 11 = .ok (.i2l, 1) := by decide +kernel
theorem dX12_isPerson_12 : decode cX12_isPerson 12 = .ok (.invokestatic 128, 3) := by decide +kernel
theorem dX12_isPerson_15 : decode cX12_isPerson 15 = .ok (.ireturn, 1) := by decide +kernel
theorem dX12_isThing_0 : decode cX12_isThing 0 = .ok (.iload_n 1, 1) := by decide +kernel
theorem dX12_isThing_1 : decode cX12_isThing 1 = .ok (.i2l, 1) := by decide +kernel
theorem dX12_isThing_2 : decode cX12_isThing 2 = .ok (.lconst 0, 1) := by decide +kernel
theorem dX12_isThing_3 : decode cX12_isThing 3 = .ok (.aload_n 0, 1) := by decide +kernel
theorem dX12_isThing_4 : decode cX12_isThing 4 = .ok (.getfield 9, 3) := by decide +kernel
theorem dX12_isThing_7 : decode cX12_isThing 7 = .ok (.iconst 4, 1) := by decide +kernel
theorem dX12_isThing_8 : decode cX12_isThing 8 = .ok (.iaload, 1) := by decide +kernel
theorem dX12_isThing_9 : decode cX12_isThing 9 = .ok (.iconst 1, 1) := by decide +kernel
theorem dX12_isThing_10 : decode cX12_isThing 10 = .ok (.isub, 1) := by decide +kernel
theorem dX12_isThing_11 : decode cX12_isThing 11 = .ok (.i2l, 1) := by decide +kernel
theorem dX12_isThing_12 : decode cX12_isThing 12 = .ok (.invokestatic 128, 3) := by decide +kernel
theorem dX12_isThing_15 : decode cX12_isThing 15 = .ok (.ireturn, 1) := by decide +kernel
theorem dX12_town_0 : decode cX12_town 0 = .ok (.aload_n 0, 1) := by decide +kernel
theorem dX12_town_1 : decode cX12_town 1 = .ok (.getfield 9, 3) := by decide +kernel
theorem dX12_town_4 : decode cX12_town 4 = .ok (.iconst 2, 1) := by decide +kernel
theorem dX12_town_5 : decode cX12_town 5 = .ok (.iaload, 1) := by decide +kernel
theorem dX12_town_6 : decode cX12_town 6 = .ok (.ireturn, 1) := by decide +kernel
theorem dX12_feed_0 : decode cX12_feed 0 = .ok (.aload_n 0, 1) := by decide +kernel
theorem dX12_feed_1 : decode cX12_feed 1 = .ok (.getfield 132, 3) := by decide +kernel
theorem dX12_feed_4 : decode cX12_feed 4 = .ok (.bipush 20, 2) := by decide +kernel
theorem dX12_feed_6 : decode cX12_feed 6 = .ok (.iadd, 1) := by decide +kernel
theorem dX12_feed_7 : decode cX12_feed 7 = .ok (.sipush 400, 3) := by decide +kernel
theorem dX12_feed_10 : decode cX12_feed 10 = .ok (.if_icmp .le 5, 3) := by decide +kernel
theorem dX12_feed_13 : decode cX12_feed 13 = .ok (.iconst (-1), 1) := by decide +kernel
theorem dX12_feed_14 : decode cX12_feed 14 = .ok (.ireturn, 1) := by decide +kernel
theorem dX12_feed_15 : decode cX12_feed 15 = .ok (.aload_n 0, 1) := by decide +kernel
theorem dX12_feed_16 : decode cX12_feed 16 = .ok (.iload_n 1, 1) := by decide +kernel
theorem dX12_feed_17 : decode cX12_feed 17 = .ok (.invokevirtual 135, 3) := by decide +kernel
theorem dX12_feed_20 : decode cX12_feed 20 = .ok (.aload_n 0, 1) := by decide +kernel
theorem dX12_feed_21 : decode cX12_feed 21 = .ok (.iload_n 2, 1) := by decide +kernel
theorem dX12_feed_22 : decode cX12_feed 22 = .ok (.invokevirtual 135, 3) := by decide +kernel
theorem dX12_feed_25 : decode cX12_feed 25 = .ok (.aload_n 0, 1) := by decide +kernel
theorem dX12_feed_26 : decode cX12_feed 26 = .ok (.iload_n 3, 1) := by decide +kernel
theorem dX12_feed_27 : decode cX12_feed 27 = .ok (.invokevirtual 135, 3) := by decide +kernel
theorem dX12_feed_30 : decode cX12_feed 30 = .ok (.aload_n 0, 1) := by decide +kernel
theorem dX12_feed_31 : decode cX12_feed 31 = .ok (.iload 4, 2) := by decide +kernel
theorem dX12_feed_33 : decode cX12_feed 33 = .ok (.invokevirtual 135, 3) := by decide +kernel
theorem dX12_feed_36 : decode cX12_feed 36 = .ok (.aload_n 0, 1) := by decide +kernel
theorem dX12_feed_37 : decode cX12_feed 37 = .ok (.iload 5, 2) := by decide +kernel
theorem dX12_feed_39 : decode cX12_feed 39 = .ok (.invokevirtual 135, 3) := by decide +kernel
theorem dX12_feed_42 : decode cX12_feed 42 = .ok (.aload_n 0, 1) := by decide +kernel
theorem dX12_feed_43 : decode cX12_feed 43 = .ok (.getfield 132, 3) := by decide +kernel
theorem dX12_feed_46 : decode cX12_feed 46 = .ok (.ireturn, 1) := by decide +kernel
theorem dX12_put_0 : decode cX12_put 0 = .ok (.bipush 24, 2) := by decide +kernel
theorem dX12_put_2 : decode cX12_put 2 = .ok (.istore_n 2, 1) := by decide +kernel
theorem dX12_put_3 : decode cX12_put 3 = .ok (.iload_n 2, 1) := by decide +kernel
theorem dX12_put_4 : decode cX12_put 4 = .ok (.ifCond .lt 32, 3) := by decide +kernel
theorem dX12_put_7 : decode cX12_put 7 = .ok (.aload_n 0, 1) := by decide +kernel
theorem dX12_put_8 : decode cX12_put 8 = .ok (.getfield 68, 3) := by decide +kernel
theorem dX12_put_11 : decode cX12_put 11 = .ok (.aload_n 0, 1) := by decide +kernel
theorem dX12_put_12 : decode cX12_put 12 = .ok (.getfield 132, 3) := by decide +kernel
theorem dX12_put_15 : decode cX12_put 15 = .ok (.iload_n 1, 1) := by decide +kernel
theorem dX12_put_16 : decode cX12_put 16 = .ok (.iload_n 2, 1) := by decide +kernel
theorem dX12_put_17 : decode cX12_put 17 = .ok (.ishr, 1) := by decide +kernel
theorem dX12_put_18 : decode cX12_put 18 = .ok (.i2b, 1) := by decide +kernel
theorem dX12_put_19 : decode cX12_put 19 = .ok (.bastore, 1) := by decide +kernel
theorem dX12_put_20 : decode cX12_put 20 = .ok (.aload_n 0, 1) := by decide +kernel
theorem dX12_put_21 : decode cX12_put 21 = .ok (.dup, 1) := by decide +kernel
theorem dX12_put_22 : decode cX12_put 22 = .ok (.getfield 132, 3) := by decide +kernel
theorem dX12_put_25 : decode cX12_put 25 = .ok (.iconst 1, 1) := by decide +kernel
theorem dX12_put_26 : decode cX12_put 26 = .ok (.iadd, 1) := by decide +kernel
theorem dX12_put_27 : decode cX12_put 27 = .ok (.putfield 132, 3) := by decide +kernel
theorem dX12_put_30 : decode cX12_put 30 = .ok (.iinc 2 (-8), 3) := by decide +kernel
theorem dX12_put_33 : decode cX12_put 33 = .ok (.goto (-30), 3) := by decide +kernel
theorem dX12_put_36 : decode cX12_put 36 = .ok (.return_, 1) := by decide +kernel
theorem dX12_end_0 : decode cX12_end 0 = .ok (.iload_n 1, 1) := by decide +kernel
theorem dX12_end_1 : decode cX12_end 1 = .ok (.ifCond .lt 11, 3) := by decide +kernel
theorem dX12_end_4 : decode cX12_end 4 = .ok (.iload_n 1, 1) := by decide +kernel
theorem dX12_end_5 : decode cX12_end 5 = .ok (.aload_n 0, 1) := by decide +kernel
theorem dX12_end_6 : decode cX12_end 6 = .ok (.getfield 132, 3) := by decide +kernel
theorem dX12_end_9 : decode cX12_end 9 = .ok (.if_icmp .le 5, 3) := by decide +kernel
theorem dX12_end_12 : decode cX12_end 12 = .ok (.iconst (-1), 1) := by decide +kernel
theorem dX12_end_13 : decode cX12_end 13 = .ok (.ireturn, 1) := by decide +kernel
theorem dX12_end_14 : decode cX12_end 14 = .ok (.aload_n 0, 1) := by decide +kernel
theorem dX12_end_15 : decode cX12_end 15 = .ok (.iload_n 1, 1) := by decide +kernel
theorem dX12_end_16 : decode cX12_end 16 = .ok (.putfield 132, 3) := by decide +kernel
theorem dX12_end_19 : decode cX12_end 19 = .ok (.iload_n 1, 1) := by decide +kernel
theorem dX12_end_20 : decode cX12_end 20 = .ok (.ireturn, 1) := by decide +kernel
theorem dX12_wordOf_0 : decode cX12_wordOf 0 = .ok (.iload_n 0, 1) := by decide +kernel
theorem dX12_wordOf_1 : decode cX12_wordOf 1 = .ok (.tableswitch 92 0 10 #[59, 62, 65, 68, 71, 74, 77, 80, 83, 86, 89], 59) := by decide +kernel
theorem dX12_wordOf_60 : decode cX12_wordOf 60 = .ok (.ldc 139, 2) := by decide +kernel
theorem dX12_wordOf_62 : decode cX12_wordOf 62 = .ok (.areturn, 1) := by decide +kernel
theorem dX12_wordOf_63 : decode cX12_wordOf 63 = .ok (.ldc 141, 2) := by decide +kernel
theorem dX12_wordOf_65 : decode cX12_wordOf 65 = .ok (.areturn, 1) := by decide +kernel
theorem dX12_wordOf_66 : decode cX12_wordOf 66 = .ok (.ldc 143, 2) := by decide +kernel
theorem dX12_wordOf_68 : decode cX12_wordOf 68 = .ok (.areturn, 1) := by decide +kernel
theorem dX12_wordOf_69 : decode cX12_wordOf 69 = .ok (.ldc 144, 2) := by decide +kernel
theorem dX12_wordOf_71 : decode cX12_wordOf 71 = .ok (.areturn, 1) := by decide +kernel
theorem dX12_wordOf_72 : decode cX12_wordOf 72 = .ok (.ldc 145, 2) := by decide +kernel
theorem dX12_wordOf_74 : decode cX12_wordOf 74 = .ok (.areturn, 1) := by decide +kernel
theorem dX12_wordOf_75 : decode cX12_wordOf 75 = .ok (.ldc 147, 2) := by decide +kernel
theorem dX12_wordOf_77 : decode cX12_wordOf 77 = .ok (.areturn, 1) := by decide +kernel
theorem dX12_wordOf_78 : decode cX12_wordOf 78 = .ok (.ldc 149, 2) := by decide +kernel
theorem dX12_wordOf_80 : decode cX12_wordOf 80 = .ok (.areturn, 1) := by decide +kernel
theorem dX12_wordOf_81 : decode cX12_wordOf 81 = .ok (.ldc 151, 2) := by decide +kernel
theorem dX12_wordOf_83 : decode cX12_wordOf 83 = .ok (.areturn, 1) := by decide +kernel
theorem dX12_wordOf_84 : decode cX12_wordOf 84 = .ok (.ldc 153, 2) := by decide +kernel
theorem dX12_wordOf_86 : decode cX12_wordOf 86 = .ok (.areturn, 1) := by decide +kernel
theorem dX12_wordOf_87 : decode cX12_wordOf 87 = .ok (.ldc 155, 2) := by decide +kernel
theorem dX12_wordOf_89 : decode cX12_wordOf 89 = .ok (.areturn, 1) := by decide +kernel
theorem dX12_wordOf_90 : decode cX12_wordOf 90 = .ok (.ldc 156, 2) := by decide +kernel
theorem dX12_wordOf_92 : decode cX12_wordOf 92 = .ok (.areturn, 1) := by decide +kernel
theorem dX12_wordOf_93 : decode cX12_wordOf 93 = .ok (.ldc 158, 2) := by decide +kernel
theorem dX12_wordOf_95 : decode cX12_wordOf 95 = .ok (.areturn, 1) := by decide +kernel
theorem dX12_fails_0 : decode cX12_fails 0 = .ok (.aload_n 0, 1) := by decide +kernel
theorem dX12_fails_1 : decode cX12_fails 1 = .ok (.aload_n 0, 1) := by decide +kernel
theorem dX12_fails_2 : decode cX12_fails 2 = .ok (.getfield 160, 3) := by decide +kernel
theorem dX12_fails_5 : decode cX12_fails 5 = .ok (.ifCond .ne 14, 3) := by decide +kernel
theorem dX12_fails_8 : decode cX12_fails 8 = .ok (.iconst 1, 1) := by decide +kernel
theorem dX12_fails_9 : decode cX12_fails 9 = .ok (.bipush 8, 2) := by decide +kernel
theorem dX12_fails_11 : decode cX12_fails 11 = .ok (.iload_n 2, 1) := by decide +kernel
theorem dX12_fails_12 : decode cX12_fails 12 = .ok (.imul, 1) := by decide +kernel
theorem dX12_fails_13 : decode cX12_fails 13 = .ok (.iadd, 1) := by decide +kernel
theorem dX12_fails_14 : decode cX12_fails 14 = .ok (.iload_n 1, 1) := by decide +kernel
theorem dX12_fails_15 : decode cX12_fails 15 = .ok (.iadd, 1) := by decide +kernel
theorem dX12_fails_16 : decode cX12_fails 16 = .ok (.goto 7, 3) := by decide +kernel
theorem dX12_fails_19 : decode cX12_fails 19 = .ok (.aload_n 0, 1) := by decide +kernel
theorem dX12_fails_20 : decode cX12_fails 20 = .ok (.getfield 160, 3) := by decide +kernel
theorem dX12_fails_23 : decode cX12_fails 23 = .ok (.putfield 160, 3) := by decide +kernel
theorem dX12_fails_26 : decode cX12_fails 26 = .ok (.return_, 1) := by decide +kernel
theorem dX12_sign_0 : decode cX12_sign 0 = .ok (.aload_n 0, 1) := by decide +kernel
