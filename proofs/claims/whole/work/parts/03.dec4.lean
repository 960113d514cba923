theorem dX12_far_13 : decode cX12_far 13 = .ok (.getfield 9, 3) := by decide +kernel
theorem dX12_far_16 : decode cX12_far 16 = .ok (.iconst 4, 1) := by decide +kernel
theorem dX12_far_17 : decode cX12_far 17 = .ok (.iaload, 1) := by decide +kernel
theorem dX12_far_18 : decode cX12_far 18 = .ok (.ishl, 1) := by decide +kernel
theorem dX12_far_19 : decode cX12_far 19 = .ok (.iconst 1, 1) := by decide +kernel
theorem dX12_far_20 : decode cX12_far 20 = .ok (.isub, 1) := by decide +kernel
theorem dX12_far_21 : decode cX12_far 21 = .ok (.i2l, 1) := by decide +kernel
theorem dX12_far_22 : decode cX12_far 22 = .ok (.invokestatic 128, 3) := by decide +kernel
theorem dX12_far_25 : decode cX12_far 25 = .ok (.ifCond .eq 16, 3) := by decide +kernel
theorem dX12_far_28 : decode cX12_far 28 = .ok (.iload_n 2, 1) := by decide +kernel
theorem dX12_far_29 : decode cX12_far 29 = .ok (.invokestatic 355, 3) := by decide +kernel
theorem dX12_far_32 : decode cX12_far 32 = .ok (.aload_n 0, 1) := by decide +kernel
theorem dX12_far_33 : decode cX12_far 33 = .ok (.getfield 9, 3) := by decide +kernel
theorem dX12_far_36 : decode cX12_far 36 = .ok (.iconst 1, 1) := by decide +kernel
theorem dX12_far_37 : decode cX12_far 37 = .ok (.iaload, 1) := by decide +kernel
theorem dX12_far_38 : decode cX12_far 38 = .ok (.if_icmp .le 5, 3) := by decide +kernel
theorem dX12_far_41 : decode cX12_far 41 = .ok (.iconst (-1), 1) := by decide +kernel
theorem dX12_far_42 : decode cX12_far 42 = .ok (.ireturn, 1) := by decide +kernel
theorem dX12_far_43 : decode cX12_far 43 = .ok (.aload_n 0, 1) := by decide +kernel
theorem dX12_far_44 : decode cX12_far 44 = .ok (.iload_n 1, 1) := by decide +kernel
theorem dX12_far_45 : decode cX12_far 45 = .ok (.iload_n 2, 1) := by decide +kernel
theorem dX12_far_46 : decode cX12_far 46 = .ok (.invokevirtual 428, 3) := by decide +kernel
theorem dX12_far_49 : decode cX12_far 49 = .ok (.ireturn, 1) := by decide +kernel
theorem dX12_load_0 : decode cX12_load 0 = .ok (.aload_n 0, 1) := by decide +kernel
theorem dX12_load_1 : decode cX12_load 1 = .ok (.iload_n 1, 1) := by decide +kernel
theorem dX12_load_2 : decode cX12_load 2 = .ok (.invokevirtual 395, 3) := by decide +kernel
theorem dX12_load_5 : decode cX12_load 5 = .ok (.ifCond .eq 27, 3) := by decide +kernel
theorem dX12_load_8 : decode cX12_load 8 = .ok (.iload_n 2, 1) := by decide +kernel
theorem dX12_load_9 : decode cX12_load 9 = .ok (.i2l, 1) := by decide +kernel
theorem dX12_load_10 : decode cX12_load 10 = .ok (.lconst 1, 1) := by decide +kernel
theorem dX12_load_11 : decode cX12_load 11 = .ok (.ldc2_w 431, 3) := by decide +kernel
theorem dX12_load_14 : decode cX12_load 14 = .ok (.invokestatic 128, 3) := by decide +kernel
theorem dX12_load_17 : decode cX12_load 17 = .ok (.ifCond .eq 15, 3) := by decide +kernel
theorem dX12_load_20 : decode cX12_load 20 = .ok (.iload_n 3, 1) := by decide +kernel
theorem dX12_load_21 : decode cX12_load 21 = .ok (.i2l, 1) := by decide +kernel
theorem dX12_load_22 : decode cX12_load 22 = .ok (.lconst 0, 1) := by decide +kernel
theorem dX12_load_23 : decode cX12_load 23 = .ok (.ldc2_w 350, 3) := by decide +kernel
theorem dX12_load_26 : decode cX12_load 26 = .ok (.invokestatic 128, 3) := by decide +kernel
theorem dX12_load_29 : decode cX12_load 29 = .ok (.ifCond .ne 5, 3) := by decide +kernel
theorem dX12_load_32 : decode cX12_load 32 = .ok (.iconst (-1), 1) := by decide +kernel
theorem dX12_load_33 : decode cX12_load 33 = .ok (.ireturn, 1) := by decide +kernel
theorem dX12_load_34 : decode cX12_load 34 = .ok (.aload_n 0, 1) := by decide +kernel
theorem dX12_load_35 : decode cX12_load 35 = .ok (.iload_n 1, 1) := by decide +kernel
theorem dX12_load_36 : decode cX12_load 36 = .ok (.invokevirtual 338, 3) := by decide +kernel
theorem dX12_load_39 : decode cX12_load 39 = .ok (.aload_n 0, 1) := by decide +kernel
theorem dX12_load_40 : decode cX12_load 40 = .ok (.bipush 10, 2) := by decide +kernel
theorem dX12_load_42 : decode cX12_load 42 = .ok (.aload_n 0, 1) := by decide +kernel
theorem dX12_load_43 : decode cX12_load 43 = .ok (.getfield 13, 3) := by decide +kernel
theorem dX12_load_46 : decode cX12_load 46 = .ok (.iload_n 1, 1) := by decide +kernel
theorem dX12_load_47 : decode cX12_load 47 = .ok (.iaload, 1) := by decide +kernel
theorem dX12_load_48 : decode cX12_load 48 = .ok (.iadd, 1) := by decide +kernel
theorem dX12_load_49 : decode cX12_load 49 = .ok (.invokevirtual 338, 3) := by decide +kernel
theorem dX12_load_52 : decode cX12_load 52 = .ok (.ior, 1) := by decide +kernel
theorem dX12_load_53 : decode cX12_load 53 = .ok (.istore 4, 2) := by decide +kernel
theorem dX12_load_55 : decode cX12_load 55 = .ok (.bipush (-2), 2) := by decide +kernel
theorem dX12_load_57 : decode cX12_load 57 = .ok (.istore 5, 2) := by decide +kernel
theorem dX12_load_59 : decode cX12_load 59 = .ok (.iconst 0, 1) := by decide +kernel
theorem dX12_load_60 : decode cX12_load 60 = .ok (.istore 6, 2) := by decide +kernel
theorem dX12_load_62 : decode cX12_load 62 = .ok (.iload 6, 2) := by decide +kernel
theorem dX12_load_64 : decode cX12_load 64 = .ok (.iconst 1, 1) := by decide +kernel
theorem dX12_load_65 : decode cX12_load 65 = .ok (.aload_n 0, 1) := by decide +kernel
theorem dX12_load_66 : decode cX12_load 66 = .ok (.getfield 9, 3) := by decide +kernel
theorem dX12_load_69 : decode cX12_load 69 = .ok (.iconst 4, 1) := by decide +kernel
theorem dX12_load_70 : decode cX12_load 70 = .ok (.iaload, 1) := by decide +kernel
theorem dX12_load_71 : decode cX12_load 71 = .ok (.ishl, 1) := by decide +kernel
theorem dX12_load_72 : decode cX12_load 72 = .ok (.if_icmp .ge 106, 3) := by decide +kernel
theorem dX12_load_75 : decode cX12_load 75 = .ok (.iload 6, 2) := by decide +kernel
theorem dX12_load_77 : decode cX12_load 77 = .ok (.iload 4, 2) := by decide +kernel
theorem dX12_load_79 : decode cX12_load 79 = .ok (.iconst (-1), 1) := by decide +kernel
theorem dX12_load_80 : decode cX12_load 80 = .ok (.ixor, 1) := by decide +kernel
theorem dX12_load_81 : decode cX12_load 81 = .ok (.iand, 1) := by decide +kernel
theorem dX12_load_82 : decode cX12_load 82 = .ok (.ifCond .ne 90, 3) := by decide +kernel
theorem dX12_load_85 : decode cX12_load 85 = .ok (.iload 6, 2) := by decide +kernel
theorem dX12_load_87 : decode cX12_load 87 = .ok (.invokestatic 355, 3) := by decide +kernel
theorem dX12_load_90 : decode cX12_load 90 = .ok (.aload_n 0, 1) := by decide +kernel
theorem dX12_load_91 : decode cX12_load 91 = .ok (.getfield 9, 3) := by decide +kernel
theorem dX12_load_94 : decode cX12_load 94 = .ok (.iconst 1, 1) := by decide +kernel
theorem dX12_load_95 : decode cX12_load 95 = .ok (.iaload, 1) := by decide +kernel
theorem dX12_load_96 : decode cX12_load 96 = .ok (.if_icmp .gt 76, 3) := by decide +kernel
theorem dX12_load_99 : decode cX12_load 99 = .ok (.aload_n 0, 1) := by decide +kernel
theorem dX12_load_100 : decode cX12_load 100 = .ok (.iload_n 1, 1) := by decide +kernel
theorem dX12_load_101 : decode cX12_load 101 = .ok (.iload 6, 2) := by decide +kernel
theorem dX12_load_103 : decode cX12_load 103 = .ok (.invokevirtual 428, 3) := by decide +kernel
theorem dX12_load_106 : decode cX12_load 106 = .ok (.iload_n 2, 1) := by decide +kernel
theorem dX12_load_107 : decode cX12_load 107 = .ok (.if_icmp .gt 65, 3) := by decide +kernel
theorem dX12_load_110 : decode cX12_load 110 = .ok (.iload 5, 2) := by decide +kernel
theorem dX12_load_112 : decode cX12_load 112 = .ok (.bipush (-2), 2) := by decide +kernel
theorem dX12_load_114 : decode cX12_load 114 = .ok (.if_icmp .ne 7, 3) := by decide +kernel
theorem dX12_load_117 : decode cX12_load 117 = .ok (.iconst 1, 1) := by decide +kernel
theorem dX12_load_118 : decode cX12_load 118 = .ok (.goto 16, 3) := by decide +kernel
theorem dX12_load_121 : decode cX12_load 121 = .ok (.aload_n 0, 1) := by decide +kernel
theorem dX12_load_122 : decode cX12_load 122 = .ok (.iload 6, 2) := by decide +kernel
theorem dX12_load_124 : decode cX12_load 124 = .ok (.invokevirtual 344, 3) := by decide +kernel
theorem dX12_load_127 : decode cX12_load 127 = .ok (.aload_n 0, 1) := by decide +kernel
theorem dX12_load_128 : decode cX12_load 128 = .ok (.iload 5, 2) := by decide +kernel
theorem dX12_load_130 : decode cX12_load 130 = .ok (.invokevirtual 344, 3) := by decide +kernel
theorem dX12_load_133 : decode cX12_load 133 = .ok (.isub, 1) := by decide +kernel
theorem dX12_load_134 : decode cX12_load 134 = .ok (.istore 7, 2) := by decide +kernel
theorem dX12_load_136 : decode cX12_load 136 = .ok (.iload 7, 2) := by decide +kernel
theorem dX12_load_138 : decode cX12_load 138 = .ok (.ifCond .gt 25, 3) := by decide +kernel
theorem dX12_load_141 : decode cX12_load 141 = .ok (.iload 7, 2) := by decide +kernel
theorem dX12_load_143 : decode cX12_load 143 = .ok (.ifCond .ne 25, 3) := by decide +kernel
theorem dX12_load_146 : decode cX12_load 146 = .ok (.aload_n 0, 1) := by decide +kernel
theorem dX12_load_147 : decode cX12_load 147 = .ok (.iload_n 1, 1) := by decide +kernel
theorem dX12_load_148 : decode cX12_load 148 = .ok (.iload 6, 2) := by decide +kernel
theorem dX12_load_150 : decode cX12_load 150 = .ok (.invokevirtual 428, 3) := by decide +kernel
theorem dX12_load_153 : decode cX12_load 153 = .ok (.aload_n 0, 1) := by decide +kernel
theorem dX12_load_154 : decode cX12_load 154 = .ok (.iload_n 1, 1) := by decide +kernel
theorem dX12_load_155 : decode cX12_load 155 = .ok (.iload 5, 2) := by decide +kernel
theorem dX12_load_157 : decode cX12_load 157 = .ok (.invokevirtual 428, 3) := by decide +kernel
theorem dX12_load_160 : decode cX12_load 160 = .ok (.if_icmp .ge 8, 3) := by decide +kernel
theorem dX12_load_163 : decode cX12_load 163 = .ok (.iload 6, 2) := by decide +kernel
theorem dX12_load_165 : decode cX12_load 165 = .ok (.goto 5, 3) := by decide +kernel
theorem dX12_load_168 : decode cX12_load 168 = .ok (.iload 5, 2) := by decide +kernel
theorem dX12_load_170 : decode cX12_load 170 = .ok (.istore 5, 2) := by decide +kernel
theorem dX12_load_172 : decode cX12_load 172 = .ok (.iinc 6 1, 3) := by decide +kernel
theorem dX12_load_175 : decode cX12_load 175 = .ok (.goto (-113), 3) := by decide +kernel
theorem dX12_load_178 : decode cX12_load 178 = .ok (.iload 5, 2) := by decide +kernel
theorem dX12_load_180 : decode cX12_load 180 = .ok (.bipush (-2), 2) := by decide +kernel
theorem dX12_load_182 : decode cX12_load 182 = .ok (.if_icmp .eq 7, 3) := by decide +kernel
theorem dX12_load_185 : decode cX12_load 185 = .ok (.iload_n 3, 1) := by decide +kernel
theorem dX12_load_186 : decode cX12_load 186 = .ok (.ifCond .ne 8, 3) := by decide +kernel
theorem dX12_load_189 : decode cX12_load 189 = .ok (.iload 5, 2) := by decide +kernel
theorem dX12_load_191 : decode cX12_load 191 = .ok (.goto 24, 3) := by decide +kernel
theorem dX12_load_194 : decode cX12_load 194 = .ok (.iload_n 3, 1) := by decide +kernel
theorem dX12_load_195 : decode cX12_load 195 = .ok (.iconst 1, 1) := by decide +kernel
theorem dX12_load_196 : decode cX12_load 196 = .ok (.if_icmp .ne 12, 3) := by decide +kernel
theorem dX12_load_199 : decode cX12_load 199 = .ok (.aload_n 0, 1) := by decide +kernel
theorem dX12_load_200 : decode cX12_load 200 = .ok (.iload 5, 2) := by decide +kernel
theorem dX12_load_202 : decode cX12_load 202 = .ok (.invokevirtual 344, 3) := by decide +kernel
theorem dX12_load_205 : decode cX12_load 205 = .ok (.goto 10, 3) := by decide +kernel
theorem dX12_load_208 : decode cX12_load 208 = .ok (.aload_n 0, 1) := by decide +kernel
theorem dX12_load_209 : decode cX12_load 209 = .ok (.iload_n 1, 1) := by decide +kernel
theorem dX12_load_210 : decode cX12_load 210 = .ok (.iload 5, 2) := by decide +kernel
theorem dX12_load_212 : decode cX12_load 212 = .ok (.invokevirtual 428, 3) := by decide +kernel
theorem dX12_load_215 : decode cX12_load 215 = .ok (.ireturn, 1) := by decide +kernel
theorem dX12_had_0 : decode cX12_had 0 = .ok (.aload_n 0, 1) := by decide +kernel
theorem dX12_had_1 : decode cX12_had 1 = .ok (.iload_n 1, 1) := by decide +kernel
theorem dX12_had_2 : decode cX12_had 2 = .ok (.invokevirtual 334, 3) := by decide +kernel
theorem dX12_had_5 : decode cX12_had 5 = .ok (.ifCond .eq 46, 3) := by decide +kernel
theorem dX12_had_8 : decode cX12_had 8 = .ok (.iload_n 2, 1) := by decide +kernel
theorem dX12_had_9 : decode cX12_had 9 = .ok (.ifCond .lt 42, 3) := by decide +kernel
theorem dX12_had_12 : decode cX12_had 12 = .ok (.iload_n 3, 1) := by decide +kernel
theorem dX12_had_13 : decode cX12_had 13 = .ok (.aload_n 0, 1) := by decide +kernel
theorem dX12_had_14 : decode cX12_had 14 = .ok (.invokevirtual 352, 3) := by decide +kernel
theorem dX12_had_17 : decode cX12_had 17 = .ok (.if_icmp .gt 34, 3) := by decide +kernel
theorem dX12_had_20 : decode cX12_had 20 = .ok (.iload_n 2, 1) := by decide +kernel
theorem dX12_had_21 : decode cX12_had 21 = .ok (.iload_n 3, 1) := by decide +kernel
theorem dX12_had_22 : decode cX12_had 22 = .ok (.if_icmp .ge 29, 3) := by decide +kernel
theorem dX12_had_25 : decode cX12_had 25 = .ok (.iload 4, 2) := by decide +kernel
theorem dX12_had_27 : decode cX12_had 27 = .ok (.i2l, 1) := by decide +kernel
theorem dX12_had_28 : decode cX12_had 28 = .ok (.lconst 1, 1) := by decide +kernel
theorem dX12_had_29 : decode cX12_had 29 = .ok (.ldc2_w 407, 3) := by decide +kernel
theorem dX12_had_32 : decode cX12_had 32 = .ok (.invokestatic 128, 3) := by decide +kernel
theorem dX12_had_35 : decode cX12_had 35 = .ok (.ifCond .eq 16, 3) := by decide +kernel
theorem dX12_had_38 : decode cX12_had 38 = .ok (.iload 5, 2) := by decide +kernel
theorem dX12_had_40 : decode cX12_had 40 = .ok (.i2l, 1) := by decide +kernel
theorem dX12_had_41 : decode cX12_had 41 = .ok (.lconst 0, 1) := by decide +kernel
theorem dX12_had_42 : decode cX12_had 42 = .ok (.ldc2_w 350, 3) := by decide +kernel
theorem dX12_had_45 : decode cX12_had 45 = .ok (.invokestatic 128, 3) := by decide +kernel
theorem dX12_had_48 : decode cX12_had 48 = .ok (.ifCond .ne 6, 3) := by decide +kernel
theorem dX12_had_51 : decode cX12_had 51 = .ok (.bipush (-3), 2) := by decide +kernel
theorem dX12_had_53 : decode cX12_had 53 = .ok (.ireturn, 1) := by decide +kernel
theorem dX12_had_54 : decode cX12_had 54 = .ok (.iconst 0, 1) := by decide +kernel
theorem dX12_had_55 : decode cX12_had 55 = .ok (.istore 6, 2) := by decide +kernel
theorem dX12_had_57 : decode cX12_had 57 = .ok (.bipush (-2), 2) := by decide +kernel
theorem dX12_had_59 : decode cX12_had 59 = .ok (.istore 7, 2) := by decide +kernel
theorem dX12_had_61 : decode cX12_had 61 = .ok (.iconst 0, 1) := by decide +kernel
theorem dX12_had_62 : decode cX12_had 62 = .ok (.istore 8, 2) := by decide +kernel
theorem dX12_had_64 : decode cX12_had 64 = .ok (.iconst 0, 1) := by decide +kernel
theorem dX12_had_65 : decode cX12_had 65 = .ok (.istore 9, 2) := by decide +kernel
theorem dX12_had_67 : decode cX12_had 67 = .ok (.iload 9, 2) := by decide +kernel
theorem dX12_had_69 : decode cX12_had 69 = .ok (.iconst 1, 1) := by decide +kernel
theorem dX12_had_70 : decode cX12_had 70 = .ok (.aload_n 0, 1) := by decide +kernel
theorem dX12_had_71 : decode cX12_had 71 = .ok (.getfield 9, 3) := by decide +kernel
theorem dX12_had_74 : decode cX12_had 74 = .ok (.iconst 4, 1) := by decide +kernel
theorem dX12_had_75 : decode cX12_had 75 = .ok (.iaload, 1) := by decide +kernel
theorem dX12_had_76 : decode cX12_had 76 = .ok (.ishl, 1) := by decide +kernel
theorem dX12_had_77 : decode cX12_had 77 = .ok (.if_icmp .ge 75, 3) := by decide +kernel
theorem dX12_had_80 : decode cX12_had 80 = .ok (.iload 9, 2) := by decide +kernel
theorem dX12_had_82 : decode cX12_had 82 = .ok (.invokestatic 355, 3) := by decide +kernel
theorem dX12_had_85 : decode cX12_had 85 = .ok (.aload_n 0, 1) := by decide +kernel
theorem dX12_had_86 : decode cX12_had 86 = .ok (.getfield 9, 3) := by decide +kernel
theorem dX12_had_89 : decode cX12_had 89 = .ok (.iconst 1, 1) := by decide +kernel
theorem dX12_had_90 : decode cX12_had 90 = .ok (.iaload, 1) := by decide +kernel
theorem dX12_had_91 : decode cX12_had 91 = .ok (.if_icmp .gt 55, 3) := by decide +kernel
theorem dX12_had_94 : decode cX12_had 94 = .ok (.aload_n 0, 1) := by decide +kernel
theorem dX12_had_95 : decode cX12_had 95 = .ok (.iload_n 1, 1) := by decide +kernel
theorem dX12_had_96 : decode cX12_had 96 = .ok (.iload_n 2, 1) := by decide +kernel
theorem dX12_had_97 : decode cX12_had 97 = .ok (.iload_n 3, 1) := by decide +kernel
theorem dX12_had_98 : decode cX12_had 98 = .ok (.aload_n 0, 1) := by decide +kernel
theorem dX12_had_99 : decode cX12_had 99 = .ok (.iload 9, 2) := by decide +kernel
theorem dX12_had_101 : decode cX12_had 101 = .ok (.invokevirtual 341, 3) := by decide +kernel
theorem dX12_had_104 : decode cX12_had 104 = .ok (.invokevirtual 424, 3) := by decide +kernel
theorem dX12_had_107 : decode cX12_had 107 = .ok (.iload 4, 2) := by decide +kernel
theorem dX12_had_109 : decode cX12_had 109 = .ok (.if_icmp .ne 37, 3) := by decide +kernel
theorem dX12_had_112 : decode cX12_had 112 = .ok (.iload 6, 2) := by decide +kernel
theorem dX12_had_114 : decode cX12_had 114 = .ok (.ifCond .ne 8, 3) := by decide +kernel
theorem dX12_had_117 : decode cX12_had 117 = .ok (.iload 9, 2) := by decide +kernel
theorem dX12_had_119 : decode cX12_had 119 = .ok (.goto 5, 3) := by decide +kernel
theorem dX12_had_122 : decode cX12_had 122 = .ok (.iload 7, 2) := by decide +kernel
theorem dX12_had_124 : decode cX12_had 124 = .ok (.istore 7, 2) := by decide +kernel
theorem dX12_had_126 : decode cX12_had 126 = .ok (.iload 6, 2) := by decide +kernel
theorem dX12_had_128 : decode cX12_had 128 = .ok (.ifCond .ne 8, 3) := by decide +kernel
theorem dX12_had_131 : decode cX12_had 131 = .ok (.iload 9, 2) := by decide +kernel
theorem dX12_had_133 : decode cX12_had 133 = .ok (.goto 8, 3) := by decide +kernel
theorem dX12_had_136 : decode cX12_had 136 = .ok (.iload 8, 2) := by decide +kernel
theorem dX12_had_138 : decode cX12_had 138 = .ok (.iload 9, 2) := by decide +kernel
theorem dX12_had_140 : decode cX12_had 140 = .ok (.iand, 1) := by decide +kernel
theorem dX12_had_141 : decode cX12_had 141 = .ok (.istore 8, 2) := by decide +kernel
theorem dX12_had_143 : decode cX12_had 143 = .ok (.iinc 6 1, 3) := by decide +kernel
theorem dX12_had_146 : decode cX12_had 146 = .ok (.iinc 9 1, 3) := by decide +kernel
theorem dX12_had_149 : decode cX12_had 149 = .ok (.goto (-82), 3) := by decide +kernel
theorem dX12_had_152 : decode cX12_had 152 = .ok (.iload 5, 2) := by decide +kernel
theorem dX12_had_154 : decode cX12_had 154 = .ok (.ifCond .ne 8, 3) := by decide +kernel
theorem dX12_had_157 : decode cX12_had 157 = .ok (.iload 6, 2) := by decide +kernel
theorem dX12_had_159 : decode cX12_had 159 = .ok (.goto 16, 3) := by decide +kernel
theorem dX12_had_162 : decode cX12_had 162 = .ok (.iload 5, 2) := by decide +kernel
theorem dX12_had_164 : decode cX12_had 164 = .ok (.iconst 1, 1) := by decide +kernel
theorem dX12_had_165 : decode cX12_had 165 = .ok (.if_icmp .ne 8, 3) := by decide +kernel
theorem dX12_had_168 : decode cX12_had 168 = .ok (.iload 7, 2) := by decide +kernel
theorem dX12_had_170 : decode cX12_had 170 = .ok (.goto 5, 3) := by decide +kernel
theorem dX12_had_173 : decode cX12_had 173 = .ok (.iload 8, 2) := by decide +kernel
theorem dX12_had_175 : decode cX12_had 175 = .ok (.ireturn, 1) := by decide +kernel
theorem dX12_exchange_0 : decode cX12_exchange 0 = .ok (.aload_n 0, 1) := by decide +kernel
theorem dX12_exchange_1 : decode cX12_exchange 1 = .ok (.iload_n 1, 1) := by decide +kernel
theorem dX12_exchange_2 : decode cX12_exchange 2 = .ok (.iload_n 2, 1) := by decide +kernel
theorem dX12_exchange_3 : decode cX12_exchange 3 = .ok (.invokevirtual 401, 3) := by decide +kernel
theorem dX12_exchange_6 : decode cX12_exchange 6 = .ok (.ifCond .eq 15, 3) := by decide +kernel
theorem dX12_exchange_9 : decode cX12_exchange 9 = .ok (.iload_n 3, 1) := by decide +kernel
theorem dX12_exchange_10 : decode cX12_exchange 10 = .ok (.i2l, 1) := by decide +kernel
theorem dX12_exchange_11 : decode cX12_exchange 11 = .ok (.lconst 0, 1) := by decide +kernel
theorem dX12_exchange_12 : decode cX12_exchange 12 = .ok (.ldc2_w 350, 3) := by decide +kernel
theorem dX12_exchange_15 : decode cX12_exchange 15 = .ok (.invokestatic 128, 3) := by decide +kernel
theorem dX12_exchange_18 : decode cX12_exchange 18 = .ok (.ifCond .ne 6, 3) := by decide +kernel
theorem dX12_exchange_21 : decode cX12_exchange 21 = .ok (.bipush (-2), 2) := by decide +kernel
theorem dX12_exchange_23 : decode cX12_exchange 23 = .ok (.ireturn, 1) := by decide +kernel
theorem dX12_exchange_24 : decode cX12_exchange 24 = .ok (.aload_n 0, 1) := by decide +kernel
theorem dX12_exchange_25 : decode cX12_exchange 25 = .ok (.iload_n 1, 1) := by decide +kernel
theorem dX12_exchange_26 : decode cX12_exchange 26 = .ok (.invokevirtual 338, 3) := by decide +kernel
theorem dX12_exchange_29 : decode cX12_exchange 29 = .ok (.istore 4, 2) := by decide +kernel
theorem dX12_exchange_31 : decode cX12_exchange 31 = .ok (.aload_n 0, 1) := by decide +kernel
theorem dX12_exchange_32 : decode cX12_exchange 32 = .ok (.iload_n 2, 1) := by decide +kernel
theorem dX12_exchange_33 : decode cX12_exchange 33 = .ok (.invokevirtual 338, 3) := by decide +kernel
theorem dX12_exchange_36 : decode cX12_exchange 36 = .ok (.istore 5, 2) := by decide +kernel
theorem dX12_exchange_38 : decode cX12_exchange 38 = .ok (.aload_n 0, 1) := by decide +kernel
theorem dX12_exchange_39 : decode cX12_exchange 39 = .ok (.iload_n 1, 1) := by decide +kernel
theorem dX12_exchange_40 : decode cX12_exchange 40 = .ok (.iload 4, 2) := by decide +kernel
theorem dX12_exchange_42 : decode cX12_exchange 42 = .ok (.invokevirtual 428, 3) := by decide +kernel
theorem dX12_exchange_45 : decode cX12_exchange 45 = .ok (.aload_n 0, 1) := by decide +kernel
theorem dX12_exchange_46 : decode cX12_exchange 46 = .ok (.iload_n 2, 1) := by decide +kernel
theorem dX12_exchange_47 : decode cX12_exchange 47 = .ok (.iload 5, 2) := by decide +kernel
theorem dX12_exchange_49 : decode cX12_exchange 49 = .ok (.invokevirtual 428, 3) := by decide +kernel
theorem dX12_exchange_52 : decode cX12_exchange 52 = .ok (.iadd, 1) := by decide +kernel
theorem dX12_exchange_53 : decode cX12_exchange 53 = .ok (.istore 6, 2) := by decide +kernel
theorem dX12_exchange_55 : decode cX12_exchange 55 = .ok (.iconst (-1), 1) := by decide +kernel
theorem dX12_exchange_56 : decode cX12_exchange 56 = .ok (.istore 7, 2) := by decide +kernel
theorem dX12_exchange_58 : decode cX12_exchange 58 = .ok (.iconst (-1), 1) := by decide +kernel
theorem dX12_exchange_59 : decode cX12_exchange 59 = .ok (.istore 8, 2) := by decide +kernel
theorem dX12_exchange_61 : decode cX12_exchange 61 = .ok (.iconst 0, 1) := by decide +kernel
theorem dX12_exchange_62 : decode cX12_exchange 62 = .ok (.istore 9, 2) := by decide +kernel
theorem dX12_exchange_64 : decode cX12_exchange 64 = .ok (.iload 9, 2) := by decide +kernel
theorem dX12_exchange_66 : decode cX12_exchange 66 = .ok (.aload_n 0, 1) := by decide +kernel
theorem dX12_exchange_67 : decode cX12_exchange 67 = .ok (.getfield 9, 3) := by decide +kernel
theorem dX12_exchange_70 : decode cX12_exchange 70 = .ok (.iconst 4, 1) := by decide +kernel
theorem dX12_exchange_71 : decode cX12_exchange 71 = .ok (.iaload, 1) := by decide +kernel
theorem dX12_exchange_72 : decode cX12_exchange 72 = .ok (.if_icmp .ge 102, 3) := by decide +kernel
theorem dX12_exchange_75 : decode cX12_exchange 75 = .ok (.iconst 0, 1) := by decide +kernel
theorem dX12_exchange_76 : decode cX12_exchange 76 = .ok (.istore 10, 2) := by decide +kernel
theorem dX12_exchange_78 : decode cX12_exchange 78 = .ok (.iload 10, 2) := by decide +kernel
theorem dX12_exchange_80 : decode cX12_exchange 80 = .ok (.aload_n 0, 1) := by decide +kernel
theorem dX12_exchange_81 : decode cX12_exchange 81 = .ok (.getfield 9, 3) := by decide +kernel
theorem dX12_exchange_84 : decode cX12_exchange 84 = .ok (.iconst 4, 1) := by decide +kernel
theorem dX12_exchange_85 : decode cX12_exchange 85 = .ok (.iaload, 1) := by decide +kernel
theorem dX12_exchange_86 : decode cX12_exchange 86 = .ok (.if_icmp .ge 82, 3) := by decide +kernel
theorem dX12_exchange_89 : decode cX12_exchange 89 = .ok (.iload 4, 2) := by decide +kernel
theorem dX12_exchange_91 : decode cX12_exchange 91 = .ok (.iload 9, 2) := by decide +kernel
theorem dX12_exchange_93 : decode cX12_exchange 93 = .ok (.invokestatic 332, 3) := by decide +kernel
theorem dX12_exchange_96 : decode cX12_exchange 96 = .ok (.ifCond .eq 66, 3) := by decide +kernel
theorem dX12_exchange_99 : decode cX12_exchange 99 = .ok (.iload 5, 2) := by decide +kernel
theorem dX12_exchange_101 : decode cX12_exchange 101 = .ok (.iload 10, 2) := by decide +kernel
theorem dX12_exchange_103 : decode cX12_exchange 103 = .ok (.invokestatic 332, 3) := by decide +kernel
theorem dX12_exchange_106 : decode cX12_exchange 106 = .ok (.ifCond .eq 56, 3) := by decide +kernel
theorem dX12_exchange_109 : decode cX12_exchange 109 = .ok (.iconst 1, 1) := by decide +kernel
theorem dX12_exchange_110 : decode cX12_exchange 110 = .ok (.iload 9, 2) := by decide +kernel
theorem dX12_exchange_112 : decode cX12_exchange 112 = .ok (.ishl, 1) := by decide +kernel
theorem dX12_exchange_113 : decode cX12_exchange 113 = .ok (.iconst 1, 1) := by decide +kernel
theorem dX12_exchange_114 : decode cX12_exchange 114 = .ok (.iload 10, 2) := by decide +kernel
theorem dX12_exchange_116 : decode cX12_exchange 116 = .ok (.ishl, 1) := by decide +kernel
theorem dX12_exchange_117 : decode cX12_exchange 117 = .ok (.ior, 1) := by decide +kernel
theorem dX12_exchange_118 : decode cX12_exchange 118 = .ok (.istore 11, 2) := by decide +kernel
theorem dX12_exchange_120 : decode cX12_exchange 120 = .ok (.aload_n 0, 1) := by decide +kernel
theorem dX12_exchange_121 : decode cX12_exchange 121 = .ok (.iload_n 1, 1) := by decide +kernel
theorem dX12_exchange_122 : decode cX12_exchange 122 = .ok (.iload 4, 2) := by decide +kernel
theorem dX12_exchange_124 : decode cX12_exchange 124 = .ok (.iload 11, 2) := by decide +kernel
theorem dX12_exchange_126 : decode cX12_exchange 126 = .ok (.ixor, 1) := by decide +kernel
theorem dX12_exchange_127 : decode cX12_exchange 127 = .ok (.invokevirtual 428, 3) := by decide +kernel
theorem dX12_exchange_130 : decode cX12_exchange 130 = .ok (.aload_n 0, 1) := by decide +kernel
theorem dX12_exchange_131 : decode cX12_exchange 131 = .ok (.iload_n 2, 1) := by decide +kernel
theorem dX12_exchange_132 : decode cX12_exchange 132 = .ok (.iload 5, 2) := by decide +kernel
theorem dX12_exchange_134 : decode cX12_exchange 134 = .ok (.iload 11, 2) := by decide +kernel
theorem dX12_exchange_136 : decode cX12_exchange 136 = .ok (.ixor, 1) := by decide +kernel
theorem dX12_exchange_137 : decode cX12_exchange 137 = .ok (.invokevirtual 428, 3) := by decide +kernel
theorem dX12_exchange_140 : decode cX12_exchange 140 = .ok (.iadd, 1) := by decide +kernel
theorem dX12_exchange_141 : decode cX12_exchange 141 = .ok (.istore 12, 2) := by decide +kernel
theorem dX12_exchange_143 : decode cX12_exchange 143 = .ok (.iload 12, 2) := by decide +kernel
theorem dX12_exchange_145 : decode cX12_exchange 145 = .ok (.iload 6, 2) := by decide +kernel
theorem dX12_exchange_147 : decode cX12_exchange 147 = .ok (.if_icmp .ge 15, 3) := by decide +kernel
theorem dX12_exchange_150 : decode cX12_exchange 150 = .ok (.iload 12, 2) := by decide +kernel
theorem dX12_exchange_152 : decode cX12_exchange 152 = .ok (.istore 6, 2) := by decide +kernel
theorem dX12_exchange_154 : decode cX12_exchange 154 = .ok (.iload 9, 2) := by decide +kernel
theorem dX12_exchange_156 : decode cX12_exchange 156 = .ok (.istore 7, 2) := by decide +kernel
theorem dX12_exchange_158 : decode cX12_exchange 158 = .ok (.iload 10, 2) := by decide +kernel
theorem dX12_exchange_160 : decode cX12_exchange 160 = .ok (.istore 8, 2) := by decide +kernel
theorem dX12_exchange_162 : decode cX12_exchange 162 = .ok (.iinc 10 1, 3) := by decide +kernel
theorem dX12_exchange_165 : decode cX12_exchange 165 = .ok (.goto (-87), 3) := by decide +kernel
theorem dX12_exchange_168 : decode cX12_exchange 168 = .ok (.iinc 9 1, 3) := by decide +kernel
theorem dX12_exchange_171 : decode cX12_exchange 171 = .ok (.goto (-107), 3) := by decide +kernel
theorem dX12_exchange_174 : decode cX12_exchange 174 = .ok (.iload_n 3, 1) := by decide +kernel
theorem dX12_exchange_175 : decode cX12_exchange 175 = .ok (.ifCond .ne 8, 3) := by decide +kernel
theorem dX12_exchange_178 : decode cX12_exchange 178 = .ok (.iload 6, 2) := by decide +kernel
theorem dX12_exchange_180 : decode cX12_exchange 180 = .ok (.goto 15, 3) := by decide +kernel
theorem dX12_exchange_183 : decode cX12_exchange 183 = .ok (.iload_n 3, 1) := by decide +kernel
theorem dX12_exchange_184 : decode cX12_exchange 184 = .ok (.iconst 1, 1) := by decide +kernel
theorem dX12_exchange_185 : decode cX12_exchange 185 = .ok (.if_icmp .ne 8, 3) := by decide +kernel
theorem dX12_exchange_188 : decode cX12_exchange 188 = .ok (.iload 7, 2) := by decide +kernel
theorem dX12_exchange_190 : decode cX12_exchange 190 = .ok (.goto 5, 3) := by decide +kernel
theorem dX12_exchange_193 : decode cX12_exchange 193 = .ok (.iload 8, 2) := by decide +kernel
theorem dX12_exchange_195 : decode cX12_exchange 195 = .ok (.ireturn, 1) := by decide +kernel
theorem dX12_robbed_0 : decode cX12_robbed 0 = .ok (.aload_n 0, 1) := by decide +kernel
theorem dX12_robbed_1 : decode cX12_robbed 1 = .ok (.invokevirtual 389, 3) := by decide +kernel
theorem dX12_robbed_4 : decode cX12_robbed 4 = .ok (.ifCond .eq 25, 3) := by decide +kernel
theorem dX12_robbed_7 : decode cX12_robbed 7 = .ok (.iload_n 1, 1) := by decide +kernel
theorem dX12_robbed_8 : decode cX12_robbed 8 = .ok (.i2l, 1) := by decide +kernel
theorem dX12_robbed_9 : decode cX12_robbed 9 = .ok (.lconst 1, 1) := by decide +kernel
theorem dX12_robbed_10 : decode cX12_robbed 10 = .ok (.ldc2_w 431, 3) := by decide +kernel
theorem dX12_robbed_13 : decode cX12_robbed 13 = .ok (.invokestatic 128, 3) := by decide +kernel
theorem dX12_robbed_16 : decode cX12_robbed 16 = .ok (.ifCond .eq 13, 3) := by decide +kernel
theorem dX12_robbed_19 : decode cX12_robbed 19 = .ok (.iload_n 2, 1) := by decide +kernel
theorem dX12_robbed_20 : decode cX12_robbed 20 = .ok (.i2l, 1) := by decide +kernel
theorem dX12_robbed_21 : decode cX12_robbed 21 = .ok (.lconst 0, 1) := by decide +kernel
theorem dX12_robbed_22 : decode cX12_robbed 22 = .ok (.lconst 1, 1) := by decide +kernel
theorem dX12_robbed_23 : decode cX12_robbed 23 = .ok (.invokestatic 128, 3) := by decide +kernel
theorem dX12_robbed_26 : decode cX12_robbed 26 = .ok (.ifCond .ne 6, 3) := by decide +kernel
theorem dX12_robbed_29 : decode cX12_robbed 29 = .ok (.bipush (-2), 2) := by decide +kernel
theorem dX12_robbed_31 : decode cX12_robbed 31 = .ok (.ireturn, 1) := by decide +kernel
theorem dX12_robbed_32 : decode cX12_robbed 32 = .ok (.aload_n 0, 1) := by decide +kernel
theorem dX12_robbed_33 : decode cX12_robbed 33 = .ok (.invokevirtual 409, 3) := by decide +kernel
theorem dX12_robbed_36 : decode cX12_robbed 36 = .ok (.aload_n 0, 1) := by decide +kernel
theorem dX12_robbed_37 : decode cX12_robbed 37 = .ok (.iload_n 1, 1) := by decide +kernel
theorem dX12_robbed_38 : decode cX12_robbed 38 = .ok (.invokevirtual 421, 3) := by decide +kernel
theorem dX12_robbed_41 : decode cX12_robbed 41 = .ok (.istore_n 3, 1) := by decide +kernel
theorem dX12_robbed_42 : decode cX12_robbed 42 = .ok (.iconst (-1), 1) := by decide +kernel
theorem dX12_robbed_43 : decode cX12_robbed 43 = .ok (.istore 4, 2) := by decide +kernel
theorem dX12_robbed_45 : decode cX12_robbed 45 = .ok (.iconst 0, 1) := by decide +kernel
theorem dX12_robbed_46 : decode cX12_robbed 46 = .ok (.istore 5, 2) := by decide +kernel
theorem dX12_robbed_48 : decode cX12_robbed 48 = .ok (.iload 5, 2) := by decide +kernel
theorem dX12_robbed_50 : decode cX12_robbed 50 = .ok (.aload_n 0, 1) := by decide +kernel
theorem dX12_robbed_51 : decode cX12_robbed 51 = .ok (.getfield 9, 3) := by decide +kernel
theorem dX12_robbed_54 : decode cX12_robbed 54 = .ok (.iconst 4, 1) := by decide +kernel
theorem dX12_robbed_55 : decode cX12_robbed 55 = .ok (.iaload, 1) := by decide +kernel
theorem dX12_robbed_56 : decode cX12_robbed 56 = .ok (.if_icmp .ge 48, 3) := by decide +kernel
theorem dX12_robbed_59 : decode cX12_robbed 59 = .ok (.aload_n 0, 1) := by decide +kernel
theorem dX12_robbed_60 : decode cX12_robbed 60 = .ok (.getfield 19, 3) := by decide +kernel
theorem dX12_robbed_63 : decode cX12_robbed 63 = .ok (.iload 5, 2) := by decide +kernel
theorem dX12_robbed_65 : decode cX12_robbed 65 = .ok (.iaload, 1) := by decide +kernel
theorem dX12_robbed_66 : decode cX12_robbed 66 = .ok (.iconst (-1), 1) := by decide +kernel
theorem dX12_robbed_67 : decode cX12_robbed 67 = .ok (.if_icmp .eq 31, 3) := by decide +kernel
theorem dX12_robbed_70 : decode cX12_robbed 70 = .ok (.aload_n 0, 1) := by decide +kernel
theorem dX12_robbed_71 : decode cX12_robbed 71 = .ok (.getfield 19, 3) := by decide +kernel
theorem dX12_robbed_74 : decode cX12_robbed 74 = .ok (.iload 5, 2) := by decide +kernel
theorem dX12_robbed_76 : decode cX12_robbed 76 = .ok (.iconst (-1), 1) := by decide +kernel
theorem dX12_robbed_77 : decode cX12_robbed 77 = .ok (.iastore, 1) := by decide +kernel
theorem dX12_robbed_78 : decode cX12_robbed 78 = .ok (.aload_n 0, 1) := by decide +kernel
theorem dX12_robbed_79 : decode cX12_robbed 79 = .ok (.iload_n 1, 1) := by decide +kernel
theorem dX12_robbed_80 : decode cX12_robbed 80 = .ok (.invokevirtual 421, 3) := by decide +kernel
theorem dX12_robbed_83 : decode cX12_robbed 83 = .ok (.istore 6, 2) := by decide +kernel
theorem dX12_robbed_85 : decode cX12_robbed 85 = .ok (.iload 6, 2) := by decide +kernel
theorem dX12_robbed_87 : decode cX12_robbed 87 = .ok (.iload_n 3, 1) := by decide +kernel
theorem dX12_robbed_88 : decode cX12_robbed 88 = .ok (.if_icmp .le 10, 3) := by decide +kernel
theorem dX12_robbed_91 : decode cX12_robbed 91 = .ok (.iload 6, 2) := by decide +kernel
theorem dX12_robbed_93 : decode cX12_robbed 93 = .ok (.istore_n 3, 1) := by decide +kernel
theorem dX12_robbed_94 : decode cX12_robbed 94 = .ok (.iload 5, 2) := by decide +kernel
theorem dX12_robbed_96 : decode cX12_robbed 96 = .ok (.istore 4, 2) := by decide +kernel
theorem dX12_robbed_98 : decode cX12_robbed 98 = .ok (.iinc 5 1, 3) := by decide +kernel
theorem dX12_robbed_101 : decode cX12_robbed 101 = .ok (.goto (-53), 3) := by decide +kernel
theorem dX12_robbed_104 : decode cX12_robbed 104 = .ok (.iload_n 2, 1) := by decide +kernel
theorem dX12_robbed_105 : decode cX12_robbed 105 = .ok (.ifCond .ne 8, 3) := by decide +kernel
theorem dX12_robbed_108 : decode cX12_robbed 108 = .ok (.iload 4, 2) := by decide +kernel
theorem dX12_robbed_110 : decode cX12_robbed 110 = .ok (.goto 4, 3) := by decide +kernel
theorem dX12_robbed_113 : decode cX12_robbed 113 = .ok (.iload_n 3, 1) := by decide +kernel
theorem dX12_robbed_114 : decode cX12_robbed 114 = .ok (.ireturn, 1) := by decide +kernel
theorem dX12_takenBy_0 : decode cX12_takenBy 0 = .ok (.aload_n 0, 1) := by decide +kernel
theorem dX12_takenBy_1 : decode cX12_takenBy 1 = .ok (.iload_n 2, 1) := by decide +kernel
theorem dX12_takenBy_2 : decode cX12_takenBy 2 = .ok (.iconst 1, 1) := by decide +kernel
theorem dX12_takenBy_3 : decode cX12_takenBy 3 = .ok (.if_icmp .ne 10, 3) := by decide +kernel
theorem dX12_takenBy_6 : decode cX12_takenBy 6 = .ok (.aload_n 0, 1) := by decide +kernel
theorem dX12_takenBy_7 : decode cX12_takenBy 7 = .ok (.getfield 433, 3) := by decide +kernel
theorem dX12_takenBy_10 : decode cX12_takenBy 10 = .ok (.goto 7, 3) := by decide +kernel
theorem dX12_takenBy_13 : decode cX12_takenBy 13 = .ok (.aload_n 0, 1) := by decide +kernel
theorem dX12_takenBy_14 : decode cX12_takenBy 14 = .ok (.getfield 436, 3) := by decide +kernel
theorem dX12_takenBy_17 : decode cX12_takenBy 17 = .ok (.invokevirtual 338, 3) := by decide +kernel
theorem dX12_takenBy_20 : decode cX12_takenBy 20 = .ok (.istore_n 3, 1) := by decide +kernel
theorem dX12_takenBy_21 : decode cX12_takenBy 21 = .ok (.iconst 0, 1) := by decide +kernel
theorem dX12_takenBy_22 : decode cX12_takenBy 22 = .ok (.istore 4, 2) := by decide +kernel
theorem dX12_takenBy_24 : decode cX12_takenBy 24 = .ok (.iload 4, 2) := by decide +kernel
theorem dX12_takenBy_26 : decode cX12_takenBy 26 = .ok (.aload_n 0, 1) := by decide +kernel
theorem dX12_takenBy_27 : decode cX12_takenBy 27 = .ok (.getfield 9, 3) := by decide +kernel
theorem dX12_takenBy_30 : decode cX12_takenBy 30 = .ok (.iconst 4, 1) := by decide +kernel
theorem dX12_takenBy_31 : decode cX12_takenBy 31 = .ok (.iaload, 1) := by decide +kernel
theorem dX12_takenBy_32 : decode cX12_takenBy 32 = .ok (.if_icmp .ge 35, 3) := by decide +kernel
theorem dX12_takenBy_35 : decode cX12_takenBy 35 = .ok (.iload_n 3, 1) := by decide +kernel
theorem dX12_takenBy_36 : decode cX12_takenBy 36 = .ok (.iload_n 1, 1) := by decide +kernel
theorem dX12_takenBy_37 : decode cX12_takenBy 37 = .ok (.aload_n 0, 1) := by decide +kernel
theorem dX12_takenBy_38 : decode cX12_takenBy 38 = .ok (.getfield 109, 3) := by decide +kernel
theorem dX12_takenBy_41 : decode cX12_takenBy 41 = .ok (.iload 4, 2) := by decide +kernel
theorem dX12_takenBy_43 : decode cX12_takenBy 43 = .ok (.iaload, 1) := by decide +kernel
theorem dX12_takenBy_44 : decode cX12_takenBy 44 = .ok (.idiv, 1) := by decide +kernel
theorem dX12_takenBy_45 : decode cX12_takenBy 45 = .ok (.iconst 3, 1) := by decide +kernel
theorem dX12_takenBy_46 : decode cX12_takenBy 46 = .ok (.irem, 1) := by decide +kernel
theorem dX12_takenBy_47 : decode cX12_takenBy 47 = .ok (.iload_n 2, 1) := by decide +kernel
theorem dX12_takenBy_48 : decode cX12_takenBy 48 = .ok (.if_icmp .ne 10, 3) := by decide +kernel
theorem dX12_takenBy_51 : decode cX12_takenBy 51 = .ok (.iconst 1, 1) := by decide +kernel
theorem dX12_takenBy_52 : decode cX12_takenBy 52 = .ok (.iload 4, 2) := by decide +kernel
theorem dX12_takenBy_54 : decode cX12_takenBy 54 = .ok (.ishl, 1) := by decide +kernel
theorem dX12_takenBy_55 : decode cX12_takenBy 55 = .ok (.goto 4, 3) := by decide +kernel
theorem dX12_takenBy_58 : decode cX12_takenBy 58 = .ok (.iconst 0, 1) := by decide +kernel
theorem dX12_takenBy_59 : decode cX12_takenBy 59 = .ok (.ior, 1) := by decide +kernel
theorem dX12_takenBy_60 : decode cX12_takenBy 60 = .ok (.istore_n 3, 1) := by decide +kernel
theorem dX12_takenBy_61 : decode cX12_takenBy 61 = .ok (.iinc 4 1, 3) := by decide +kernel
theorem dX12_takenBy_64 : decode cX12_takenBy 64 = .ok (.goto (-40), 3) := by decide +kernel
theorem dX12_takenBy_67 : decode cX12_takenBy 67 = .ok (.iload_n 3, 1) := by decide +kernel
theorem dX12_takenBy_68 : decode cX12_takenBy 68 = .ok (.ireturn, 1) := by decide +kernel
theorem dX12_worthIn_0 : decode cX12_worthIn 0 = .ok (.aload_n 0, 1) := by decide +kernel
theorem dX12_worthIn_1 : decode cX12_worthIn 1 = .ok (.iload_n 1, 1) := by decide +kernel
theorem dX12_worthIn_2 : decode cX12_worthIn 2 = .ok (.iload_n 2, 1) := by decide +kernel
theorem dX12_worthIn_3 : decode cX12_worthIn 3 = .ok (.invokevirtual 439, 3) := by decide +kernel
theorem dX12_worthIn_6 : decode cX12_worthIn 6 = .ok (.istore_n 3, 1) := by decide +kernel
theorem dX12_worthIn_7 : decode cX12_worthIn 7 = .ok (.aload_n 0, 1) := by decide +kernel
theorem dX12_worthIn_8 : decode cX12_worthIn 8 = .ok (.iload_n 3, 1) := by decide +kernel
theorem dX12_worthIn_9 : decode cX12_worthIn 9 = .ok (.invokevirtual 344, 3) := by decide +kernel
theorem dX12_worthIn_12 : decode cX12_worthIn 12 = .ok (.aload_n 0, 1) := by decide +kernel
theorem dX12_worthIn_13 : decode cX12_worthIn 13 = .ok (.iload_n 2, 1) := by decide +kernel
theorem dX12_worthIn_14 : decode cX12_worthIn 14 = .ok (.iconst 1, 1) := by decide +kernel
theorem dX12_worthIn_15 : decode cX12_worthIn 15 = .ok (.if_icmp .ne 10, 3) := by decide +kernel
theorem dX12_worthIn_18 : decode cX12_worthIn 18 = .ok (.aload_n 0, 1) := by decide +kernel
theorem dX12_worthIn_19 : decode cX12_worthIn 19 = .ok (.getfield 433, 3) := by decide +kernel
theorem dX12_worthIn_22 : decode cX12_worthIn 22 = .ok (.goto 7, 3) := by decide +kernel
theorem dX12_worthIn_25 : decode cX12_worthIn 25 = .ok (.aload_n 0, 1) := by decide +kernel
theorem dX12_worthIn_26 : decode cX12_worthIn 26 = .ok (.getfield 436, 3) := by decide +kernel
theorem dX12_worthIn_29 : decode cX12_worthIn 29 = .ok (.iload_n 3, 1) := by decide +kernel
theorem dX12_worthIn_30 : decode cX12_worthIn 30 = .ok (.invokevirtual 428, 3) := by decide +kernel
theorem dX12_worthIn_33 : decode cX12_worthIn 33 = .ok (.isub, 1) := by decide +kernel
theorem dX12_worthIn_34 : decode cX12_worthIn 34 = .ok (.ireturn, 1) := by decide +kernel
theorem dX12_howManyTaken_0 : decode cX12_howManyTaken 0 = .ok (.iconst 0, 1) := by decide +kernel
theorem dX12_howManyTaken_1 : decode cX12_howManyTaken 1 = .ok (.istore_n 2, 1) := by decide +kernel
theorem dX12_howManyTaken_2 : decode cX12_howManyTaken 2 = .ok (.iconst 0, 1) := by decide +kernel
theorem dX12_howManyTaken_3 : decode cX12_howManyTaken 3 = .ok (.istore_n 3, 1) := by decide +kernel
theorem dX12_howManyTaken_4 : decode cX12_howManyTaken 4 = .ok (.iload_n 3, 1) := by decide +kernel
theorem dX12_howManyTaken_5 : decode cX12_howManyTaken 5 = .ok (.bipush 6, 2) := by decide +kernel
theorem dX12_howManyTaken_7 : decode cX12_howManyTaken 7 = .ok (.if_icmp .ge 30, 3) := by decide +kernel
theorem dX12_howManyTaken_10 : decode cX12_howManyTaken 10 = .ok (.iload_n 2, 1) := by decide +kernel
theorem dX12_howManyTaken_11 : decode cX12_howManyTaken 11 = .ok (.iload_n 1, 1) := by decide +kernel
theorem dX12_howManyTaken_12 : decode cX12_howManyTaken 12 = .ok (.aload_n 0, 1) := by decide +kernel
theorem dX12_howManyTaken_13 : decode cX12_howManyTaken 13 = .ok (.getfield 109, 3) := by decide +kernel
theorem dX12_howManyTaken_16 : decode cX12_howManyTaken 16 = .ok (.iload_n 3, 1) := by decide +kernel
theorem dX12_howManyTaken_17 : decode cX12_howManyTaken 17 = .ok (.iaload, 1) := by decide +kernel
theorem dX12_howManyTaken_18 : decode cX12_howManyTaken 18 = .ok (.idiv, 1) := by decide +kernel
theorem dX12_howManyTaken_19 : decode cX12_howManyTaken 19 = .ok (.iconst 3, 1) := by decide +kernel
theorem dX12_howManyTaken_20 : decode cX12_howManyTaken 20 = .ok (.irem, 1) := by decide +kernel
theorem dX12_howManyTaken_21 : decode cX12_howManyTaken 21 = .ok (.ifCond .le 7, 3) := by decide +kernel
theorem dX12_howManyTaken_24 : decode cX12_howManyTaken 24 = .ok (.iconst 1, 1) := by decide +kernel
theorem dX12_howManyTaken_25 : decode cX12_howManyTaken 25 = .ok (.goto 4, 3) := by decide +kernel
theorem dX12_howManyTaken_28 : decode cX12_howManyTaken 28 = .ok (.iconst 0, 1) := by decide +kernel
theorem dX12_howManyTaken_29 : decode cX12_howManyTaken 29 = .ok (.iadd, 1) := by decide +kernel
theorem dX12_howManyTaken_30 : decode cX12_howManyTaken 30 = .ok (.istore_n 2, 1) := by decide +kernel
theorem dX12_howManyTaken_31 : decode cX12_howManyTaken 31 = .ok (.iinc 3 1, 3) := by decide +kernel
theorem dX12_howManyTaken_34 : decode cX12_howManyTaken 34 = .ok (.goto (-30), 3) := by decide +kernel
theorem dX12_howManyTaken_37 : decode cX12_howManyTaken 37 = .ok (.iload_n 2, 1) := by decide +kernel
theorem dX12_howManyTaken_38 : decode cX12_howManyTaken 38 = .ok (.ireturn, 1) := by decide +kernel
theorem dX12_bestIn_0 : decode cX12_bestIn 0 = .ok (.iload_n 3, 1) := by decide +kernel
theorem dX12_bestIn_1 : decode cX12_bestIn 1 = .ok (.iconst 1, 1) := by decide +kernel
theorem dX12_bestIn_2 : decode cX12_bestIn 2 = .ok (.if_icmp .ne 19, 3) := by decide +kernel
theorem dX12_bestIn_5 : decode cX12_bestIn 5 = .ok (.aload_n 0, 1) := by decide +kernel
theorem dX12_bestIn_6 : decode cX12_bestIn 6 = .ok (.iload_n 1, 1) := by decide +kernel
theorem dX12_bestIn_7 : decode cX12_bestIn 7 = .ok (.iconst 1, 1) := by decide +kernel
theorem dX12_bestIn_8 : decode cX12_bestIn 8 = .ok (.invokevirtual 442, 3) := by decide +kernel
theorem dX12_bestIn_11 : decode cX12_bestIn 11 = .ok (.aload_n 0, 1) := by decide +kernel
theorem dX12_bestIn_12 : decode cX12_bestIn 12 = .ok (.iload_n 1, 1) := by decide +kernel
theorem dX12_bestIn_13 : decode cX12_bestIn 13 = .ok (.iconst 2, 1) := by decide +kernel
theorem dX12_bestIn_14 : decode cX12_bestIn 14 = .ok (.invokevirtual 442, 3) := by decide +kernel
theorem dX12_bestIn_17 : decode cX12_bestIn 17 = .ok (.isub, 1) := by decide +kernel
theorem dX12_bestIn_18 : decode cX12_bestIn 18 = .ok (.goto 19, 3) := by decide +kernel
theorem dX12_bestIn_21 : decode cX12_bestIn 21 = .ok (.aload_n 0, 1) := by decide +kernel
theorem dX12_bestIn_22 : decode cX12_bestIn 22 = .ok (.getfield 106, 3) := by decide +kernel
theorem dX12_bestIn_25 : decode cX12_bestIn 25 = .ok (.iconst 4, 1) := by decide +kernel
theorem dX12_bestIn_26 : decode cX12_bestIn 26 = .ok (.iload_n 1, 1) := by decide +kernel
theorem dX12_bestIn_27 : decode cX12_bestIn 27 = .ok (.imul, 1) := by decide +kernel
theorem dX12_bestIn_28 : decode cX12_bestIn 28 = .ok (.iconst 2, 1) := by decide +kernel
theorem dX12_bestIn_29 : decode cX12_bestIn 29 = .ok (.iconst 2, 1) := by decide +kernel
theorem dX12_bestIn_30 : decode cX12_bestIn 30 = .ok (.iload_n 2, 1) := by decide +kernel
theorem dX12_bestIn_31 : decode cX12_bestIn 31 = .ok (.isub, 1) := by decide +kernel
theorem dX12_bestIn_32 : decode cX12_bestIn 32 = .ok (.imul, 1) := by decide +kernel
theorem dX12_bestIn_33 : decode cX12_bestIn 33 = .ok (.iadd, 1) := by decide +kernel
theorem dX12_bestIn_34 : decode cX12_bestIn 34 = .ok (.iconst 1, 1) := by decide +kernel
theorem dX12_bestIn_35 : decode cX12_bestIn 35 = .ok (.iadd, 1) := by decide +kernel
theorem dX12_bestIn_36 : decode cX12_bestIn 36 = .ok (.iaload, 1) := by decide +kernel
theorem dX12_bestIn_37 : decode cX12_bestIn 37 = .ok (.istore 4, 2) := by decide +kernel
theorem dX12_bestIn_39 : decode cX12_bestIn 39 = .ok (.aload_n 0, 1) := by decide +kernel
theorem dX12_bestIn_40 : decode cX12_bestIn 40 = .ok (.iload_n 1, 1) := by decide +kernel
theorem dX12_bestIn_41 : decode cX12_bestIn 41 = .ok (.iload_n 2, 1) := by decide +kernel
theorem dX12_bestIn_42 : decode cX12_bestIn 42 = .ok (.invokevirtual 439, 3) := by decide +kernel
theorem dX12_bestIn_45 : decode cX12_bestIn 45 = .ok (.invokestatic 355, 3) := by decide +kernel
theorem dX12_bestIn_48 : decode cX12_bestIn 48 = .ok (.aload_n 0, 1) := by decide +kernel
theorem dX12_bestIn_49 : decode cX12_bestIn 49 = .ok (.getfield 9, 3) := by decide +kernel
theorem dX12_bestIn_52 : decode cX12_bestIn 52 = .ok (.iconst 1, 1) := by decide +kernel
theorem dX12_bestIn_53 : decode cX12_bestIn 53 = .ok (.iaload, 1) := by decide +kernel
theorem dX12_bestIn_54 : decode cX12_bestIn 54 = .ok (.if_icmp .ge 7, 3) := by decide +kernel
theorem dX12_bestIn_57 : decode cX12_bestIn 57 = .ok (.iconst 1, 1) := by decide +kernel
theorem dX12_bestIn_58 : decode cX12_bestIn 58 = .ok (.goto 4, 3) := by decide +kernel
theorem dX12_bestIn_61 : decode cX12_bestIn 61 = .ok (.iconst 0, 1) := by decide +kernel
theorem dX12_bestIn_62 : decode cX12_bestIn 62 = .ok (.istore 5, 2) := by decide +kernel
theorem dX12_bestIn_64 : decode cX12_bestIn 64 = .ok (.aload_n 0, 1) := by decide +kernel
theorem dX12_bestIn_65 : decode cX12_bestIn 65 = .ok (.iconst (-1), 1) := by decide +kernel
theorem dX12_bestIn_66 : decode cX12_bestIn 66 = .ok (.putfield 445, 3) := by decide +kernel
theorem dX12_bestIn_69 : decode cX12_bestIn 69 = .ok (.iconst 0, 1) := by decide +kernel
theorem dX12_bestIn_70 : decode cX12_bestIn 70 = .ok (.istore 6, 2) := by decide +kernel
theorem dX12_bestIn_72 : decode cX12_bestIn 72 = .ok (.iload 6, 2) := by decide +kernel
theorem dX12_bestIn_74 : decode cX12_bestIn 74 = .ok (.aload_n 0, 1) := by decide +kernel
theorem dX12_bestIn_75 : decode cX12_bestIn 75 = .ok (.getfield 9, 3) := by decide +kernel
theorem dX12_bestIn_78 : decode cX12_bestIn 78 = .ok (.iconst 4, 1) := by decide +kernel
theorem dX12_bestIn_79 : decode cX12_bestIn 79 = .ok (.iaload, 1) := by decide +kernel
theorem dX12_bestIn_80 : decode cX12_bestIn 80 = .ok (.if_icmp .ge 98, 3) := by decide +kernel
theorem dX12_bestIn_83 : decode cX12_bestIn 83 = .ok (.iload 5, 2) := by decide +kernel
theorem dX12_bestIn_85 : decode cX12_bestIn 85 = .ok (.ifCond .eq 93, 3) := by decide +kernel
theorem dX12_bestIn_88 : decode cX12_bestIn 88 = .ok (.aload_n 0, 1) := by decide +kernel
theorem dX12_bestIn_89 : decode cX12_bestIn 89 = .ok (.getfield 448, 3) := by decide +kernel
theorem dX12_bestIn_92 : decode cX12_bestIn 92 = .ok (.iload 6, 2) := by decide +kernel
theorem dX12_bestIn_94 : decode cX12_bestIn 94 = .ok (.invokestatic 332, 3) := by decide +kernel
theorem dX12_bestIn_97 : decode cX12_bestIn 97 = .ok (.ifCond .eq 75, 3) := by decide +kernel
theorem dX12_bestIn_100 : decode cX12_bestIn 100 = .ok (.iload_n 1, 1) := by decide +kernel
theorem dX12_bestIn_101 : decode cX12_bestIn 101 = .ok (.aload_n 0, 1) := by decide +kernel
theorem dX12_bestIn_102 : decode cX12_bestIn 102 = .ok (.getfield 109, 3) := by decide +kernel
theorem dX12_bestIn_105 : decode cX12_bestIn 105 = .ok (.iload 6, 2) := by decide +kernel
theorem dX12_bestIn_107 : decode cX12_bestIn 107 = .ok (.iaload, 1) := by decide +kernel
theorem dX12_bestIn_108 : decode cX12_bestIn 108 = .ok (.idiv, 1) := by decide +kernel
theorem dX12_bestIn_109 : decode cX12_bestIn 109 = .ok (.iconst 3, 1) := by decide +kernel
theorem dX12_bestIn_110 : decode cX12_bestIn 110 = .ok (.irem, 1) := by decide +kernel
theorem dX12_bestIn_111 : decode cX12_bestIn 111 = .ok (.ifCond .ne 61, 3) := by decide +kernel
theorem dX12_bestIn_114 : decode cX12_bestIn 114 = .ok (.aload_n 0, 1) := by decide +kernel
theorem dX12_bestIn_115 : decode cX12_bestIn 115 = .ok (.getfield 106, 3) := by decide +kernel
theorem dX12_bestIn_118 : decode cX12_bestIn 118 = .ok (.iconst 4, 1) := by decide +kernel
theorem dX12_bestIn_119 : decode cX12_bestIn 119 = .ok (.iload_n 1, 1) := by decide +kernel
theorem dX12_bestIn_120 : decode cX12_bestIn 120 = .ok (.iload_n 2, 1) := by decide +kernel
theorem dX12_bestIn_121 : decode cX12_bestIn 121 = .ok (.aload_n 0, 1) := by decide +kernel
theorem dX12_bestIn_122 : decode cX12_bestIn 122 = .ok (.getfield 109, 3) := by decide +kernel
theorem dX12_bestIn_125 : decode cX12_bestIn 125 = .ok (.iload 6, 2) := by decide +kernel
theorem dX12_bestIn_127 : decode cX12_bestIn 127 = .ok (.iaload, 1) := by decide +kernel
theorem dX12_bestIn_128 : decode cX12_bestIn 128 = .ok (.imul, 1) := by decide +kernel
theorem dX12_bestIn_129 : decode cX12_bestIn 129 = .ok (.iadd, 1) := by decide +kernel
theorem dX12_bestIn_130 : decode cX12_bestIn 130 = .ok (.imul, 1) := by decide +kernel
theorem dX12_bestIn_131 : decode cX12_bestIn 131 = .ok (.iconst 2, 1) := by decide +kernel
theorem dX12_bestIn_132 : decode cX12_bestIn 132 = .ok (.iconst 2, 1) := by decide +kernel
theorem dX12_bestIn_133 : decode cX12_bestIn 133 = .ok (.iload_n 2, 1) := by decide +kernel
theorem dX12_bestIn_134 : decode cX12_bestIn 134 = .ok (.isub, 1) := by decide +kernel
theorem dX12_bestIn_135 : decode cX12_bestIn 135 = .ok (.imul, 1) := by decide +kernel
theorem dX12_bestIn_136 : decode cX12_bestIn 136 = .ok (.iadd, 1) := by decide +kernel
theorem dX12_bestIn_137 : decode cX12_bestIn 137 = .ok (.iaload, 1) := by decide +kernel
theorem dX12_bestIn_138 : decode cX12_bestIn 138 = .ok (.istore 7, 2) := by decide +kernel
theorem dX12_bestIn_140 : decode cX12_bestIn 140 = .ok (.iload_n 2, 1) := by decide +kernel
theorem dX12_bestIn_141 : decode cX12_bestIn 141 = .ok (.iconst 1, 1) := by decide +kernel
theorem dX12_bestIn_142 : decode cX12_bestIn 142 = .ok (.if_icmp .ne 13, 3) := by decide +kernel
theorem dX12_bestIn_145 : decode cX12_bestIn 145 = .ok (.iload 7, 2) := by decide +kernel
theorem dX12_bestIn_147 : decode cX12_bestIn 147 = .ok (.iload 4, 2) := by decide +kernel
theorem dX12_bestIn_149 : decode cX12_bestIn 149 = .ok (.if_icmp .le 23, 3) := by decide +kernel
theorem dX12_bestIn_152 : decode cX12_bestIn 152 = .ok (.goto 10, 3) := by decide +kernel
theorem dX12_bestIn_155 : decode cX12_bestIn 155 = .ok (.iload 7, 2) := by decide +kernel
theorem dX12_bestIn_157 : decode cX12_bestIn 157 = .ok (.iload 4, 2) := by decide +kernel
theorem dX12_bestIn_159 : decode cX12_bestIn 159 = .ok (.if_icmp .ge 13, 3) := by decide +kernel
theorem dX12_bestIn_162 : decode cX12_bestIn 162 = .ok (.iload 7, 2) := by decide +kernel
theorem dX12_bestIn_164 : decode cX12_bestIn 164 = .ok (.istore 4, 2) := by decide +kernel
theorem dX12_bestIn_166 : decode cX12_bestIn 166 = .ok (.aload_n 0, 1) := by decide +kernel
theorem dX12_bestIn_167 : decode cX12_bestIn 167 = .ok (.iload 6, 2) := by decide +kernel
theorem dX12_bestIn_169 : decode cX12_bestIn 169 = .ok (.putfield 445, 3) := by decide +kernel
theorem dX12_bestIn_172 : decode cX12_bestIn 172 = .ok (.iinc 6 1, 3) := by decide +kernel
theorem dX12_bestIn_175 : decode cX12_bestIn 175 = .ok (.goto (-103), 3) := by decide +kernel
theorem dX12_bestIn_178 : decode cX12_bestIn 178 = .ok (.iload 4, 2) := by decide +kernel
theorem dX12_bestIn_180 : decode cX12_bestIn 180 = .ok (.ireturn, 1) := by decide +kernel
theorem dX12_isLaid_0 : decode cX12_isLaid 0 = .ok (.iconst 0, 1) := by decide +kernel
theorem dX12_isLaid_1 : decode cX12_isLaid 1 = .ok (.istore_n 2, 1) := by decide +kernel
theorem dX12_isLaid_2 : decode cX12_isLaid 2 = .ok (.iload_n 2, 1) := by decide +kernel
theorem dX12_isLaid_3 : decode cX12_isLaid 3 = .ok (.bipush 6, 2) := by decide +kernel
theorem dX12_isLaid_5 : decode cX12_isLaid 5 = .ok (.if_icmp .ge 45, 3) := by decide +kernel
theorem dX12_isLaid_8 : decode cX12_isLaid 8 = .ok (.iload_n 1, 1) := by decide +kernel
theorem dX12_isLaid_9 : decode cX12_isLaid 9 = .ok (.aload_n 0, 1) := by decide +kernel
theorem dX12_isLaid_10 : decode cX12_isLaid 10 = .ok (.getfield 109, 3) := by decide +kernel
theorem dX12_isLaid_13 : decode cX12_isLaid 13 = .ok (.iload_n 2, 1) := by decide +kernel
theorem dX12_isLaid_14 : decode cX12_isLaid 14 = .ok (.iaload, 1) := by decide +kernel
theorem dX12_isLaid_15 : decode cX12_isLaid 15 = .ok (.idiv, 1) := by decide +kernel
theorem dX12_isLaid_16 : decode cX12_isLaid 16 = .ok (.iconst 3, 1) := by decide +kernel
theorem dX12_isLaid_17 : decode cX12_isLaid 17 = .ok (.irem, 1) := by decide +kernel
theorem dX12_isLaid_18 : decode cX12_isLaid 18 = .ok (.ifCond .le 26, 3) := by decide +kernel
theorem dX12_isLaid_21 : decode cX12_isLaid 21 = .ok (.aload_n 0, 1) := by decide +kernel
theorem dX12_isLaid_22 : decode cX12_isLaid 22 = .ok (.getfield 448, 3) := by decide +kernel
theorem dX12_isLaid_25 : decode cX12_isLaid 25 = .ok (.iload_n 2, 1) := by decide +kernel
theorem dX12_isLaid_26 : decode cX12_isLaid 26 = .ok (.invokestatic 332, 3) := by decide +kernel
theorem dX12_isLaid_29 : decode cX12_isLaid 29 = .ok (.ifCond .eq 13, 3) := by decide +kernel
theorem dX12_isLaid_32 : decode cX12_isLaid 32 = .ok (.iload_n 2, 1) := by decide +kernel
theorem dX12_isLaid_33 : decode cX12_isLaid 33 = .ok (.aload_n 0, 1) := by decide +kernel
theorem dX12_isLaid_34 : decode cX12_isLaid 34 = .ok (.getfield 9, 3) := by decide +kernel
theorem dX12_isLaid_37 : decode cX12_isLaid 37 = .ok (.iconst 4, 1) := by decide +kernel
theorem dX12_isLaid_38 : decode cX12_isLaid 38 = .ok (.iaload, 1) := by decide +kernel
theorem dX12_isLaid_39 : decode cX12_isLaid 39 = .ok (.if_icmp .lt 5, 3) := by decide +kernel
theorem dX12_isLaid_42 : decode cX12_isLaid 42 = .ok (.iconst 0, 1) := by decide +kernel
theorem dX12_isLaid_43 : decode cX12_isLaid 43 = .ok (.ireturn, 1) := by decide +kernel
theorem dX12_isLaid_44 : decode cX12_isLaid 44 = .ok (.iinc 2 1, 3) := by decide +kernel
theorem dX12_isLaid_47 : decode cX12_isLaid 47 = .ok (.goto (-45), 3) := by decide +kernel
theorem dX12_isLaid_50 : decode cX12_isLaid 50 = .ok (.iconst 1, 1) := by decide +kernel
theorem dX12_isLaid_51 : decode cX12_isLaid 51 = .ok (.ireturn, 1) := by decide +kernel
theorem dX12_game_0 : decode cX12_game 0 = .ok (.aload_n 0, 1) := by decide +kernel
theorem dX12_game_1 : decode cX12_game 1 = .ok (.iload_n 1, 1) := by decide +kernel
theorem dX12_game_2 : decode cX12_game 2 = .ok (.iload_n 2, 1) := by decide +kernel
theorem dX12_game_3 : decode cX12_game 3 = .ok (.invokevirtual 401, 3) := by decide +kernel
theorem dX12_game_6 : decode cX12_game 6 = .ok (.ifCond .eq 13, 3) := by decide +kernel
theorem dX12_game_9 : decode cX12_game 9 = .ok (.iload_n 3, 1) := by decide +kernel
theorem dX12_game_10 : decode cX12_game 10 = .ok (.i2l, 1) := by decide +kernel
theorem dX12_game_11 : decode cX12_game 11 = .ok (.lconst 0, 1) := by decide +kernel
theorem dX12_game_12 : decode cX12_game 12 = .ok (.lconst 1, 1) := by decide +kernel
theorem dX12_game_13 : decode cX12_game 13 = .ok (.invokestatic 128, 3) := by decide +kernel
theorem dX12_game_16 : decode cX12_game 16 = .ok (.ifCond .ne 7, 3) := by decide +kernel
theorem dX12_game_19 : decode cX12_game 19 = .ok (.sipush (-10000), 3) := by decide +kernel
theorem dX12_game_22 : decode cX12_game 22 = .ok (.ireturn, 1) := by decide +kernel
theorem dX12_game_23 : decode cX12_game 23 = .ok (.aload_n 0, 1) := by decide +kernel
theorem dX12_game_24 : decode cX12_game 24 = .ok (.iload_n 1, 1) := by decide +kernel
theorem dX12_game_25 : decode cX12_game 25 = .ok (.putfield 433, 3) := by decide +kernel
theorem dX12_game_28 : decode cX12_game 28 = .ok (.aload_n 0, 1) := by decide +kernel
theorem dX12_game_29 : decode cX12_game 29 = .ok (.iload_n 2, 1) := by decide +kernel
theorem dX12_game_30 : decode cX12_game 30 = .ok (.putfield 436, 3) := by decide +kernel
theorem dX12_game_33 : decode cX12_game 33 = .ok (.aload_n 0, 1) := by decide +kernel
theorem dX12_game_34 : decode cX12_game 34 = .ok (.aload_n 0, 1) := by decide +kernel
theorem dX12_game_35 : decode cX12_game 35 = .ok (.bipush 10, 2) := by decide +kernel
theorem dX12_game_37 : decode cX12_game 37 = .ok (.aload_n 0, 1) := by decide +kernel
theorem dX12_game_38 : decode cX12_game 38 = .ok (.getfield 13, 3) := by decide +kernel
theorem dX12_game_41 : decode cX12_game 41 = .ok (.iload_n 1, 1) := by decide +kernel
theorem dX12_game_42 : decode cX12_game 42 = .ok (.iaload, 1) := by decide +kernel
theorem dX12_game_43 : decode cX12_game 43 = .ok (.iadd, 1) := by decide +kernel
theorem dX12_game_44 : decode cX12_game 44 = .ok (.invokevirtual 338, 3) := by decide +kernel
theorem dX12_game_47 : decode cX12_game 47 = .ok (.putfield 448, 3) := by decide +kernel
theorem dX12_game_50 : decode cX12_game 50 = .ok (.bipush 6, 2) := by decide +kernel
theorem dX12_game_52 : decode cX12_game 52 = .ok (.istore 4, 2) := by decide +kernel
theorem dX12_game_54 : decode cX12_game 54 = .ok (.iload 4, 2) := by decide +kernel
theorem dX12_game_56 : decode cX12_game 56 = .ok (.ifCond .lt 120, 3) := by decide +kernel
theorem dX12_game_59 : decode cX12_game 59 = .ok (.iconst 0, 1) := by decide +kernel
theorem dX12_game_60 : decode cX12_game 60 = .ok (.istore 5, 2) := by decide +kernel
theorem dX12_game_62 : decode cX12_game 62 = .ok (.iload 5, 2) := by decide +kernel
theorem dX12_game_64 : decode cX12_game 64 = .ok (.sipush 729, 3) := by decide +kernel
theorem dX12_game_67 : decode cX12_game 67 = .ok (.if_icmp .ge 103, 3) := by decide +kernel
theorem dX12_game_70 : decode cX12_game 70 = .ok (.aload_n 0, 1) := by decide +kernel
theorem dX12_game_71 : decode cX12_game 71 = .ok (.iload 5, 2) := by decide +kernel
theorem dX12_game_73 : decode cX12_game 73 = .ok (.invokevirtual 451, 3) := by decide +kernel
theorem dX12_game_76 : decode cX12_game 76 = .ok (.iload 4, 2) := by decide +kernel
theorem dX12_game_78 : decode cX12_game 78 = .ok (.if_icmp .ne 86, 3) := by decide +kernel
theorem dX12_game_81 : decode cX12_game 81 = .ok (.aload_n 0, 1) := by decide +kernel
theorem dX12_game_82 : decode cX12_game 82 = .ok (.iload 5, 2) := by decide +kernel
theorem dX12_game_84 : decode cX12_game 84 = .ok (.invokevirtual 454, 3) := by decide +kernel
theorem dX12_game_87 : decode cX12_game 87 = .ok (.ifCond .eq 77, 3) := by decide +kernel
theorem dX12_game_90 : decode cX12_game 90 = .ok (.aload_n 0, 1) := by decide +kernel
theorem dX12_game_91 : decode cX12_game 91 = .ok (.getfield 106, 3) := by decide +kernel
theorem dX12_game_94 : decode cX12_game 94 = .ok (.iconst 4, 1) := by decide +kernel
theorem dX12_game_95 : decode cX12_game 95 = .ok (.iload 5, 2) := by decide +kernel
theorem dX12_game_97 : decode cX12_game 97 = .ok (.imul, 1) := by decide +kernel
theorem dX12_game_98 : decode cX12_game 98 = .ok (.iconst 1, 1) := by decide +kernel
theorem dX12_game_99 : decode cX12_game 99 = .ok (.iadd, 1) := by decide +kernel
theorem dX12_game_100 : decode cX12_game 100 = .ok (.aload_n 0, 1) := by decide +kernel
theorem dX12_game_101 : decode cX12_game 101 = .ok (.iload 5, 2) := by decide +kernel
theorem dX12_game_103 : decode cX12_game 103 = .ok (.iconst 1, 1) := by decide +kernel
theorem dX12_game_104 : decode cX12_game 104 = .ok (.iconst 1, 1) := by decide +kernel
theorem dX12_game_105 : decode cX12_game 105 = .ok (.invokevirtual 457, 3) := by decide +kernel
theorem dX12_game_108 : decode cX12_game 108 = .ok (.iastore, 1) := by decide +kernel
theorem dX12_game_109 : decode cX12_game 109 = .ok (.aload_n 0, 1) := by decide +kernel
theorem dX12_game_110 : decode cX12_game 110 = .ok (.getfield 106, 3) := by decide +kernel
theorem dX12_game_113 : decode cX12_game 113 = .ok (.iconst 4, 1) := by decide +kernel
theorem dX12_game_114 : decode cX12_game 114 = .ok (.iload 5, 2) := by decide +kernel
theorem dX12_game_116 : decode cX12_game 116 = .ok (.imul, 1) := by decide +kernel
theorem dX12_game_117 : decode cX12_game 117 = .ok (.iconst 3, 1) := by decide +kernel
theorem dX12_game_118 : decode cX12_game 118 = .ok (.iadd, 1) := by decide +kernel
theorem dX12_game_119 : decode cX12_game 119 = .ok (.aload_n 0, 1) := by decide +kernel
theorem dX12_game_120 : decode cX12_game 120 = .ok (.iload 5, 2) := by decide +kernel
theorem dX12_game_122 : decode cX12_game 122 = .ok (.iconst 2, 1) := by decide +kernel
theorem dX12_game_123 : decode cX12_game 123 = .ok (.iconst 1, 1) := by decide +kernel
theorem dX12_game_124 : decode cX12_game 124 = .ok (.invokevirtual 457, 3) := by decide +kernel
theorem dX12_game_127 : decode cX12_game 127 = .ok (.iastore, 1) := by decide +kernel
theorem dX12_game_128 : decode cX12_game 128 = .ok (.aload_n 0, 1) := by decide +kernel
theorem dX12_game_129 : decode cX12_game 129 = .ok (.getfield 106, 3) := by decide +kernel
theorem dX12_game_132 : decode cX12_game 132 = .ok (.iconst 4, 1) := by decide +kernel
theorem dX12_game_133 : decode cX12_game 133 = .ok (.iload 5, 2) := by decide +kernel
theorem dX12_game_135 : decode cX12_game 135 = .ok (.imul, 1) := by decide +kernel
theorem dX12_game_136 : decode cX12_game 136 = .ok (.aload_n 0, 1) := by decide +kernel
theorem dX12_game_137 : decode cX12_game 137 = .ok (.iload 5, 2) := by decide +kernel
theorem dX12_game_139 : decode cX12_game 139 = .ok (.iconst 1, 1) := by decide +kernel
theorem dX12_game_140 : decode cX12_game 140 = .ok (.iconst 0, 1) := by decide +kernel
theorem dX12_game_141 : decode cX12_game 141 = .ok (.invokevirtual 457, 3) := by decide +kernel
theorem dX12_game_144 : decode cX12_game 144 = .ok (.iastore, 1) := by decide +kernel
theorem dX12_game_145 : decode cX12_game 145 = .ok (.aload_n 0, 1) := by decide +kernel
theorem dX12_game_146 : decode cX12_game 146 = .ok (.getfield 106, 3) := by decide +kernel
theorem dX12_game_149 : decode cX12_game 149 = .ok (.iconst 4, 1) := by decide +kernel
theorem dX12_game_150 : decode cX12_game 150 = .ok (.iload 5, 2) := by decide +kernel
theorem dX12_game_152 : decode cX12_game 152 = .ok (.imul, 1) := by decide +kernel
theorem dX12_game_153 : decode cX12_game 153 = .ok (.iconst 2, 1) := by decide +kernel
theorem dX12_game_154 : decode cX12_game 154 = .ok (.iadd, 1) := by decide +kernel
theorem dX12_game_155 : decode cX12_game 155 = .ok (.aload_n 0, 1) := by decide +kernel
theorem dX12_game_156 : decode cX12_game 156 = .ok (.iload 5, 2) := by decide +kernel
theorem dX12_game_158 : decode cX12_game 158 = .ok (.iconst 2, 1) := by decide +kernel
theorem dX12_game_159 : decode cX12_game 159 = .ok (.iconst 0, 1) := by decide +kernel
theorem dX12_game_160 : decode cX12_game 160 = .ok (.invokevirtual 457, 3) := by decide +kernel
theorem dX12_game_163 : decode cX12_game 163 = .ok (.iastore, 1) := by decide +kernel
theorem dX12_game_164 : decode cX12_game 164 = .ok (.iinc 5 1, 3) := by decide +kernel
theorem dX12_game_167 : decode cX12_game 167 = .ok (.goto (-105), 3) := by decide +kernel
theorem dX12_game_170 : decode cX12_game 170 = .ok (.iinc 4 (-1), 3) := by decide +kernel
theorem dX12_game_173 : decode cX12_game 173 = .ok (.goto (-119), 3) := by decide +kernel
theorem dX12_game_176 : decode cX12_game 176 = .ok (.aload_n 0, 1) := by decide +kernel
theorem dX12_game_177 : decode cX12_game 177 = .ok (.iconst 0, 1) := by decide +kernel
theorem dX12_game_178 : decode cX12_game 178 = .ok (.iconst 1, 1) := by decide +kernel
theorem dX12_game_179 : decode cX12_game 179 = .ok (.iconst 0, 1) := by decide +kernel
theorem dX12_game_180 : decode cX12_game 180 = .ok (.invokevirtual 457, 3) := by decide +kernel
theorem dX12_game_183 : decode cX12_game 183 = .ok (.istore 4, 2) := by decide +kernel
theorem dX12_game_185 : decode cX12_game 185 = .ok (.iload_n 3, 1) := by decide +kernel
theorem dX12_game_186 : decode cX12_game 186 = .ok (.ifCond .ne 8, 3) := by decide +kernel
theorem dX12_game_189 : decode cX12_game 189 = .ok (.iload 4, 2) := by decide +kernel
theorem dX12_game_191 : decode cX12_game 191 = .ok (.goto 7, 3) := by decide +kernel
theorem dX12_game_194 : decode cX12_game 194 = .ok (.aload_n 0, 1) := by decide +kernel
theorem dX12_game_195 : decode cX12_game 195 = .ok (.getfield 445, 3) := by decide +kernel
theorem dX12_game_198 : decode cX12_game 198 = .ok (.ireturn, 1) := by decide +kernel
theorem dX12_pence_0 : decode cX12_pence 0 = .ok (.aload_n 0, 1) := by decide +kernel
theorem dX12_pence_1 : decode cX12_pence 1 = .ok (.iload_n 2, 1) := by decide +kernel
theorem dX12_pence_2 : decode cX12_pence 2 = .ok (.invokevirtual 334, 3) := by decide +kernel
theorem dX12_pence_5 : decode cX12_pence 5 = .ok (.ifCond .eq 15, 3) := by decide +kernel
theorem dX12_pence_8 : decode cX12_pence 8 = .ok (.iload_n 1, 1) := by decide +kernel
theorem dX12_pence_9 : decode cX12_pence 9 = .ok (.i2l, 1) := by decide +kernel
theorem dX12_pence_10 : decode cX12_pence 10 = .ok (.lconst 0, 1) := by decide +kernel
theorem dX12_pence_11 : decode cX12_pence 11 = .ok (.ldc2_w 461, 3) := by decide +kernel
theorem dX12_pence_14 : decode cX12_pence 14 = .ok (.invokestatic 128, 3) := by decide +kernel
theorem dX12_pence_17 : decode cX12_pence 17 = .ok (.ifCond .ne 5, 3) := by decide +kernel
theorem dX12_pence_20 : decode cX12_pence 20 = .ok (.iconst (-1), 1) := by decide +kernel
theorem dX12_pence_21 : decode cX12_pence 21 = .ok (.ireturn, 1) := by decide +kernel
theorem dX12_pence_22 : decode cX12_pence 22 = .ok (.iconst 0, 1) := by decide +kernel
theorem dX12_pence_23 : decode cX12_pence 23 = .ok (.istore_n 3, 1) := by decide +kernel
theorem dX12_pence_24 : decode cX12_pence 24 = .ok (.iconst 0, 1) := by decide +kernel
theorem dX12_pence_25 : decode cX12_pence 25 = .ok (.istore 4, 2) := by decide +kernel
theorem dX12_pence_27 : decode cX12_pence 27 = .ok (.iload 4, 2) := by decide +kernel
theorem dX12_pence_29 : decode cX12_pence 29 = .ok (.aload_n 0, 1) := by decide +kernel
theorem dX12_pence_30 : decode cX12_pence 30 = .ok (.getfield 9, 3) := by decide +kernel
theorem dX12_pence_33 : decode cX12_pence 33 = .ok (.iconst 3, 1) := by decide +kernel
theorem dX12_pence_34 : decode cX12_pence 34 = .ok (.iaload, 1) := by decide +kernel
theorem dX12_pence_35 : decode cX12_pence 35 = .ok (.if_icmp .ge 22, 3) := by decide +kernel
theorem dX12_pence_38 : decode cX12_pence 38 = .ok (.iload_n 3, 1) := by decide +kernel
theorem dX12_pence_39 : decode cX12_pence 39 = .ok (.aload_n 0, 1) := by decide +kernel
theorem dX12_pence_40 : decode cX12_pence 40 = .ok (.aload_n 0, 1) := by decide +kernel
theorem dX12_pence_41 : decode cX12_pence 41 = .ok (.iload 4, 2) := by decide +kernel
theorem dX12_pence_43 : decode cX12_pence 43 = .ok (.invokevirtual 338, 3) := by decide +kernel
theorem dX12_pence_46 : decode cX12_pence 46 = .ok (.invokevirtual 344, 3) := by decide +kernel
theorem dX12_pence_49 : decode cX12_pence 49 = .ok (.iadd, 1) := by decide +kernel
theorem dX12_pence_50 : decode cX12_pence 50 = .ok (.istore_n 3, 1) := by decide +kernel
theorem dX12_pence_51 : decode cX12_pence 51 = .ok (.iinc 4 1, 3) := by decide +kernel
theorem dX12_pence_54 : decode cX12_pence 54 = .ok (.goto (-27), 3) := by decide +kernel
theorem dX12_pence_57 : decode cX12_pence 57 = .ok (.iload_n 3, 1) := by decide +kernel
theorem dX12_pence_58 : decode cX12_pence 58 = .ok (.ifCond .ne 5, 3) := by decide +kernel
theorem dX12_pence_61 : decode cX12_pence 61 = .ok (.iconst 0, 1) := by decide +kernel
theorem dX12_pence_62 : decode cX12_pence 62 = .ok (.ireturn, 1) := by decide +kernel
theorem dX12_pence_63 : decode cX12_pence 63 = .ok (.iload_n 1, 1) := by decide +kernel
theorem dX12_pence_64 : decode cX12_pence 64 = .ok (.istore 4, 2) := by decide +kernel
theorem dX12_pence_66 : decode cX12_pence 66 = .ok (.iconst 0, 1) := by decide +kernel
theorem dX12_pence_67 : decode cX12_pence 67 = .ok (.istore 5, 2) := by decide +kernel
theorem dX12_pence_69 : decode cX12_pence 69 = .ok (.iload_n 1, 1) := by decide +kernel
theorem dX12_pence_70 : decode cX12_pence 70 = .ok (.aload_n 0, 1) := by decide +kernel
theorem dX12_pence_71 : decode cX12_pence 71 = .ok (.aload_n 0, 1) := by decide +kernel
theorem dX12_pence_72 : decode cX12_pence 72 = .ok (.iload_n 2, 1) := by decide +kernel
theorem dX12_pence_73 : decode cX12_pence 73 = .ok (.invokevirtual 338, 3) := by decide +kernel
theorem dX12_pence_76 : decode cX12_pence 76 = .ok (.invokevirtual 344, 3) := by decide +kernel
theorem dX12_pence_79 : decode cX12_pence 79 = .ok (.imul, 1) := by decide +kernel
theorem dX12_pence_80 : decode cX12_pence 80 = .ok (.istore 6, 2) := by decide +kernel
theorem dX12_pence_82 : decode cX12_pence 82 = .ok (.iconst 0, 1) := by decide +kernel
theorem dX12_pence_83 : decode cX12_pence 83 = .ok (.istore 7, 2) := by decide +kernel
theorem dX12_pence_85 : decode cX12_pence 85 = .ok (.iload 7, 2) := by decide +kernel
theorem dX12_pence_87 : decode cX12_pence 87 = .ok (.aload_n 0, 1) := by decide +kernel
theorem dX12_pence_88 : decode cX12_pence 88 = .ok (.getfield 9, 3) := by decide +kernel
theorem dX12_pence_91 : decode cX12_pence 91 = .ok (.iconst 3, 1) := by decide +kernel
theorem dX12_pence_92 : decode cX12_pence 92 = .ok (.iaload, 1) := by decide +kernel
theorem dX12_pence_93 : decode cX12_pence 93 = .ok (.if_icmp .ge 69, 3) := by decide +kernel
theorem dX12_pence_96 : decode cX12_pence 96 = .ok (.iload_n 1, 1) := by decide +kernel
theorem dX12_pence_97 : decode cX12_pence 97 = .ok (.aload_n 0, 1) := by decide +kernel
theorem dX12_pence_98 : decode cX12_pence 98 = .ok (.aload_n 0, 1) := by decide +kernel
theorem dX12_pence_99 : decode cX12_pence 99 = .ok (.iload 7, 2) := by decide +kernel
theorem dX12_pence_101 : decode cX12_pence 101 = .ok (.invokevirtual 338, 3) := by decide +kernel
theorem dX12_pence_104 : decode cX12_pence 104 = .ok (.invokevirtual 344, 3) := by decide +kernel
theorem dX12_pence_107 : decode cX12_pence 107 = .ok (.imul, 1) := by decide +kernel
theorem dX12_pence_108 : decode cX12_pence 108 = .ok (.istore 8, 2) := by decide +kernel
theorem dX12_pence_110 : decode cX12_pence 110 = .ok (.iload 4, 2) := by decide +kernel
theorem dX12_pence_112 : decode cX12_pence 112 = .ok (.iload 8, 2) := by decide +kernel
theorem dX12_pence_114 : decode cX12_pence 114 = .ok (.iload_n 3, 1) := by decide +kernel
theorem dX12_pence_115 : decode cX12_pence 115 = .ok (.idiv, 1) := by decide +kernel
theorem dX12_pence_116 : decode cX12_pence 116 = .ok (.isub, 1) := by decide +kernel
theorem dX12_pence_117 : decode cX12_pence 117 = .ok (.istore 4, 2) := by decide +kernel
theorem dX12_pence_119 : decode cX12_pence 119 = .ok (.iload 8, 2) := by decide +kernel
theorem dX12_pence_121 : decode cX12_pence 121 = .ok (.iload_n 3, 1) := by decide +kernel
theorem dX12_pence_122 : decode cX12_pence 122 = .ok (.irem, 1) := by decide +kernel
theorem dX12_pence_123 : decode cX12_pence 123 = .ok (.iload 6, 2) := by decide +kernel
theorem dX12_pence_125 : decode cX12_pence 125 = .ok (.iload_n 3, 1) := by decide +kernel
theorem dX12_pence_126 : decode cX12_pence 126 = .ok (.irem, 1) := by decide +kernel
theorem dX12_pence_127 : decode cX12_pence 127 = .ok (.isub, 1) := by decide +kernel
theorem dX12_pence_128 : decode cX12_pence 128 = .ok (.istore 9, 2) := by decide +kernel
theorem dX12_pence_130 : decode cX12_pence 130 = .ok (.iload 5, 2) := by decide +kernel
theorem dX12_pence_132 : decode cX12_pence 132 = .ok (.iload 9, 2) := by decide +kernel
theorem dX12_pence_134 : decode cX12_pence 134 = .ok (.ifCond .gt 14, 3) := by decide +kernel
theorem dX12_pence_137 : decode cX12_pence 137 = .ok (.iload 9, 2) := by decide +kernel
theorem dX12_pence_139 : decode cX12_pence 139 = .ok (.ifCond .ne 13, 3) := by decide +kernel
theorem dX12_pence_142 : decode cX12_pence 142 = .ok (.iload 7, 2) := by decide +kernel
theorem dX12_pence_144 : decode cX12_pence 144 = .ok (.iload_n 2, 1) := by decide +kernel
theorem dX12_pence_145 : decode cX12_pence 145 = .ok (.if_icmp .ge 7, 3) := by decide +kernel
theorem dX12_pence_148 : decode cX12_pence 148 = .ok (.iconst 1, 1) := by decide +kernel
theorem dX12_pence_149 : decode cX12_pence 149 = .ok (.goto 4, 3) := by decide +kernel
theorem dX12_pence_152 : decode cX12_pence 152 = .ok (.iconst 0, 1) := by decide +kernel
theorem dX12_pence_153 : decode cX12_pence 153 = .ok (.iadd, 1) := by decide +kernel
theorem dX12_pence_154 : decode cX12_pence 154 = .ok (.istore 5, 2) := by decide +kernel
theorem dX12_pence_156 : decode cX12_pence 156 = .ok (.iinc 7 1, 3) := by decide +kernel
theorem dX12_pence_159 : decode cX12_pence 159 = .ok (.goto (-74), 3) := by decide +kernel
theorem dX12_pence_162 : decode cX12_pence 162 = .ok (.iload 6, 2) := by decide +kernel
theorem dX12_pence_164 : decode cX12_pence 164 = .ok (.iload_n 3, 1) := by decide +kernel
theorem dX12_pence_165 : decode cX12_pence 165 = .ok (.idiv, 1) := by decide +kernel
theorem dX12_pence_166 : decode cX12_pence 166 = .ok (.iload 5, 2) := by decide +kernel
theorem dX12_pence_168 : decode cX12_pence 168 = .ok (.iload 4, 2) := by decide +kernel
theorem dX12_pence_170 : decode cX12_pence 170 = .ok (.if_icmp .ge 7, 3) := by decide +kernel
theorem dX12_pence_173 : decode cX12_pence 173 = .ok (.iconst 1, 1) := by decide +kernel
theorem dX12_pence_174 : decode cX12_pence 174 = .ok (.goto 4, 3) := by decide +kernel
theorem dX12_pence_177 : decode cX12_pence 177 = .ok (.iconst 0, 1) := by decide +kernel
theorem dX12_pence_178 : decode cX12_pence 178 = .ok (.iadd, 1) := by decide +kernel
theorem dX12_pence_179 : decode cX12_pence 179 = .ok (.ireturn, 1) := by decide +kernel
theorem dX12_note_0 : decode cX12_note 0 = .ok (.iload_n 1, 1) := by decide +kernel
theorem dX12_note_1 : decode cX12_note 1 = .ok (.iconst (-1), 1) := by decide +kernel
theorem dX12_note_2 : decode cX12_note 2 = .ok (.if_icmp .ne 13, 3) := by decide +kernel
theorem dX12_note_5 : decode cX12_note 5 = .ok (.aload_n 0, 1) := by decide +kernel
theorem dX12_note_6 : decode cX12_note 6 = .ok (.getfield 9, 3) := by decide +kernel
theorem dX12_note_9 : decode cX12_note 9 = .ok (.bipush 6, 2) := by decide +kernel
theorem dX12_note_11 : decode cX12_note 11 = .ok (.iconst 0, 1) := by decide +kernel
theorem dX12_note_12 : decode cX12_note 12 = .ok (.iastore, 1) := by decide +kernel
theorem dX12_note_13 : decode cX12_note 13 = .ok (.iconst 0, 1) := by decide +kernel
theorem dX12_note_14 : decode cX12_note 14 = .ok (.ireturn, 1) := by decide +kernel
theorem dX12_note_15 : decode cX12_note 15 = .ok (.aload_n 0, 1) := by decide +kernel
theorem dX12_note_16 : decode cX12_note 16 = .ok (.getfield 9, 3) := by decide +kernel
theorem dX12_note_19 : decode cX12_note 19 = .ok (.bipush 6, 2) := by decide +kernel
theorem dX12_note_21 : decode cX12_note 21 = .ok (.iaload, 1) := by decide +kernel
theorem dX12_note_22 : decode cX12_note 22 = .ok (.istore 4, 2) := by decide +kernel
theorem dX12_note_24 : decode cX12_note 24 = .ok (.iload_n 1, 1) := by decide +kernel
theorem dX12_note_25 : decode cX12_note 25 = .ok (.i2l, 1) := by decide +kernel
theorem dX12_note_26 : decode cX12_note 26 = .ok (.lconst 0, 1) := by decide +kernel
theorem dX12_note_27 : decode cX12_note 27 = .ok (.ldc2_w 431, 3) := by decide +kernel
theorem dX12_note_30 : decode cX12_note 30 = .ok (.invokestatic 128, 3) := by decide +kernel
theorem dX12_note_33 : decode cX12_note 33 = .ok (.ifCond .eq 32, 3) := by decide +kernel
theorem dX12_note_36 : decode cX12_note 36 = .ok (.aload_n 0, 1) := by decide +kernel
theorem dX12_note_37 : decode cX12_note 37 = .ok (.iload_n 2, 1) := by decide +kernel
theorem dX12_note_38 : decode cX12_note 38 = .ok (.invokevirtual 334, 3) := by decide +kernel
theorem dX12_note_41 : decode cX12_note 41 = .ok (.ifCond .eq 24, 3) := by decide +kernel
theorem dX12_note_44 : decode cX12_note 44 = .ok (.iload_n 3, 1) := by decide +kernel
theorem dX12_note_45 : decode cX12_note 45 = .ok (.i2l, 1) := by decide +kernel
theorem dX12_note_46 : decode cX12_note 46 = .ok (.lconst 0, 1) := by decide +kernel
theorem dX12_note_47 : decode cX12_note 47 = .ok (.aload_n 0, 1) := by decide +kernel
theorem dX12_note_48 : decode cX12_note 48 = .ok (.invokevirtual 352, 3) := by decide +kernel
theorem dX12_note_51 : decode cX12_note 51 = .ok (.i2l, 1) := by decide +kernel
theorem dX12_note_52 : decode cX12_note 52 = .ok (.invokestatic 128, 3) := by decide +kernel
theorem dX12_note_55 : decode cX12_note 55 = .ok (.ifCond .eq 10, 3) := by decide +kernel
theorem dX12_note_58 : decode cX12_note 58 = .ok (.iload 4, 2) := by decide +kernel
theorem dX12_note_60 : decode cX12_note 60 = .ok (.bipush 10, 2) := by decide +kernel
theorem dX12_note_62 : decode cX12_note 62 = .ok (.if_icmp .ne 6, 3) := by decide +kernel
theorem dX12_note_65 : decode cX12_note 65 = .ok (.bipush (-2), 2) := by decide +kernel
theorem dX12_note_67 : decode cX12_note 67 = .ok (.ireturn, 1) := by decide +kernel
theorem dX12_note_68 : decode cX12_note 68 = .ok (.aload_n 0, 1) := by decide +kernel
theorem dX12_note_69 : decode cX12_note 69 = .ok (.getfield 34, 3) := by decide +kernel
theorem dX12_note_72 : decode cX12_note 72 = .ok (.iload 4, 2) := by decide +kernel
theorem dX12_note_74 : decode cX12_note 74 = .ok (.iload_n 1, 1) := by decide +kernel
theorem dX12_note_75 : decode cX12_note 75 = .ok (.iastore, 1) := by decide +kernel
theorem dX12_note_76 : decode cX12_note 76 = .ok (.aload_n 0, 1) := by decide +kernel
theorem dX12_note_77 : decode cX12_note 77 = .ok (.getfield 37, 3) := by decide +kernel
theorem dX12_note_80 : decode cX12_note 80 = .ok (.iload 4, 2) := by decide +kernel
theorem dX12_note_82 : decode cX12_note 82 = .ok (.iload_n 2, 1) := by decide +kernel
theorem dX12_note_83 : decode cX12_note 83 = .ok (.iastore, 1) := by decide +kernel
theorem dX12_note_84 : decode cX12_note 84 = .ok (.aload_n 0, 1) := by decide +kernel
theorem dX12_note_85 : decode cX12_note 85 = .ok (.getfield 40, 3) := by decide +kernel
theorem dX12_note_88 : decode cX12_note 88 = .ok (.iload 4, 2) := by decide +kernel
theorem dX12_note_90 : decode cX12_note 90 = .ok (.iload_n 3, 1) := by decide +kernel
theorem dX12_note_91 : decode cX12_note 91 = .ok (.iastore, 1) := by decide +kernel
theorem dX12_note_92 : decode cX12_note 92 = .ok (.aload_n 0, 1) := by decide +kernel
theorem dX12_note_93 : decode cX12_note 93 = .ok (.getfield 9, 3) := by decide +kernel
theorem dX12_note_96 : decode cX12_note 96 = .ok (.bipush 6, 2) := by decide +kernel
theorem dX12_note_98 : decode cX12_note 98 = .ok (.dup2, 1) := by decide +kernel
theorem dX12_note_99 : decode cX12_note 99 = .ok (.iaload, 1) := by decide +kernel
theorem dX12_note_100 : decode cX12_note 100 = .ok (.iconst 1, 1) := by decide +kernel
theorem dX12_note_101 : decode cX12_note 101 = .ok (.iadd, 1) := by decide +kernel
theorem dX12_note_102 : decode cX12_note 102 = .ok (.iastore, 1) := by decide +kernel
theorem dX12_note_103 : decode cX12_note 103 = .ok (.iload 4, 2) := by decide +kernel
theorem dX12_note_105 : decode cX12_note 105 = .ok (.iconst 1, 1) := by decide +kernel
theorem dX12_note_106 : decode cX12_note 106 = .ok (.iadd, 1) := by decide +kernel
theorem dX12_note_107 : decode cX12_note 107 = .ok (.ireturn, 1) := by decide +kernel
theorem dX12_couldRule_0 : decode cX12_couldRule 0 = .ok (.aload_n 0, 1) := by decide +kernel
theorem dX12_couldRule_1 : decode cX12_couldRule 1 = .ok (.getfield 9, 3) := by decide +kernel
theorem dX12_couldRule_4 : decode cX12_couldRule 4 = .ok (.bipush 8, 2) := by decide +kernel
theorem dX12_couldRule_6 : decode cX12_couldRule 6 = .ok (.iload_n 1, 1) := by decide +kernel
theorem dX12_couldRule_7 : decode cX12_couldRule 7 = .ok (.iastore, 1) := by decide +kernel
theorem dX12_couldRule_8 : decode cX12_couldRule 8 = .ok (.aload_n 0, 1) := by decide +kernel
theorem dX12_couldRule_9 : decode cX12_couldRule 9 = .ok (.invokevirtual 296, 3) := by decide +kernel
theorem dX12_couldRule_12 : decode cX12_couldRule 12 = .ok (.iconst 0, 1) := by decide +kernel
theorem dX12_couldRule_13 : decode cX12_couldRule 13 = .ok (.istore_n 2, 1) := by decide +kernel
theorem dX12_couldRule_14 : decode cX12_couldRule 14 = .ok (.iload_n 2, 1) := by decide +kernel
theorem dX12_couldRule_15 : decode cX12_couldRule 15 = .ok (.bipush 60, 2) := by decide +kernel
theorem dX12_couldRule_17 : decode cX12_couldRule 17 = .ok (.if_icmp .gt 43, 3) := by decide +kernel
theorem dX12_couldRule_20 : decode cX12_couldRule 20 = .ok (.iconst 0, 1) := by decide +kernel
theorem dX12_couldRule_21 : decode cX12_couldRule 21 = .ok (.istore_n 3, 1) := by decide +kernel
theorem dX12_couldRule_22 : decode cX12_couldRule 22 = .ok (.iload_n 3, 1) := by decide +kernel
theorem dX12_couldRule_23 : decode cX12_couldRule 23 = .ok (.iconst 4, 1) := by decide +kernel
theorem dX12_couldRule_24 : decode cX12_couldRule 24 = .ok (.if_icmp .ge 25, 3) := by decide +kernel
theorem dX12_couldRule_27 : decode cX12_couldRule 27 = .ok (.aload_n 0, 1) := by decide +kernel
theorem dX12_couldRule_28 : decode cX12_couldRule 28 = .ok (.getfield 112, 3) := by decide +kernel
theorem dX12_couldRule_31 : decode cX12_couldRule 31 = .ok (.iconst 4, 1) := by decide +kernel
theorem dX12_couldRule_32 : decode cX12_couldRule 32 = .ok (.iload_n 2, 1) := by decide +kernel
theorem dX12_couldRule_33 : decode cX12_couldRule 33 = .ok (.imul, 1) := by decide +kernel
theorem dX12_couldRule_34 : decode cX12_couldRule 34 = .ok (.iload_n 3, 1) := by decide +kernel
theorem dX12_couldRule_35 : decode cX12_couldRule 35 = .ok (.iadd, 1) := by decide +kernel
theorem dX12_couldRule_36 : decode cX12_couldRule 36 = .ok (.aload_n 0, 1) := by decide +kernel
theorem dX12_couldRule_37 : decode cX12_couldRule 37 = .ok (.getfield 13, 3) := by decide +kernel
theorem dX12_couldRule_40 : decode cX12_couldRule 40 = .ok (.iload_n 3, 1) := by decide +kernel
theorem dX12_couldRule_41 : decode cX12_couldRule 41 = .ok (.iaload, 1) := by decide +kernel
theorem dX12_couldRule_42 : decode cX12_couldRule 42 = .ok (.iastore, 1) := by decide +kernel
theorem dX12_couldRule_43 : decode cX12_couldRule 43 = .ok (.iinc 3 1, 3) := by decide +kernel
theorem dX12_couldRule_46 : decode cX12_couldRule 46 = .ok (.goto (-24), 3) := by decide +kernel
theorem dX12_couldRule_49 : decode cX12_couldRule 49 = .ok (.aload_n 0, 1) := by decide +kernel
theorem dX12_couldRule_50 : decode cX12_couldRule 50 = .ok (.invokevirtual 368, 3) := by decide +kernel
theorem dX12_couldRule_53 : decode cX12_couldRule 53 = .ok (.pop, 1) := by decide +kernel
theorem dX12_couldRule_54 : decode cX12_couldRule 54 = .ok (.iinc 2 1, 3) := by decide +kernel
theorem dX12_couldRule_57 : decode cX12_couldRule 57 = .ok (.goto (-43), 3) := by decide +kernel
theorem dX12_couldRule_60 : decode cX12_couldRule 60 = .ok (.aload_n 0, 1) := by decide +kernel
theorem dX12_couldRule_61 : decode cX12_couldRule 61 = .ok (.invokevirtual 415, 3) := by decide +kernel
theorem dX12_couldRule_64 : decode cX12_couldRule 64 = .ok (.iconst 0, 1) := by decide +kernel
theorem dX12_couldRule_65 : decode cX12_couldRule 65 = .ok (.istore_n 2, 1) := by decide +kernel
theorem dX12_couldRule_66 : decode cX12_couldRule 66 = .ok (.iload_n 2, 1) := by decide +kernel
theorem dX12_couldRule_67 : decode cX12_couldRule 67 = .ok (.aload_n 0, 1) := by decide +kernel
theorem dX12_couldRule_68 : decode cX12_couldRule 68 = .ok (.getfield 9, 3) := by decide +kernel
theorem dX12_couldRule_71 : decode cX12_couldRule 71 = .ok (.bipush 6, 2) := by decide +kernel
theorem dX12_couldRule_73 : decode cX12_couldRule 73 = .ok (.iaload, 1) := by decide +kernel
theorem dX12_couldRule_74 : decode cX12_couldRule 74 = .ok (.if_icmp .ge 40, 3) := by decide +kernel
theorem dX12_couldRule_77 : decode cX12_couldRule 77 = .ok (.aload_n 0, 1) := by decide +kernel
theorem dX12_couldRule_78 : decode cX12_couldRule 78 = .ok (.getfield 112, 3) := by decide +kernel
theorem dX12_couldRule_81 : decode cX12_couldRule 81 = .ok (.iconst 4, 1) := by decide +kernel
theorem dX12_couldRule_82 : decode cX12_couldRule 82 = .ok (.aload_n 0, 1) := by decide +kernel
theorem dX12_couldRule_83 : decode cX12_couldRule 83 = .ok (.getfield 34, 3) := by decide +kernel
theorem dX12_couldRule_86 : decode cX12_couldRule 86 = .ok (.iload_n 2, 1) := by decide +kernel
theorem dX12_couldRule_87 : decode cX12_couldRule 87 = .ok (.iaload, 1) := by decide +kernel
theorem dX12_couldRule_88 : decode cX12_couldRule 88 = .ok (.imul, 1) := by decide +kernel
theorem dX12_couldRule_89 : decode cX12_couldRule 89 = .ok (.aload_n 0, 1) := by decide +kernel
theorem dX12_couldRule_90 : decode cX12_couldRule 90 = .ok (.getfield 37, 3) := by decide +kernel
theorem dX12_couldRule_93 : decode cX12_couldRule 93 = .ok (.iload_n 2, 1) := by decide +kernel
theorem dX12_couldRule_94 : decode cX12_couldRule 94 = .ok (.iaload, 1) := by decide +kernel
theorem dX12_couldRule_95 : decode cX12_couldRule 95 = .ok (.iadd, 1) := by decide +kernel
theorem dX12_couldRule_96 : decode cX12_couldRule 96 = .ok (.iaload, 1) := by decide +kernel
theorem dX12_couldRule_97 : decode cX12_couldRule 97 = .ok (.aload_n 0, 1) := by decide +kernel
theorem dX12_couldRule_98 : decode cX12_couldRule 98 = .ok (.getfield 40, 3) := by decide +kernel
theorem dX12_couldRule_101 : decode cX12_couldRule 101 = .ok (.iload_n 2, 1) := by decide +kernel
theorem dX12_couldRule_102 : decode cX12_couldRule 102 = .ok (.iaload, 1) := by decide +kernel
theorem dX12_couldRule_103 : decode cX12_couldRule 103 = .ok (.if_icmp .eq 5, 3) := by decide +kernel
theorem dX12_couldRule_106 : decode cX12_couldRule 106 = .ok (.iconst 0, 1) := by decide +kernel
theorem dX12_couldRule_107 : decode cX12_couldRule 107 = .ok (.ireturn, 1) := by decide +kernel
theorem dX12_couldRule_108 : decode cX12_couldRule 108 = .ok (.iinc 2 1, 3) := by decide +kernel
theorem dX12_couldRule_111 : decode cX12_couldRule 111 = .ok (.goto (-45), 3) := by decide +kernel
theorem dX12_couldRule_114 : decode cX12_couldRule 114 = .ok (.iconst 1, 1) := by decide +kernel
theorem dX12_couldRule_115 : decode cX12_couldRule 115 = .ok (.ireturn, 1) := by decide +kernel
theorem dX12_ruled_0 : decode cX12_ruled 0 = .ok (.aload_n 0, 1) := by decide +kernel
theorem dX12_ruled_1 : decode cX12_ruled 1 = .ok (.invokevirtual 389, 3) := by decide +kernel
theorem dX12_ruled_4 : decode cX12_ruled 4 = .ok (.ifCond .eq 13, 3) := by decide +kernel
theorem dX12_ruled_7 : decode cX12_ruled 7 = .ok (.iload_n 1, 1) := by decide +kernel
theorem dX12_ruled_8 : decode cX12_ruled 8 = .ok (.i2l, 1) := by decide +kernel
theorem dX12_ruled_9 : decode cX12_ruled 9 = .ok (.lconst 0, 1) := by decide +kernel
theorem dX12_ruled_10 : decode cX12_ruled 10 = .ok (.lconst 1, 1) := by decide +kernel
theorem dX12_ruled_11 : decode cX12_ruled 11 = .ok (.invokestatic 128, 3) := by decide +kernel
theorem dX12_ruled_14 : decode cX12_ruled 14 = .ok (.ifCond .ne 6, 3) := by decide +kernel
theorem dX12_ruled_17 : decode cX12_ruled 17 = .ok (.bipush (-3), 2) := by decide +kernel
theorem dX12_ruled_19 : decode cX12_ruled 19 = .ok (.ireturn, 1) := by decide +kernel
theorem dX12_ruled_20 : decode cX12_ruled 20 = .ok (.aload_n 0, 1) := by decide +kernel
theorem dX12_ruled_21 : decode cX12_ruled 21 = .ok (.invokevirtual 409, 3) := by decide +kernel
theorem dX12_ruled_24 : decode cX12_ruled 24 = .ok (.iconst 0, 1) := by decide +kernel
theorem dX12_ruled_25 : decode cX12_ruled 25 = .ok (.istore_n 2, 1) := by decide +kernel
theorem dX12_ruled_26 : decode cX12_ruled 26 = .ok (.bipush (-2), 2) := by decide +kernel
theorem dX12_ruled_28 : decode cX12_ruled 28 = .ok (.istore_n 3, 1) := by decide +kernel
theorem dX12_ruled_29 : decode cX12_ruled 29 = .ok (.iconst (-1), 1) := by decide +kernel
theorem dX12_ruled_30 : decode cX12_ruled 30 = .ok (.istore 4, 2) := by decide +kernel
theorem dX12_ruled_32 : decode cX12_ruled 32 = .ok (.iload 4, 2) := by decide +kernel
theorem dX12_ruled_34 : decode cX12_ruled 34 = .ok (.aload_n 0, 1) := by decide +kernel
theorem dX12_ruled_35 : decode cX12_ruled 35 = .ok (.getfield 312, 3) := by decide +kernel
theorem dX12_ruled_38 : decode cX12_ruled 38 = .ok (.if_icmp .ge 32, 3) := by decide +kernel
theorem dX12_ruled_41 : decode cX12_ruled 41 = .ok (.aload_n 0, 1) := by decide +kernel
theorem dX12_ruled_42 : decode cX12_ruled 42 = .ok (.iload 4, 2) := by decide +kernel
theorem dX12_ruled_44 : decode cX12_ruled 44 = .ok (.invokevirtual 463, 3) := by decide +kernel
theorem dX12_ruled_47 : decode cX12_ruled 47 = .ok (.ifCond .eq 17, 3) := by decide +kernel
theorem dX12_ruled_50 : decode cX12_ruled 50 = .ok (.iload_n 2, 1) := by decide +kernel
theorem dX12_ruled_51 : decode cX12_ruled 51 = .ok (.ifCond .ne 8, 3) := by decide +kernel
theorem dX12_ruled_54 : decode cX12_ruled 54 = .ok (.iload 4, 2) := by decide +kernel
theorem dX12_ruled_56 : decode cX12_ruled 56 = .ok (.goto 4, 3) := by decide +kernel
theorem dX12_ruled_59 : decode cX12_ruled 59 = .ok (.iload_n 3, 1) := by decide +kernel
theorem dX12_ruled_60 : decode cX12_ruled 60 = .ok (.istore_n 3, 1) := by decide +kernel
theorem dX12_ruled_61 : decode cX12_ruled 61 = .ok (.iinc 2 1, 3) := by decide +kernel
theorem dX12_ruled_64 : decode cX12_ruled 64 = .ok (.iinc 4 1, 3) := by decide +kernel
theorem dX12_ruled_67 : decode cX12_ruled 67 = .ok (.goto (-35), 3) := by decide +kernel
theorem dX12_ruled_70 : decode cX12_ruled 70 = .ok (.iload_n 1, 1) := by decide +kernel
theorem dX12_ruled_71 : decode cX12_ruled 71 = .ok (.ifCond .ne 7, 3) := by decide +kernel
theorem dX12_ruled_74 : decode cX12_ruled 74 = .ok (.iload_n 2, 1) := by decide +kernel
theorem dX12_ruled_75 : decode cX12_ruled 75 = .ok (.goto 4, 3) := by decide +kernel
theorem dX12_ruled_78 : decode cX12_ruled 78 = .ok (.iload_n 3, 1) := by decide +kernel
theorem dX12_ruled_79 : decode cX12_ruled 79 = .ok (.ireturn, 1) := by decide +kernel
theorem dX12_mostAlike_0 : decode cX12_mostAlike 0 = .ok (.iconst 0, 1) := by decide +kernel
theorem dX12_mostAlike_1 : decode cX12_mostAlike 1 = .ok (.istore_n 3, 1) := by decide +kernel
theorem dX12_mostAlike_2 : decode cX12_mostAlike 2 = .ok (.iconst 0, 1) := by decide +kernel
theorem dX12_mostAlike_3 : decode cX12_mostAlike 3 = .ok (.istore 4, 2) := by decide +kernel
theorem dX12_mostAlike_5 : decode cX12_mostAlike 5 = .ok (.iload 4, 2) := by decide +kernel
theorem dX12_mostAlike_7 : decode cX12_mostAlike 7 = .ok (.iload_n 2, 1) := by decide +kernel
theorem dX12_mostAlike_8 : decode cX12_mostAlike 8 = .ok (.if_icmp .ge 75, 3) := by decide +kernel
theorem dX12_mostAlike_11 : decode cX12_mostAlike 11 = .ok (.iconst 0, 1) := by decide +kernel
theorem dX12_mostAlike_12 : decode cX12_mostAlike 12 = .ok (.istore 5, 2) := by decide +kernel
theorem dX12_mostAlike_14 : decode cX12_mostAlike 14 = .ok (.iconst 0, 1) := by decide +kernel
theorem dX12_mostAlike_15 : decode cX12_mostAlike 15 = .ok (.istore 6, 2) := by decide +kernel
theorem dX12_mostAlike_17 : decode cX12_mostAlike 17 = .ok (.iload 6, 2) := by decide +kernel
theorem dX12_mostAlike_19 : decode cX12_mostAlike 19 = .ok (.iload_n 2, 1) := by decide +kernel
theorem dX12_mostAlike_20 : decode cX12_mostAlike 20 = .ok (.if_icmp .ge 44, 3) := by decide +kernel
theorem dX12_mostAlike_23 : decode cX12_mostAlike 23 = .ok (.iload 5, 2) := by decide +kernel
theorem dX12_mostAlike_25 : decode cX12_mostAlike 25 = .ok (.aload_n 0, 1) := by decide +kernel
theorem dX12_mostAlike_26 : decode cX12_mostAlike 26 = .ok (.getfield 115, 3) := by decide +kernel
theorem dX12_mostAlike_29 : decode cX12_mostAlike 29 = .ok (.iconst 4, 1) := by decide +kernel
theorem dX12_mostAlike_30 : decode cX12_mostAlike 30 = .ok (.iload 6, 2) := by decide +kernel
theorem dX12_mostAlike_32 : decode cX12_mostAlike 32 = .ok (.imul, 1) := by decide +kernel
theorem dX12_mostAlike_33 : decode cX12_mostAlike 33 = .ok (.iload_n 1, 1) := by decide +kernel
theorem dX12_mostAlike_34 : decode cX12_mostAlike 34 = .ok (.iadd, 1) := by decide +kernel
theorem dX12_mostAlike_35 : decode cX12_mostAlike 35 = .ok (.iaload, 1) := by decide +kernel
theorem dX12_mostAlike_36 : decode cX12_mostAlike 36 = .ok (.aload_n 0, 1) := by decide +kernel
theorem dX12_mostAlike_37 : decode cX12_mostAlike 37 = .ok (.getfield 115, 3) := by decide +kernel
theorem dX12_mostAlike_40 : decode cX12_mostAlike 40 = .ok (.iconst 4, 1) := by decide +kernel
theorem dX12_mostAlike_41 : decode cX12_mostAlike 41 = .ok (.iload 4, 2) := by decide +kernel
theorem dX12_mostAlike_43 : decode cX12_mostAlike 43 = .ok (.imul, 1) := by decide +kernel
theorem dX12_mostAlike_44 : decode cX12_mostAlike 44 = .ok (.iload_n 1, 1) := by decide +kernel
theorem dX12_mostAlike_45 : decode cX12_mostAlike 45 = .ok (.iadd, 1) := by decide +kernel
theorem dX12_mostAlike_46 : decode cX12_mostAlike 46 = .ok (.iaload, 1) := by decide +kernel
theorem dX12_mostAlike_47 : decode cX12_mostAlike 47 = .ok (.if_icmp .ne 7, 3) := by decide +kernel
theorem dX12_mostAlike_50 : decode cX12_mostAlike 50 = .ok (.iconst 1, 1) := by decide +kernel
theorem dX12_mostAlike_51 : decode cX12_mostAlike 51 = .ok (.goto 4, 3) := by decide +kernel
theorem dX12_mostAlike_54 : decode cX12_mostAlike 54 = .ok (.iconst 0, 1) := by decide +kernel
theorem dX12_mostAlike_55 : decode cX12_mostAlike 55 = .ok (.iadd, 1) := by decide +kernel
theorem dX12_mostAlike_56 : decode cX12_mostAlike 56 = .ok (.istore 5, 2) := by decide +kernel
theorem dX12_mostAlike_58 : decode cX12_mostAlike 58 = .ok (.iinc 6 1, 3) := by decide +kernel
theorem dX12_mostAlike_61 : decode cX12_mostAlike 61 = .ok (.goto (-44), 3) := by decide +kernel
theorem dX12_mostAlike_64 : decode cX12_mostAlike 64 = .ok (.iload 5, 2) := by decide +kernel
theorem dX12_mostAlike_66 : decode cX12_mostAlike 66 = .ok (.iload_n 3, 1) := by decide +kernel
theorem dX12_mostAlike_67 : decode cX12_mostAlike 67 = .ok (.if_icmp .le 8, 3) := by decide +kernel
theorem dX12_mostAlike_70 : decode cX12_mostAlike 70 = .ok (.iload 5, 2) := by decide +kernel
theorem dX12_mostAlike_72 : decode cX12_mostAlike 72 = .ok (.goto 4, 3) := by decide +kernel
theorem dX12_mostAlike_75 : decode cX12_mostAlike 75 = .ok (.iload_n 3, 1) := by decide +kernel
theorem dX12_mostAlike_76 : decode cX12_mostAlike 76 = .ok (.istore_n 3, 1) := by decide +kernel
theorem dX12_mostAlike_77 : decode cX12_mostAlike 77 = .ok (.iinc 4 1, 3) := by decide +kernel
theorem dX12_mostAlike_80 : decode cX12_mostAlike 80 = .ok (.goto (-75), 3) := by decide +kernel
theorem dX12_mostAlike_83 : decode cX12_mostAlike 83 = .ok (.iload_n 3, 1) := by decide +kernel
theorem dX12_mostAlike_84 : decode cX12_mostAlike 84 = .ok (.ireturn, 1) := by decide +kernel
theorem dX12_look_0 : decode cX12_look 0 = .ok (.aload_n 0, 1) := by decide +kernel
theorem dX12_look_1 : decode cX12_look 1 = .ok (.invokevirtual 389, 3) := by decide +kernel
theorem dX12_look_4 : decode cX12_look 4 = .ok (.ifCond .eq 25, 3) := by decide +kernel
theorem dX12_look_7 : decode cX12_look 7 = .ok (.iload_n 1, 1) := by decide +kernel
theorem dX12_look_8 : decode cX12_look 8 = .ok (.i2l, 1) := by decide +kernel
theorem dX12_look_9 : decode cX12_look 9 = .ok (.lconst 0, 1) := by decide +kernel
theorem dX12_look_10 : decode cX12_look 10 = .ok (.ldc2_w 431, 3) := by decide +kernel
theorem dX12_look_13 : decode cX12_look 13 = .ok (.invokestatic 128, 3) := by decide +kernel
theorem dX12_look_16 : decode cX12_look 16 = .ok (.ifCond .eq 13, 3) := by decide +kernel
theorem dX12_look_19 : decode cX12_look 19 = .ok (.iload_n 2, 1) := by decide +kernel
theorem dX12_look_20 : decode cX12_look 20 = .ok (.i2l, 1) := by decide +kernel
theorem dX12_look_21 : decode cX12_look 21 = .ok (.lconst 0, 1) := by decide +kernel
theorem dX12_look_22 : decode cX12_look 22 = .ok (.lconst 1, 1) := by decide +kernel
theorem dX12_look_23 : decode cX12_look 23 = .ok (.invokestatic 128, 3) := by decide +kernel
theorem dX12_look_26 : decode cX12_look 26 = .ok (.ifCond .ne 5, 3) := by decide +kernel
theorem dX12_look_29 : decode cX12_look 29 = .ok (.iconst (-1), 1) := by decide +kernel
theorem dX12_look_30 : decode cX12_look 30 = .ok (.ireturn, 1) := by decide +kernel
theorem dX12_look_31 : decode cX12_look 31 = .ok (.aload_n 0, 1) := by decide +kernel
theorem dX12_look_32 : decode cX12_look 32 = .ok (.invokevirtual 409, 3) := by decide +kernel
theorem dX12_look_35 : decode cX12_look 35 = .ok (.iconst 0, 1) := by decide +kernel
theorem dX12_look_36 : decode cX12_look 36 = .ok (.istore_n 3, 1) := by decide +kernel
theorem dX12_look_37 : decode cX12_look 37 = .ok (.iconst (-1), 1) := by decide +kernel
theorem dX12_look_38 : decode cX12_look 38 = .ok (.istore 4, 2) := by decide +kernel
theorem dX12_look_40 : decode cX12_look 40 = .ok (.iload 4, 2) := by decide +kernel
theorem dX12_look_42 : decode cX12_look 42 = .ok (.aload_n 0, 1) := by decide +kernel
theorem dX12_look_43 : decode cX12_look 43 = .ok (.getfield 312, 3) := by decide +kernel
theorem dX12_look_46 : decode cX12_look 46 = .ok (.if_icmp .ge 58, 3) := by decide +kernel
theorem dX12_look_49 : decode cX12_look 49 = .ok (.aload_n 0, 1) := by decide +kernel
theorem dX12_look_50 : decode cX12_look 50 = .ok (.iload 4, 2) := by decide +kernel
theorem dX12_look_52 : decode cX12_look 52 = .ok (.invokevirtual 463, 3) := by decide +kernel
theorem dX12_look_55 : decode cX12_look 55 = .ok (.ifCond .eq 43, 3) := by decide +kernel
theorem dX12_look_58 : decode cX12_look 58 = .ok (.iconst 0, 1) := by decide +kernel
theorem dX12_look_59 : decode cX12_look 59 = .ok (.istore 5, 2) := by decide +kernel
theorem dX12_look_61 : decode cX12_look 61 = .ok (.iload 5, 2) := by decide +kernel
theorem dX12_look_63 : decode cX12_look 63 = .ok (.iconst 4, 1) := by decide +kernel
theorem dX12_look_64 : decode cX12_look 64 = .ok (.if_icmp .ge 31, 3) := by decide +kernel
theorem dX12_look_67 : decode cX12_look 67 = .ok (.aload_n 0, 1) := by decide +kernel
theorem dX12_look_68 : decode cX12_look 68 = .ok (.getfield 115, 3) := by decide +kernel
theorem dX12_look_71 : decode cX12_look 71 = .ok (.iconst 4, 1) := by decide +kernel
theorem dX12_look_72 : decode cX12_look 72 = .ok (.iload_n 3, 1) := by decide +kernel
theorem dX12_look_73 : decode cX12_look 73 = .ok (.imul, 1) := by decide +kernel
theorem dX12_look_74 : decode cX12_look 74 = .ok (.iload 5, 2) := by decide +kernel
theorem dX12_look_76 : decode cX12_look 76 = .ok (.iadd, 1) := by decide +kernel
theorem dX12_look_77 : decode cX12_look 77 = .ok (.aload_n 0, 1) := by decide +kernel
theorem dX12_look_78 : decode cX12_look 78 = .ok (.getfield 112, 3) := by decide +kernel
theorem dX12_look_81 : decode cX12_look 81 = .ok (.iconst 4, 1) := by decide +kernel
theorem dX12_look_82 : decode cX12_look 82 = .ok (.iload_n 1, 1) := by decide +kernel
theorem dX12_look_83 : decode cX12_look 83 = .ok (.imul, 1) := by decide +kernel
theorem dX12_look_84 : decode cX12_look 84 = .ok (.iload 5, 2) := by decide +kernel
theorem dX12_look_86 : decode cX12_look 86 = .ok (.iadd, 1) := by decide +kernel
theorem dX12_look_87 : decode cX12_look 87 = .ok (.iaload, 1) := by decide +kernel
theorem dX12_look_88 : decode cX12_look 88 = .ok (.iastore, 1) := by decide +kernel
theorem dX12_look_89 : decode cX12_look 89 = .ok (.iinc 5 1, 3) := by decide +kernel
theorem dX12_look_92 : decode cX12_look 92 = .ok (.goto (-31), 3) := by decide +kernel
theorem dX12_look_95 : decode cX12_look 95 = .ok (.iinc 3 1, 3) := by decide +kernel
theorem dX12_look_98 : decode cX12_look 98 = .ok (.iinc 4 1, 3) := by decide +kernel
theorem dX12_look_101 : decode cX12_look 101 = .ok (.goto (-61), 3) := by decide +kernel
theorem dX12_look_104 : decode cX12_look 104 = .ok (.iload_n 3, 1) := by decide +kernel
theorem dX12_look_105 : decode cX12_look 105 = .ok (.ifCond .eq 12, 3) := by decide +kernel
theorem dX12_look_108 : decode cX12_look 108 = .ok (.aload_n 0, 1) := by decide +kernel
theorem dX12_look_109 : decode cX12_look 109 = .ok (.getfield 9, 3) := by decide +kernel
theorem dX12_look_112 : decode cX12_look 112 = .ok (.iconst 3, 1) := by decide +kernel
theorem dX12_look_113 : decode cX12_look 113 = .ok (.iaload, 1) := by decide +kernel
theorem dX12_look_114 : decode cX12_look 114 = .ok (.ifCond .ne 6, 3) := by decide +kernel
theorem dX12_look_117 : decode cX12_look 117 = .ok (.bipush (-2), 2) := by decide +kernel
theorem dX12_look_119 : decode cX12_look 119 = .ok (.ireturn, 1) := by decide +kernel
theorem dX12_look_120 : decode cX12_look 120 = .ok (.iconst 0, 1) := by decide +kernel
theorem dX12_look_121 : decode cX12_look 121 = .ok (.istore 4, 2) := by decide +kernel
theorem dX12_look_123 : decode cX12_look 123 = .ok (.iconst 1, 1) := by decide +kernel
theorem dX12_look_124 : decode cX12_look 124 = .ok (.istore 5, 2) := by decide +kernel
theorem dX12_look_126 : decode cX12_look 126 = .ok (.iload 5, 2) := by decide +kernel
theorem dX12_look_128 : decode cX12_look 128 = .ok (.aload_n 0, 1) := by decide +kernel
theorem dX12_look_129 : decode cX12_look 129 = .ok (.getfield 9, 3) := by decide +kernel
theorem dX12_look_132 : decode cX12_look 132 = .ok (.iconst 3, 1) := by decide +kernel
theorem dX12_look_133 : decode cX12_look 133 = .ok (.iaload, 1) := by decide +kernel
theorem dX12_look_134 : decode cX12_look 134 = .ok (.if_icmp .ge 35, 3) := by decide +kernel
theorem dX12_look_137 : decode cX12_look 137 = .ok (.aload_n 0, 1) := by decide +kernel
theorem dX12_look_138 : decode cX12_look 138 = .ok (.iload 5, 2) := by decide +kernel
theorem dX12_look_140 : decode cX12_look 140 = .ok (.iload_n 3, 1) := by decide +kernel
theorem dX12_look_141 : decode cX12_look 141 = .ok (.invokevirtual 466, 3) := by decide +kernel
theorem dX12_look_144 : decode cX12_look 144 = .ok (.aload_n 0, 1) := by decide +kernel
theorem dX12_look_145 : decode cX12_look 145 = .ok (.iload 4, 2) := by decide +kernel
theorem dX12_look_147 : decode cX12_look 147 = .ok (.iload_n 3, 1) := by decide +kernel
theorem dX12_look_148 : decode cX12_look 148 = .ok (.invokevirtual 466, 3) := by decide +kernel
theorem dX12_look_151 : decode cX12_look 151 = .ok (.if_icmp .ge 8, 3) := by decide +kernel
theorem dX12_look_154 : decode cX12_look 154 = .ok (.iload 5, 2) := by decide +kernel
theorem dX12_look_156 : decode cX12_look 156 = .ok (.goto 5, 3) := by decide +kernel
theorem dX12_look_159 : decode cX12_look 159 = .ok (.iload 4, 2) := by decide +kernel
theorem dX12_look_161 : decode cX12_look 161 = .ok (.istore 4, 2) := by decide +kernel
theorem dX12_look_163 : decode cX12_look 163 = .ok (.iinc 5 1, 3) := by decide +kernel
theorem dX12_look_166 : decode cX12_look 166 = .ok (.goto (-40), 3) := by decide +kernel
theorem dX12_look_169 : decode cX12_look 169 = .ok (.iload_n 2, 1) := by decide +kernel
theorem dX12_look_170 : decode cX12_look 170 = .ok (.ifCond .ne 8, 3) := by decide +kernel
theorem dX12_look_173 : decode cX12_look 173 = .ok (.iload 4, 2) := by decide +kernel
theorem dX12_look_175 : decode cX12_look 175 = .ok (.goto 10, 3) := by decide +kernel
theorem dX12_look_178 : decode cX12_look 178 = .ok (.aload_n 0, 1) := by decide +kernel
theorem dX12_look_179 : decode cX12_look 179 = .ok (.iload 4, 2) := by decide +kernel
theorem dX12_look_181 : decode cX12_look 181 = .ok (.iload_n 3, 1) := by decide +kernel
theorem dX12_look_182 : decode cX12_look 182 = .ok (.invokevirtual 466, 3) := by decide +kernel
theorem dX12_look_185 : decode cX12_look 185 = .ok (.ireturn, 1) := by decide +kernel
theorem dX12_seed_0 : decode cX12_seed 0 = .ok (.iload_n 1, 1) := by decide +kernel
theorem dX12_seed_1 : decode cX12_seed 1 = .ok (.ifCond .ge 5, 3) := by decide +kernel
theorem dX12_seed_4 : decode cX12_seed 4 = .ok (.iconst (-1), 1) := by decide +kernel
theorem dX12_seed_5 : decode cX12_seed 5 = .ok (.ireturn, 1) := by decide +kernel
theorem dX12_seed_6 : decode cX12_seed 6 = .ok (.aload_n 0, 1) := by decide +kernel
theorem dX12_seed_7 : decode cX12_seed 7 = .ok (.getfield 9, 3) := by decide +kernel
theorem dX12_seed_10 : decode cX12_seed 10 = .ok (.bipush 7, 2) := by decide +kernel
theorem dX12_seed_12 : decode cX12_seed 12 = .ok (.iaload, 1) := by decide +kernel
theorem dX12_seed_13 : decode cX12_seed 13 = .ok (.istore_n 2, 1) := by decide +kernel
theorem dX12_seed_14 : decode cX12_seed 14 = .ok (.aload_n 0, 1) := by decide +kernel
theorem dX12_seed_15 : decode cX12_seed 15 = .ok (.getfield 9, 3) := by decide +kernel
theorem dX12_seed_18 : decode cX12_seed 18 = .ok (.bipush 7, 2) := by decide +kernel
theorem dX12_seed_20 : decode cX12_seed 20 = .ok (.iload_n 1, 1) := by decide +kernel
theorem dX12_seed_21 : decode cX12_seed 21 = .ok (.iastore, 1) := by decide +kernel
theorem dX12_seed_22 : decode cX12_seed 22 = .ok (.iload_n 2, 1) := by decide +kernel
theorem dX12_seed_23 : decode cX12_seed 23 = .ok (.ireturn, 1) := by decide +kernel
theorem dX12_draws_0 : decode cX12_draws 0 = .ok (.aload_n 0, 1) := by decide +kernel
theorem dX12_draws_1 : decode cX12_draws 1 = .ok (.getfield 9, 3) := by decide +kernel
theorem dX12_draws_4 : decode cX12_draws 4 = .ok (.bipush 7, 2) := by decide +kernel
theorem dX12_draws_6 : decode cX12_draws 6 = .ok (.aload_n 0, 1) := by decide +kernel
theorem dX12_draws_7 : decode cX12_draws 7 = .ok (.getfield 9, 3) := by decide +kernel
theorem dX12_draws_10 : decode cX12_draws 10 = .ok (.bipush 7, 2) := by decide +kernel
theorem dX12_draws_12 : decode cX12_draws 12 = .ok (.iaload, 1) := by decide +kernel
theorem dX12_draws_13 : decode cX12_draws 13 = .ok (.i2l, 1) := by decide +kernel
theorem dX12_draws_14 : decode cX12_draws 14 = .ok (.ldc2_w 469, 3) := by decide +kernel
theorem dX12_draws_17 : decode cX12_draws 17 = .ok (.lmul, 1) := by decide +kernel
theorem dX12_draws_18 : decode cX12_draws 18 = .ok (.ldc2_w 471, 3) := by decide +kernel
theorem dX12_draws_21 : decode cX12_draws 21 = .ok (.ladd, 1) := by decide +kernel
theorem dX12_draws_22 : decode cX12_draws 22 = .ok (.ldc2_w 473, 3) := by decide +kernel
theorem dX12_draws_25 : decode cX12_draws 25 = .ok (.lrem, 1) := by decide +kernel
theorem dX12_draws_26 : decode cX12_draws 26 = .ok (.l2i, 1) := by decide +kernel
theorem dX12_draws_27 : decode cX12_draws 27 = .ok (.iastore, 1) := by decide +kernel
theorem dX12_draws_28 : decode cX12_draws 28 = .ok (.aload_n 0, 1) := by decide +kernel
theorem dX12_draws_29 : decode cX12_draws 29 = .ok (.getfield 9, 3) := by decide +kernel
theorem dX12_draws_32 : decode cX12_draws 32 = .ok (.bipush 7, 2) := by decide +kernel
theorem dX12_draws_34 : decode cX12_draws 34 = .ok (.iaload, 1) := by decide +kernel
theorem dX12_draws_35 : decode cX12_draws 35 = .ok (.ldc_w 475, 3) := by decide +kernel
theorem dX12_draws_38 : decode cX12_draws 38 = .ok (.idiv, 1) := by decide +kernel
theorem dX12_draws_39 : decode cX12_draws 39 = .ok (.iload_n 1, 1) := by decide +kernel
theorem dX12_draws_40 : decode cX12_draws 40 = .ok (.irem, 1) := by decide +kernel
theorem dX12_draws_41 : decode cX12_draws 41 = .ok (.ireturn, 1) := by decide +kernel
theorem dX12_thieves_0 : decode cX12_thieves 0 = .ok (.aload_n 0, 1) := by decide +kernel
theorem dX12_thieves_1 : decode cX12_thieves 1 = .ok (.invokevirtual 389, 3) := by decide +kernel
theorem dX12_thieves_4 : decode cX12_thieves 4 = .ok (.ifCond .eq 50, 3) := by decide +kernel
theorem dX12_thieves_7 : decode cX12_thieves 7 = .ok (.iload_n 1, 1) := by decide +kernel
theorem dX12_thieves_8 : decode cX12_thieves 8 = .ok (.i2l, 1) := by decide +kernel
theorem dX12_thieves_9 : decode cX12_thieves 9 = .ok (.lconst 1, 1) := by decide +kernel
theorem dX12_thieves_10 : decode cX12_thieves 10 = .ok (.ldc2_w 476, 3) := by decide +kernel
theorem dX12_thieves_13 : decode cX12_thieves 13 = .ok (.invokestatic 128, 3) := by decide +kernel
theorem dX12_thieves_16 : decode cX12_thieves 16 = .ok (.ifCond .eq 38, 3) := by decide +kernel
theorem dX12_thieves_19 : decode cX12_thieves 19 = .ok (.iload_n 2, 1) := by decide +kernel
theorem dX12_thieves_20 : decode cX12_thieves 20 = .ok (.i2l, 1) := by decide +kernel
theorem dX12_thieves_21 : decode cX12_thieves 21 = .ok (.lconst 1, 1) := by decide +kernel
theorem dX12_thieves_22 : decode cX12_thieves 22 = .ok (.ldc2_w 431, 3) := by decide +kernel
theorem dX12_thieves_25 : decode cX12_thieves 25 = .ok (.invokestatic 128, 3) := by decide +kernel
theorem dX12_thieves_28 : decode cX12_thieves 28 = .ok (.ifCond .eq 26, 3) := by decide +kernel
theorem dX12_thieves_31 : decode cX12_thieves 31 = .ok (.iload_n 3, 1) := by decide +kernel
theorem dX12_thieves_32 : decode cX12_thieves 32 = .ok (.i2l, 1) := by decide +kernel
theorem dX12_thieves_33 : decode cX12_thieves 33 = .ok (.lconst 0, 1) := by decide +kernel
theorem dX12_thieves_34 : decode cX12_thieves 34 = .ok (.ldc2_w 407, 3) := by decide +kernel
theorem dX12_thieves_37 : decode cX12_thieves 37 = .ok (.invokestatic 128, 3) := by decide +kernel
theorem dX12_thieves_40 : decode cX12_thieves 40 = .ok (.ifCond .eq 14, 3) := by decide +kernel
theorem dX12_thieves_43 : decode cX12_thieves 43 = .ok (.iload 4, 2) := by decide +kernel
theorem dX12_thieves_45 : decode cX12_thieves 45 = .ok (.i2l, 1) := by decide +kernel
theorem dX12_thieves_46 : decode cX12_thieves 46 = .ok (.lconst 0, 1) := by decide +kernel
theorem dX12_thieves_47 : decode cX12_thieves 47 = .ok (.lconst 1, 1) := by decide +kernel
theorem dX12_thieves_48 : decode cX12_thieves 48 = .ok (.invokestatic 128, 3) := by decide +kernel
theorem dX12_thieves_51 : decode cX12_thieves 51 = .ok (.ifCond .ne 5, 3) := by decide +kernel
theorem dX12_thieves_54 : decode cX12_thieves 54 = .ok (.iconst (-1), 1) := by decide +kernel
theorem dX12_thieves_55 : decode cX12_thieves 55 = .ok (.ireturn, 1) := by decide +kernel
theorem dX12_thieves_56 : decode cX12_thieves 56 = .ok (.aload_n 0, 1) := by decide +kernel
theorem dX12_thieves_57 : decode cX12_thieves 57 = .ok (.getfield 9, 3) := by decide +kernel
theorem dX12_thieves_60 : decode cX12_thieves 60 = .ok (.bipush 7, 2) := by decide +kernel
theorem dX12_thieves_62 : decode cX12_thieves 62 = .ok (.iaload, 1) := by decide +kernel
theorem dX12_thieves_63 : decode cX12_thieves 63 = .ok (.istore 5, 2) := by decide +kernel
theorem dX12_thieves_65 : decode cX12_thieves 65 = .ok (.iload 5, 2) := by decide +kernel
theorem dX12_thieves_67 : decode cX12_thieves 67 = .ok (.istore 6, 2) := by decide +kernel
theorem dX12_thieves_69 : decode cX12_thieves 69 = .ok (.iconst 0, 1) := by decide +kernel
theorem dX12_thieves_70 : decode cX12_thieves 70 = .ok (.istore 7, 2) := by decide +kernel
theorem dX12_thieves_72 : decode cX12_thieves 72 = .ok (.aload_n 0, 1) := by decide +kernel
theorem dX12_thieves_73 : decode cX12_thieves 73 = .ok (.invokevirtual 409, 3) := by decide +kernel
theorem dX12_thieves_76 : decode cX12_thieves 76 = .ok (.iconst 0, 1) := by decide +kernel
theorem dX12_thieves_77 : decode cX12_thieves 77 = .ok (.istore 8, 2) := by decide +kernel
theorem dX12_thieves_79 : decode cX12_thieves 79 = .ok (.iload 8, 2) := by decide +kernel
theorem dX12_thieves_81 : decode cX12_thieves 81 = .ok (.iload_n 1, 1) := by decide +kernel
theorem dX12_thieves_82 : decode cX12_thieves 82 = .ok (.if_icmp .ge 110, 3) := by decide +kernel
theorem dX12_thieves_85 : decode cX12_thieves 85 = .ok (.aload_n 0, 1) := by decide +kernel
theorem dX12_thieves_86 : decode cX12_thieves 86 = .ok (.getfield 9, 3) := by decide +kernel
theorem dX12_thieves_89 : decode cX12_thieves 89 = .ok (.bipush 7, 2) := by decide +kernel
theorem dX12_thieves_91 : decode cX12_thieves 91 = .ok (.iload 6, 2) := by decide +kernel
theorem dX12_thieves_93 : decode cX12_thieves 93 = .ok (.iastore, 1) := by decide +kernel
theorem dX12_thieves_94 : decode cX12_thieves 94 = .ok (.iconst 0, 1) := by decide +kernel
theorem dX12_thieves_95 : decode cX12_thieves 95 = .ok (.istore 9, 2) := by decide +kernel
theorem dX12_thieves_97 : decode cX12_thieves 97 = .ok (.iload 9, 2) := by decide +kernel
theorem dX12_thieves_99 : decode cX12_thieves 99 = .ok (.iload_n 2, 1) := by decide +kernel
theorem dX12_thieves_100 : decode cX12_thieves 100 = .ok (.if_icmp .ge 49, 3) := by decide +kernel
theorem dX12_thieves_103 : decode cX12_thieves 103 = .ok (.aload_n 0, 1) := by decide +kernel
theorem dX12_thieves_104 : decode cX12_thieves 104 = .ok (.bipush 100, 2) := by decide +kernel
theorem dX12_thieves_106 : decode cX12_thieves 106 = .ok (.invokevirtual 478, 3) := by decide +kernel
theorem dX12_thieves_109 : decode cX12_thieves 109 = .ok (.iload_n 3, 1) := by decide +kernel
theorem dX12_thieves_110 : decode cX12_thieves 110 = .ok (.if_icmp .ge 28, 3) := by decide +kernel
theorem dX12_thieves_113 : decode cX12_thieves 113 = .ok (.aload_n 0, 1) := by decide +kernel
theorem dX12_thieves_114 : decode cX12_thieves 114 = .ok (.getfield 9, 3) := by decide +kernel
theorem dX12_thieves_117 : decode cX12_thieves 117 = .ok (.iconst 4, 1) := by decide +kernel
theorem dX12_thieves_118 : decode cX12_thieves 118 = .ok (.iaload, 1) := by decide +kernel
theorem dX12_thieves_119 : decode cX12_thieves 119 = .ok (.ifCond .le 19, 3) := by decide +kernel
theorem dX12_thieves_122 : decode cX12_thieves 122 = .ok (.aload_n 0, 1) := by decide +kernel
theorem dX12_thieves_123 : decode cX12_thieves 123 = .ok (.getfield 19, 3) := by decide +kernel
theorem dX12_thieves_126 : decode cX12_thieves 126 = .ok (.aload_n 0, 1) := by decide +kernel
theorem dX12_thieves_127 : decode cX12_thieves 127 = .ok (.aload_n 0, 1) := by decide +kernel
theorem dX12_thieves_128 : decode cX12_thieves 128 = .ok (.getfield 9, 3) := by decide +kernel
theorem dX12_thieves_131 : decode cX12_thieves 131 = .ok (.iconst 4, 1) := by decide +kernel
theorem dX12_thieves_132 : decode cX12_thieves 132 = .ok (.iaload, 1) := by decide +kernel
theorem dX12_thieves_133 : decode cX12_thieves 133 = .ok (.invokevirtual 478, 3) := by decide +kernel
theorem dX12_thieves_136 : decode cX12_thieves 136 = .ok (.iconst (-1), 1) := by decide +kernel
theorem dX12_thieves_137 : decode cX12_thieves 137 = .ok (.iastore, 1) := by decide +kernel
theorem dX12_thieves_138 : decode cX12_thieves 138 = .ok (.aload_n 0, 1) := by decide +kernel
theorem dX12_thieves_139 : decode cX12_thieves 139 = .ok (.invokevirtual 368, 3) := by decide +kernel
theorem dX12_thieves_142 : decode cX12_thieves 142 = .ok (.pop, 1) := by decide +kernel
theorem dX12_thieves_143 : decode cX12_thieves 143 = .ok (.iinc 9 1, 3) := by decide +kernel
theorem dX12_thieves_146 : decode cX12_thieves 146 = .ok (.goto (-49), 3) := by decide +kernel
theorem dX12_thieves_149 : decode cX12_thieves 149 = .ok (.iload 7, 2) := by decide +kernel
theorem dX12_thieves_151 : decode cX12_thieves 151 = .ok (.iload 4, 2) := by decide +kernel
theorem dX12_thieves_153 : decode cX12_thieves 153 = .ok (.ifCond .ne 10, 3) := by decide +kernel
theorem dX12_thieves_156 : decode cX12_thieves 156 = .ok (.aload_n 0, 1) := by decide +kernel
theorem dX12_thieves_157 : decode cX12_thieves 157 = .ok (.invokevirtual 418, 3) := by decide +kernel
theorem dX12_thieves_160 : decode cX12_thieves 160 = .ok (.goto 10, 3) := by decide +kernel
theorem dX12_thieves_163 : decode cX12_thieves 163 = .ok (.aload_n 0, 1) := by decide +kernel
theorem dX12_thieves_164 : decode cX12_thieves 164 = .ok (.invokevirtual 481, 3) := by decide +kernel
theorem dX12_thieves_167 : decode cX12_thieves 167 = .ok (.invokestatic 355, 3) := by decide +kernel
theorem dX12_thieves_170 : decode cX12_thieves 170 = .ok (.iadd, 1) := by decide +kernel
theorem dX12_thieves_171 : decode cX12_thieves 171 = .ok (.istore 7, 2) := by decide +kernel
theorem dX12_thieves_173 : decode cX12_thieves 173 = .ok (.aload_n 0, 1) := by decide +kernel
theorem dX12_thieves_174 : decode cX12_thieves 174 = .ok (.getfield 9, 3) := by decide +kernel
theorem dX12_thieves_177 : decode cX12_thieves 177 = .ok (.bipush 7, 2) := by decide +kernel
theorem dX12_thieves_179 : decode cX12_thieves 179 = .ok (.iaload, 1) := by decide +kernel
theorem dX12_thieves_180 : decode cX12_thieves 180 = .ok (.istore 6, 2) := by decide +kernel
theorem dX12_thieves_182 : decode cX12_thieves 182 = .ok (.aload_n 0, 1) := by decide +kernel
theorem dX12_thieves_183 : decode cX12_thieves 183 = .ok (.invokevirtual 415, 3) := by decide +kernel
theorem dX12_thieves_186 : decode cX12_thieves 186 = .ok (.iinc 8 1, 3) := by decide +kernel
theorem dX12_thieves_189 : decode cX12_thieves 189 = .ok (.goto (-110), 3) := by decide +kernel
theorem dX12_thieves_192 : decode cX12_thieves 192 = .ok (.aload_n 0, 1) := by decide +kernel
theorem dX12_thieves_193 : decode cX12_thieves 193 = .ok (.getfield 9, 3) := by decide +kernel
theorem dX12_thieves_196 : decode cX12_thieves 196 = .ok (.bipush 7, 2) := by decide +kernel
theorem dX12_thieves_198 : decode cX12_thieves 198 = .ok (.iload 5, 2) := by decide +kernel
theorem dX12_thieves_200 : decode cX12_thieves 200 = .ok (.iastore, 1) := by decide +kernel
theorem dX12_thieves_201 : decode cX12_thieves 201 = .ok (.iload 7, 2) := by decide +kernel
theorem dX12_thieves_203 : decode cX12_thieves 203 = .ok (.ireturn, 1) := by decide +kernel
theorem dX12_count_0 : decode cX12_count 0 = .ok (.iload_n 1, 1) := by decide +kernel
theorem dX12_count_1 : decode cX12_count 1 = .ok (.tableswitch 161 0 13 #[71, 78, 85, 92, 99, 104, 112, 119, 124, 129, 135, 143, 148, 156], 71) := by decide +kernel
theorem dX12_count_72 : decode cX12_count 72 = .ok (.aload_n 0, 1) := by decide +kernel
theorem dX12_count_73 : decode cX12_count 73 = .ok (.getfield 9, 3) := by decide +kernel
theorem dX12_count_76 : decode cX12_count 76 = .ok (.iconst 1, 1) := by decide +kernel
theorem dX12_count_77 : decode cX12_count 77 = .ok (.iaload, 1) := by decide +kernel
theorem dX12_count_78 : decode cX12_count 78 = .ok (.ireturn, 1) := by decide +kernel
theorem dX12_count_79 : decode cX12_count 79 = .ok (.aload_n 0, 1) := by decide +kernel
theorem dX12_count_80 : decode cX12_count 80 = .ok (.getfield 9, 3) := by decide +kernel
theorem dX12_count_83 : decode cX12_count 83 = .ok (.iconst 2, 1) := by decide +kernel
theorem dX12_count_84 : decode cX12_count 84 = .ok (.iaload, 1) := by decide +kernel
theorem dX12_count_85 : decode cX12_count 85 = .ok (.ireturn, 1) := by decide +kernel
theorem dX12_count_86 : decode cX12_count 86 = .ok (.aload_n 0, 1) := by decide +kernel
theorem dX12_count_87 : decode cX12_count 87 = .ok (.getfield 9, 3) := by decide +kernel
theorem dX12_count_90 : decode cX12_count 90 = .ok (.iconst 3, 1) := by decide +kernel
theorem dX12_count_91 : decode cX12_count 91 = .ok (.iaload, 1) := by decide +kernel
theorem dX12_count_92 : decode cX12_count 92 = .ok (.ireturn, 1) := by decide +kernel
theorem dX12_count_93 : decode cX12_count 93 = .ok (.aload_n 0, 1) := by decide +kernel
theorem dX12_count_94 : decode cX12_count 94 = .ok (.getfield 9, 3) := by decide +kernel
theorem dX12_count_97 : decode cX12_count 97 = .ok (.iconst 4, 1) := by decide +kernel
theorem dX12_count_98 : decode cX12_count 98 = .ok (.iaload, 1) := by decide +kernel
theorem dX12_count_99 : decode cX12_count 99 = .ok (.ireturn, 1) := by decide +kernel
theorem dX12_count_100 : decode cX12_count 100 = .ok (.aload_n 0, 1) := by decide +kernel
theorem dX12_count_101 : decode cX12_count 101 = .ok (.getfield 312, 3) := by decide +kernel
theorem dX12_count_104 : decode cX12_count 104 = .ok (.ireturn, 1) := by decide +kernel
theorem dX12_count_105 : decode cX12_count 105 = .ok (.aload_n 0, 1) := by decide +kernel
theorem dX12_count_106 : decode cX12_count 106 = .ok (.getfield 9, 3) := by decide +kernel
theorem dX12_count_109 : decode cX12_count 109 = .ok (.bipush 8, 2) := by decide +kernel
theorem dX12_count_111 : decode cX12_count 111 = .ok (.iaload, 1) := by decide +kernel
theorem dX12_count_112 : decode cX12_count 112 = .ok (.ireturn, 1) := by decide +kernel
theorem dX12_count_113 : decode cX12_count 113 = .ok (.aload_n 0, 1) := by decide +kernel
theorem dX12_count_114 : decode cX12_count 114 = .ok (.getfield 9, 3) := by decide +kernel
theorem dX12_count_117 : decode cX12_count 117 = .ok (.iconst 5, 1) := by decide +kernel
theorem dX12_count_118 : decode cX12_count 118 = .ok (.iaload, 1) := by decide +kernel
theorem dX12_count_119 : decode cX12_count 119 = .ok (.ireturn, 1) := by decide +kernel
theorem dX12_count_120 : decode cX12_count 120 = .ok (.aload_n 0, 1) := by decide +kernel
theorem dX12_count_121 : decode cX12_count 121 = .ok (.invokevirtual 481, 3) := by decide +kernel
theorem dX12_count_124 : decode cX12_count 124 = .ok (.ireturn, 1) := by decide +kernel
theorem dX12_count_125 : decode cX12_count 125 = .ok (.aload_n 0, 1) := by decide +kernel
theorem dX12_count_126 : decode cX12_count 126 = .ok (.invokevirtual 418, 3) := by decide +kernel
theorem dX12_count_129 : decode cX12_count 129 = .ok (.ireturn, 1) := by decide +kernel
theorem dX12_count_130 : decode cX12_count 130 = .ok (.aload_n 0, 1) := by decide +kernel
theorem dX12_count_131 : decode cX12_count 131 = .ok (.iconst (-1), 1) := by decide +kernel
theorem dX12_count_132 : decode cX12_count 132 = .ok (.invokevirtual 338, 3) := by decide +kernel
theorem dX12_count_135 : decode cX12_count 135 = .ok (.ireturn, 1) := by decide +kernel
theorem dX12_count_136 : decode cX12_count 136 = .ok (.aload_n 0, 1) := by decide +kernel
theorem dX12_count_137 : decode cX12_count 137 = .ok (.getfield 9, 3) := by decide +kernel
theorem dX12_count_140 : decode cX12_count 140 = .ok (.bipush 6, 2) := by decide +kernel
theorem dX12_count_142 : decode cX12_count 142 = .ok (.iaload, 1) := by decide +kernel
theorem dX12_count_143 : decode cX12_count 143 = .ok (.ireturn, 1) := by decide +kernel
theorem dX12_count_144 : decode cX12_count 144 = .ok (.aload_n 0, 1) := by decide +kernel
theorem dX12_count_145 : decode cX12_count 145 = .ok (.getfield 299, 3) := by decide +kernel
theorem dX12_count_148 : decode cX12_count 148 = .ok (.ireturn, 1) := by decide +kernel
theorem dX12_count_149 : decode cX12_count 149 = .ok (.aload_n 0, 1) := by decide +kernel
theorem dX12_count_150 : decode cX12_count 150 = .ok (.getfield 9, 3) := by decide +kernel
theorem dX12_count_153 : decode cX12_count 153 = .ok (.bipush 7, 2) := by decide +kernel
theorem dX12_count_155 : decode cX12_count 155 = .ok (.iaload, 1) := by decide +kernel
theorem dX12_count_156 : decode cX12_count 156 = .ok (.ireturn, 1) := by decide +kernel
theorem dX12_count_157 : decode cX12_count 157 = .ok (.aload_n 0, 1) := by decide +kernel
theorem dX12_count_158 : decode cX12_count 158 = .ok (.getfield 132, 3) := by decide +kernel
theorem dX12_count_161 : decode cX12_count 161 = .ok (.ireturn, 1) := by decide +kernel
theorem dX12_count_162 : decode cX12_count 162 = .ok (.iconst (-1), 1) := by decide +kernel
theorem dX12_count_163 : decode cX12_count 163 = .ok (.ireturn, 1) := by decide +kernel
theorem dX12_carryRow_0 : decode cX12_carryRow 0 = .ok (.iconst 0, 1) := by decide +kernel
theorem dX12_carryRow_1 : decode cX12_carryRow 1 = .ok (.istore_n 2, 1) := by decide +kernel
theorem dX12_carryRow_2 : decode cX12_carryRow 2 = .ok (.iload_n 2, 1) := by decide +kernel
theorem dX12_carryRow_3 : decode cX12_carryRow 3 = .ok (.aload_n 1, 1) := by decide +kernel
theorem dX12_carryRow_4 : decode cX12_carryRow 4 = .ok (.arraylength, 1) := by decide +kernel
theorem dX12_carryRow_5 : decode cX12_carryRow 5 = .ok (.if_icmp .ge 53, 3) := by decide +kernel
theorem dX12_carryRow_8 : decode cX12_carryRow 8 = .ok (.aload_n 0, 1) := by decide +kernel
theorem dX12_carryRow_9 : decode cX12_carryRow 9 = .ok (.getfield 484, 3) := by decide +kernel
theorem dX12_carryRow_12 : decode cX12_carryRow 12 = .ok (.ifCond .eq 18, 3) := by decide +kernel
theorem dX12_carryRow_15 : decode cX12_carryRow 15 = .ok (.aload_n 1, 1) := by decide +kernel
theorem dX12_carryRow_16 : decode cX12_carryRow 16 = .ok (.iload_n 2, 1) := by decide +kernel
theorem dX12_carryRow_17 : decode cX12_carryRow 17 = .ok (.aload_n 0, 1) := by decide +kernel
theorem dX12_carryRow_18 : decode cX12_carryRow 18 = .ok (.getfield 118, 3) := by decide +kernel
theorem dX12_carryRow_21 : decode cX12_carryRow 21 = .ok (.aload_n 0, 1) := by decide +kernel
theorem dX12_carryRow_22 : decode cX12_carryRow 22 = .ok (.getfield 487, 3) := by decide +kernel
theorem dX12_carryRow_25 : decode cX12_carryRow 25 = .ok (.iaload, 1) := by decide +kernel
theorem dX12_carryRow_26 : decode cX12_carryRow 26 = .ok (.iastore, 1) := by decide +kernel
theorem dX12_carryRow_27 : decode cX12_carryRow 27 = .ok (.goto 15, 3) := by decide +kernel
theorem dX12_carryRow_30 : decode cX12_carryRow 30 = .ok (.aload_n 0, 1) := by decide +kernel
theorem dX12_carryRow_31 : decode cX12_carryRow 31 = .ok (.getfield 118, 3) := by decide +kernel
theorem dX12_carryRow_34 : decode cX12_carryRow 34 = .ok (.aload_n 0, 1) := by decide +kernel
theorem dX12_carryRow_35 : decode cX12_carryRow 35 = .ok (.getfield 487, 3) := by decide +kernel
theorem dX12_carryRow_38 : decode cX12_carryRow 38 = .ok (.aload_n 1, 1) := by decide +kernel
theorem dX12_carryRow_39 : decode cX12_carryRow 39 = .ok (.iload_n 2, 1) := by decide +kernel
theorem dX12_carryRow_40 : decode cX12_carryRow 40 = .ok (.iaload, 1) := by decide +kernel
theorem dX12_carryRow_41 : decode cX12_carryRow 41 = .ok (.iastore, 1) := by decide +kernel
theorem dX12_carryRow_42 : decode cX12_carryRow 42 = .ok (.aload_n 0, 1) := by decide +kernel
theorem dX12_carryRow_43 : decode cX12_carryRow 43 = .ok (.dup, 1) := by decide +kernel
theorem dX12_carryRow_44 : decode cX12_carryRow 44 = .ok (.getfield 487, 3) := by decide +kernel
theorem dX12_carryRow_47 : decode cX12_carryRow 47 = .ok (.iconst 1, 1) := by decide +kernel
theorem dX12_carryRow_48 : decode cX12_carryRow 48 = .ok (.iadd, 1) := by decide +kernel
theorem dX12_carryRow_49 : decode cX12_carryRow 49 = .ok (.putfield 487, 3) := by decide +kernel
theorem dX12_carryRow_52 : decode cX12_carryRow 52 = .ok (.iinc 2 1, 3) := by decide +kernel
theorem dX12_carryRow_55 : decode cX12_carryRow 55 = .ok (.goto (-53), 3) := by decide +kernel
theorem dX12_carryRow_58 : decode cX12_carryRow 58 = .ok (.return_, 1) := by decide +kernel
theorem dX12_carriesAll_0 : decode cX12_carriesAll 0 = .ok (.aload_n 0, 1) := by decide +kernel
theorem dX12_carriesAll_1 : decode cX12_carriesAll 1 = .ok (.sipush 450, 3) := by decide +kernel
theorem dX12_carriesAll_4 : decode cX12_carriesAll 4 = .ok (.iload_n 1, 1) := by decide +kernel
theorem dX12_carriesAll_5 : decode cX12_carriesAll 5 = .ok (.imul, 1) := by decide +kernel
theorem dX12_carriesAll_6 : decode cX12_carriesAll 6 = .ok (.putfield 487, 3) := by decide +kernel
theorem dX12_carriesAll_9 : decode cX12_carriesAll 9 = .ok (.aload_n 0, 1) := by decide +kernel
theorem dX12_carriesAll_10 : decode cX12_carriesAll 10 = .ok (.iload_n 2, 1) := by decide +kernel
theorem dX12_carriesAll_11 : decode cX12_carriesAll 11 = .ok (.putfield 484, 3) := by decide +kernel
theorem dX12_carriesAll_14 : decode cX12_carriesAll 14 = .ok (.aload_n 0, 1) := by decide +kernel
theorem dX12_carriesAll_15 : decode cX12_carriesAll 15 = .ok (.aload_n 0, 1) := by decide +kernel
theorem dX12_carriesAll_16 : decode cX12_carriesAll 16 = .ok (.getfield 9, 3) := by decide +kernel
theorem dX12_carriesAll_19 : decode cX12_carriesAll 19 = .ok (.invokevirtual 490, 3) := by decide +kernel
theorem dX12_carriesAll_22 : decode cX12_carriesAll 22 = .ok (.aload_n 0, 1) := by decide +kernel
theorem dX12_carriesAll_23 : decode cX12_carriesAll 23 = .ok (.aload_n 0, 1) := by decide +kernel
theorem dX12_carriesAll_24 : decode cX12_carriesAll 24 = .ok (.getfield 13, 3) := by decide +kernel
theorem dX12_carriesAll_27 : decode cX12_carriesAll 27 = .ok (.invokevirtual 490, 3) := by decide +kernel
theorem dX12_carriesAll_30 : decode cX12_carriesAll 30 = .ok (.aload_n 0, 1) := by decide +kernel
theorem dX12_carriesAll_31 : decode cX12_carriesAll 31 = .ok (.aload_n 0, 1) := by decide +kernel
theorem dX12_carriesAll_32 : decode cX12_carriesAll 32 = .ok (.getfield 16, 3) := by decide +kernel
theorem dX12_carriesAll_35 : decode cX12_carriesAll 35 = .ok (.invokevirtual 490, 3) := by decide +kernel
theorem dX12_carriesAll_38 : decode cX12_carriesAll 38 = .ok (.aload_n 0, 1) := by decide +kernel
theorem dX12_carriesAll_39 : decode cX12_carriesAll 39 = .ok (.aload_n 0, 1) := by decide +kernel
theorem dX12_carriesAll_40 : decode cX12_carriesAll 40 = .ok (.getfield 19, 3) := by decide +kernel
theorem dX12_carriesAll_43 : decode cX12_carriesAll 43 = .ok (.invokevirtual 490, 3) := by decide +kernel
theorem dX12_carriesAll_46 : decode cX12_carriesAll 46 = .ok (.iload_n 1, 1) := by decide +kernel
theorem dX12_carriesAll_47 : decode cX12_carriesAll 47 = .ok (.iconst 4, 1) := by decide +kernel
theorem dX12_carriesAll_48 : decode cX12_carriesAll 48 = .ok (.if_icmp .ne 4, 3) := by decide +kernel
theorem dX12_carriesAll_51 : decode cX12_carriesAll 51 = .ok (.return_, 1) := by decide +kernel
theorem dX12_carriesAll_52 : decode cX12_carriesAll 52 = .ok (.aload_n 0, 1) := by decide +kernel
theorem dX12_carriesAll_53 : decode cX12_carriesAll 53 = .ok (.getfield 103, 3) := by decide +kernel
theorem dX12_carriesAll_56 : decode cX12_carriesAll 56 = .ok (.iconst 0, 1) := by decide +kernel
theorem dX12_carriesAll_57 : decode cX12_carriesAll 57 = .ok (.aload_n 0, 1) := by decide +kernel
theorem dX12_carriesAll_58 : decode cX12_carriesAll 58 = .ok (.getfield 299, 3) := by decide +kernel
theorem dX12_carriesAll_61 : decode cX12_carriesAll 61 = .ok (.iastore, 1) := by decide +kernel
theorem dX12_carriesAll_62 : decode cX12_carriesAll 62 = .ok (.aload_n 0, 1) := by decide +kernel
theorem dX12_carriesAll_63 : decode cX12_carriesAll 63 = .ok (.aload_n 0, 1) := by decide +kernel
theorem dX12_carriesAll_64 : decode cX12_carriesAll 64 = .ok (.getfield 103, 3) := by decide +kernel
theorem dX12_carriesAll_67 : decode cX12_carriesAll 67 = .ok (.invokevirtual 490, 3) := by decide +kernel
theorem dX12_carriesAll_70 : decode cX12_carriesAll 70 = .ok (.aload_n 0, 1) := by decide +kernel
theorem dX12_carriesAll_71 : decode cX12_carriesAll 71 = .ok (.aload_n 0, 1) := by decide +kernel
theorem dX12_carriesAll_72 : decode cX12_carriesAll 72 = .ok (.getfield 103, 3) := by decide +kernel
theorem dX12_carriesAll_75 : decode cX12_carriesAll 75 = .ok (.iconst 0, 1) := by decide +kernel
theorem dX12_carriesAll_76 : decode cX12_carriesAll 76 = .ok (.iaload, 1) := by decide +kernel
theorem dX12_carriesAll_77 : decode cX12_carriesAll 77 = .ok (.putfield 299, 3) := by decide +kernel
theorem dX12_carriesAll_80 : decode cX12_carriesAll 80 = .ok (.aload_n 0, 1) := by decide +kernel
theorem dX12_carriesAll_81 : decode cX12_carriesAll 81 = .ok (.aload_n 0, 1) := by decide +kernel
theorem dX12_carriesAll_82 : decode cX12_carriesAll 82 = .ok (.getfield 22, 3) := by decide +kernel
theorem dX12_carriesAll_85 : decode cX12_carriesAll 85 = .ok (.invokevirtual 490, 3) := by decide +kernel
theorem dX12_carriesAll_88 : decode cX12_carriesAll 88 = .ok (.aload_n 0, 1) := by decide +kernel
theorem dX12_carriesAll_89 : decode cX12_carriesAll 89 = .ok (.aload_n 0, 1) := by decide +kernel
theorem dX12_carriesAll_90 : decode cX12_carriesAll 90 = .ok (.getfield 25, 3) := by decide +kernel
theorem dX12_carriesAll_93 : decode cX12_carriesAll 93 = .ok (.invokevirtual 490, 3) := by decide +kernel
theorem dX12_carriesAll_96 : decode cX12_carriesAll 96 = .ok (.aload_n 0, 1) := by decide +kernel
theorem dX12_carriesAll_97 : decode cX12_carriesAll 97 = .ok (.aload_n 0, 1) := by decide +kernel
theorem dX12_carriesAll_98 : decode cX12_carriesAll 98 = .ok (.getfield 28, 3) := by decide +kernel
theorem dX12_carriesAll_101 : decode cX12_carriesAll 101 = .ok (.invokevirtual 490, 3) := by decide +kernel
theorem dX12_carriesAll_104 : decode cX12_carriesAll 104 = .ok (.aload_n 0, 1) := by decide +kernel
theorem dX12_carriesAll_105 : decode cX12_carriesAll 105 = .ok (.aload_n 0, 1) := by decide +kernel
theorem dX12_carriesAll_106 : decode cX12_carriesAll 106 = .ok (.getfield 31, 3) := by decide +kernel
theorem dX12_carriesAll_109 : decode cX12_carriesAll 109 = .ok (.invokevirtual 490, 3) := by decide +kernel
theorem dX12_carriesAll_112 : decode cX12_carriesAll 112 = .ok (.aload_n 0, 1) := by decide +kernel
theorem dX12_carriesAll_113 : decode cX12_carriesAll 113 = .ok (.aload_n 0, 1) := by decide +kernel
theorem dX12_carriesAll_114 : decode cX12_carriesAll 114 = .ok (.getfield 34, 3) := by decide +kernel
theorem dX12_carriesAll_117 : decode cX12_carriesAll 117 = .ok (.invokevirtual 490, 3) := by decide +kernel
theorem dX12_carriesAll_120 : decode cX12_carriesAll 120 = .ok (.aload_n 0, 1) := by decide +kernel
theorem dX12_carriesAll_121 : decode cX12_carriesAll 121 = .ok (.aload_n 0, 1) := by decide +kernel
theorem dX12_carriesAll_122 : decode cX12_carriesAll 122 = .ok (.getfield 37, 3) := by decide +kernel
theorem dX12_carriesAll_125 : decode cX12_carriesAll 125 = .ok (.invokevirtual 490, 3) := by decide +kernel
theorem dX12_carriesAll_128 : decode cX12_carriesAll 128 = .ok (.aload_n 0, 1) := by decide +kernel
theorem dX12_carriesAll_129 : decode cX12_carriesAll 129 = .ok (.aload_n 0, 1) := by decide +kernel
theorem dX12_carriesAll_130 : decode cX12_carriesAll 130 = .ok (.getfield 40, 3) := by decide +kernel
theorem dX12_carriesAll_133 : decode cX12_carriesAll 133 = .ok (.invokevirtual 490, 3) := by decide +kernel
theorem dX12_carriesAll_136 : decode cX12_carriesAll 136 = .ok (.aload_n 0, 1) := by decide +kernel
theorem dX12_carriesAll_137 : decode cX12_carriesAll 137 = .ok (.aload_n 0, 1) := by decide +kernel
theorem dX12_carriesAll_138 : decode cX12_carriesAll 138 = .ok (.getfield 43, 3) := by decide +kernel
theorem dX12_carriesAll_141 : decode cX12_carriesAll 141 = .ok (.invokevirtual 490, 3) := by decide +kernel
theorem dX12_carriesAll_144 : decode cX12_carriesAll 144 = .ok (.aload_n 0, 1) := by decide +kernel
theorem dX12_carriesAll_145 : decode cX12_carriesAll 145 = .ok (.aload_n 0, 1) := by decide +kernel
theorem dX12_carriesAll_146 : decode cX12_carriesAll 146 = .ok (.getfield 100, 3) := by decide +kernel
theorem dX12_carriesAll_149 : decode cX12_carriesAll 149 = .ok (.invokevirtual 490, 3) := by decide +kernel
theorem dX12_carriesAll_152 : decode cX12_carriesAll 152 = .ok (.return_, 1) := by decide +kernel
theorem dX12_image_0 : decode cX12_image 0 = .ok (.iload_n 1, 1) := by decide +kernel
theorem dX12_image_1 : decode cX12_image 1 = .ok (.i2l, 1) := by decide +kernel
theorem dX12_image_2 : decode cX12_image 2 = .ok (.lconst 0, 1) := by decide +kernel
theorem dX12_image_3 : decode cX12_image 3 = .ok (.ldc2_w 493, 3) := by decide +kernel
theorem dX12_image_6 : decode cX12_image 6 = .ok (.invokestatic 128, 3) := by decide +kernel
theorem dX12_image_9 : decode cX12_image 9 = .ok (.ifCond .ne 5, 3) := by decide +kernel
theorem dX12_image_12 : decode cX12_image 12 = .ok (.iconst (-1), 1) := by decide +kernel
theorem dX12_image_13 : decode cX12_image 13 = .ok (.ireturn, 1) := by decide +kernel
theorem dX12_image_14 : decode cX12_image 14 = .ok (.aload_n 0, 1) := by decide +kernel
theorem dX12_image_15 : decode cX12_image 15 = .ok (.getfield 121, 3) := by decide +kernel
theorem dX12_image_18 : decode cX12_image 18 = .ok (.iload_n 1, 1) := by decide +kernel
theorem dX12_image_19 : decode cX12_image 19 = .ok (.iconst 1, 1) := by decide +kernel
theorem dX12_image_20 : decode cX12_image 20 = .ok (.bastore, 1) := by decide +kernel
theorem dX12_image_21 : decode cX12_image 21 = .ok (.aload_n 0, 1) := by decide +kernel
theorem dX12_image_22 : decode cX12_image 22 = .ok (.iload_n 1, 1) := by decide +kernel
theorem dX12_image_23 : decode cX12_image 23 = .ok (.iconst 0, 1) := by decide +kernel
theorem dX12_image_24 : decode cX12_image 24 = .ok (.invokevirtual 404, 3) := by decide +kernel
theorem dX12_image_27 : decode cX12_image 27 = .ok (.aload_n 0, 1) := by decide +kernel
theorem dX12_image_28 : decode cX12_image 28 = .ok (.getfield 9, 3) := by decide +kernel
theorem dX12_image_31 : decode cX12_image 31 = .ok (.iconst 5, 1) := by decide +kernel
theorem dX12_image_32 : decode cX12_image 32 = .ok (.iaload, 1) := by decide +kernel
theorem dX12_image_33 : decode cX12_image 33 = .ok (.ireturn, 1) := by decide +kernel
theorem dX12_back_0 : decode cX12_back 0 = .ok (.iload_n 1, 1) := by decide +kernel
theorem dX12_back_1 : decode cX12_back 1 = .ok (.i2l, 1) := by decide +kernel
theorem dX12_back_2 : decode cX12_back 2 = .ok (.lconst 0, 1) := by decide +kernel
theorem dX12_back_3 : decode cX12_back 3 = .ok (.ldc2_w 493, 3) := by decide +kernel
theorem dX12_back_6 : decode cX12_back 6 = .ok (.invokestatic 128, 3) := by decide +kernel
theorem dX12_back_9 : decode cX12_back 9 = .ok (.ifCond .eq 12, 3) := by decide +kernel
theorem dX12_back_12 : decode cX12_back 12 = .ok (.aload_n 0, 1) := by decide +kernel
theorem dX12_back_13 : decode cX12_back 13 = .ok (.getfield 121, 3) := by decide +kernel
theorem dX12_back_16 : decode cX12_back 16 = .ok (.iload_n 1, 1) := by decide +kernel
theorem dX12_back_17 : decode cX12_back 17 = .ok (.baload, 1) := by decide +kernel
theorem dX12_back_18 : decode cX12_back 18 = .ok (.ifCond .ne 5, 3) := by decide +kernel
theorem dX12_back_21 : decode cX12_back 21 = .ok (.iconst (-1), 1) := by decide +kernel
theorem dX12_back_22 : decode cX12_back 22 = .ok (.ireturn, 1) := by decide +kernel
theorem dX12_back_23 : decode cX12_back 23 = .ok (.aload_n 0, 1) := by decide +kernel
theorem dX12_back_24 : decode cX12_back 24 = .ok (.iload_n 1, 1) := by decide +kernel
theorem dX12_back_25 : decode cX12_back 25 = .ok (.iconst 1, 1) := by decide +kernel
theorem dX12_back_26 : decode cX12_back 26 = .ok (.invokevirtual 404, 3) := by decide +kernel
theorem dX12_back_29 : decode cX12_back 29 = .ok (.aload_n 0, 1) := by decide +kernel
theorem dX12_back_30 : decode cX12_back 30 = .ok (.getfield 9, 3) := by decide +kernel
theorem dX12_back_33 : decode cX12_back 33 = .ok (.iconst 5, 1) := by decide +kernel
theorem dX12_back_34 : decode cX12_back 34 = .ok (.iaload, 1) := by decide +kernel
theorem dX12_back_35 : decode cX12_back 35 = .ok (.ireturn, 1) := by decide +kernel
theorem dJ6_bitCount_0f7a4_0 : decode cJ6_bitCount_0f7a4 0 = .ok (.iload_n 0, 1) := by decide +kernel
theorem dJ6_bitCount_0f7a4_1 : decode cJ6_bitCount_0f7a4 1 = .ok (.iload_n 0, 1) := by decide +kernel
theorem dJ6_bitCount_0f7a4_2 : decode cJ6_bitCount_0f7a4 2 = .ok (.iconst 1, 1) := by decide +kernel
theorem dJ6_bitCount_0f7a4_3 : decode cJ6_bitCount_0f7a4 3 = .ok (.iushr, 1) := by decide +kernel
theorem dJ6_bitCount_0f7a4_4 : decode cJ6_bitCount_0f7a4 4 = .ok (.ldc_w 265, 3) := by decide +kernel
theorem dJ6_bitCount_0f7a4_7 : decode cJ6_bitCount_0f7a4 7 = .ok (.iand, 1) := by decide +kernel
theorem dJ6_bitCount_0f7a4_8 : decode cJ6_bitCount_0f7a4 8 = .ok (.isub, 1) := by decide +kernel
theorem dJ6_bitCount_0f7a4_9 : decode cJ6_bitCount_0f7a4 9 = .ok (.istore_n 0, 1) := by decide +kernel
theorem dJ6_bitCount_0f7a4_10 : decode cJ6_bitCount_0f7a4 10 = .ok (.iload_n 0, 1) := by decide +kernel
theorem dJ6_bitCount_0f7a4_11 : decode cJ6_bitCount_0f7a4 11 = .ok (.ldc_w 266, 3) := by decide +kernel
theorem dJ6_bitCount_0f7a4_14 : decode cJ6_bitCount_0f7a4 14 = .ok (.iand, 1) := by decide +kernel
theorem dJ6_bitCount_0f7a4_15 : decode cJ6_bitCount_0f7a4 15 = .ok (.iload_n 0, 1) := by decide +kernel
theorem dJ6_bitCount_0f7a4_16 : decode cJ6_bitCount_0f7a4 16 = .ok (.iconst 2, 1) := by decide +kernel
theorem dJ6_bitCount_0f7a4_17 : decode cJ6_bitCount_0f7a4 17 = .ok (.iushr, 1) := by decide +kernel
theorem dJ6_bitCount_0f7a4_18 : decode cJ6_bitCount_0f7a4 18 = .ok (.ldc_w 266, 3) := by decide +kernel
theorem dJ6_bitCount_0f7a4_21 : decode cJ6_bitCount_0f7a4 21 = .ok (.iand, 1) := by decide +kernel
theorem dJ6_bitCount_0f7a4_22 : decode cJ6_bitCount_0f7a4 22 = .ok (.iadd, 1) := by decide +kernel
theorem dJ6_bitCount_0f7a4_23 : decode cJ6_bitCount_0f7a4 23 = .ok (.istore_n 0, 1) := by decide +kernel
theorem dJ6_bitCount_0f7a4_24 : decode cJ6_bitCount_0f7a4 24 = .ok (.iload_n 0, 1) := by decide +kernel
theorem dJ6_bitCount_0f7a4_25 : decode cJ6_bitCount_0f7a4 25 = .ok (.iload_n 0, 1) := by decide +kernel
theorem dJ6_bitCount_0f7a4_26 : decode cJ6_bitCount_0f7a4 26 = .ok (.iconst 4, 1) := by decide +kernel
theorem dJ6_bitCount_0f7a4_27 : decode cJ6_bitCount_0f7a4 27 = .ok (.iushr, 1) := by decide +kernel
theorem dJ6_bitCount_0f7a4_28 : decode cJ6_bitCount_0f7a4 28 = .ok (.iadd, 1) := by decide +kernel
theorem dJ6_bitCount_0f7a4_29 : decode cJ6_bitCount_0f7a4 29 = .ok (.ldc_w 267, 3) := by decide +kernel
theorem dJ6_bitCount_0f7a4_32 : decode cJ6_bitCount_0f7a4 32 = .ok (.iand, 1) := by decide +kernel
theorem dJ6_bitCount_0f7a4_33 : decode cJ6_bitCount_0f7a4 33 = .ok (.istore_n 0, 1) := by decide +kernel
theorem dJ6_bitCount_0f7a4_34 : decode cJ6_bitCount_0f7a4 34 = .ok (.iload_n 0, 1) := by decide +kernel
theorem dJ6_bitCount_0f7a4_35 : decode cJ6_bitCount_0f7a4 35 = .ok (.iload_n 0, 1) := by decide +kernel
theorem dJ6_bitCount_0f7a4_36 : decode cJ6_bitCount_0f7a4 36 = .ok (.bipush 8, 2) := by decide +kernel
theorem dJ6_bitCount_0f7a4_38 : decode cJ6_bitCount_0f7a4 38 = .ok (.iushr, 1) := by decide +kernel
theorem dJ6_bitCount_0f7a4_39 : decode cJ6_bitCount_0f7a4 39 = .ok (.iadd, 1) := by decide +kernel
theorem dJ6_bitCount_0f7a4_40 : decode cJ6_bitCount_0f7a4 40 = .ok (.istore_n 0, 1) := by decide +kernel
theorem dJ6_bitCount_0f7a4_41 : decode cJ6_bitCount_0f7a4 41 = .ok (.iload_n 0, 1) := by decide +kernel
theorem dJ6_bitCount_0f7a4_42 : decode cJ6_bitCount_0f7a4 42 = .ok (.iload_n 0, 1) := by decide +kernel
theorem dJ6_bitCount_0f7a4_43 : decode cJ6_bitCount_0f7a4 43 = .ok (.bipush 16, 2) := by decide +kernel
theorem dJ6_bitCount_0f7a4_45 : decode cJ6_bitCount_0f7a4 45 = .ok (.iushr, 1) := by decide +kernel
theorem dJ6_bitCount_0f7a4_46 : decode cJ6_bitCount_0f7a4 46 = .ok (.iadd, 1) := by decide +kernel
theorem dJ6_bitCount_0f7a4_47 : decode cJ6_bitCount_0f7a4 47 = .ok (.istore_n 0, 1) := by decide +kernel
theorem dJ6_bitCount_0f7a4_48 : decode cJ6_bitCount_0f7a4 48 = .ok (.iload_n 0, 1) := by decide +kernel
theorem dJ6_bitCount_0f7a4_49 : decode cJ6_bitCount_0f7a4 49 = .ok (.bipush 63, 2) := by decide +kernel
theorem dJ6_bitCount_0f7a4_51 : decode cJ6_bitCount_0f7a4 51 = .ok (.iand, 1) := by decide +kernel
theorem dJ6_bitCount_0f7a4_52 : decode cJ6_bitCount_0f7a4 52 = .ok (.ireturn, 1) := by decide +kernel
theorem dJ9_max_7cf53_0 : decode cJ9_max_7cf53 0 = .ok (.iload_n 0, 1) := by decide +kernel
theorem dJ9_max_7cf53_1 : decode cJ9_max_7cf53 1 = .ok (.iload_n 1, 1) := by decide +kernel
theorem dJ9_max_7cf53_2 : decode cJ9_max_7cf53 2 = .ok (.if_icmp .lt 7, 3) := by decide +kernel
theorem dJ9_max_7cf53_5 : decode cJ9_max_7cf53 5 = .ok (.iload_n 0, 1) := by decide +kernel
theorem dJ9_max_7cf53_6 : decode cJ9_max_7cf53 6 = .ok (.goto 4, 3) := by decide +kernel
theorem dJ9_max_7cf53_9 : decode cJ9_max_7cf53 9 = .ok (.iload_n 1, 1) := by decide +kernel
theorem dJ9_max_7cf53_10 : decode cJ9_max_7cf53 10 = .ok (.ireturn, 1) := by decide +kernel
theorem dJ9_min_7cf53_0 : decode cJ9_min_7cf53 0 = .ok (.iload_n 0, 1) := by decide +kernel
theorem dJ9_min_7cf53_1 : decode cJ9_min_7cf53 1 = .ok (.iload_n 1, 1) := by decide +kernel
theorem dJ9_min_7cf53_2 : decode cJ9_min_7cf53 2 = .ok (.if_icmp .gt 7, 3) := by decide +kernel
theorem dJ9_min_7cf53_5 : decode cJ9_min_7cf53 5 = .ok (.iload_n 0, 1) := by decide +kernel
theorem dJ9_min_7cf53_6 : decode cJ9_min_7cf53 6 = .ok (.goto 4, 3) := by decide +kernel
theorem dJ9_min_7cf53_9 : decode cJ9_min_7cf53 9 = .ok (.iload_n 1, 1) := by decide +kernel
theorem dJ9_min_7cf53_10 : decode cJ9_min_7cf53 10 = .ok (.ireturn, 1) := by decide +kernel
theorem dJ0_length_8abf5_0 : decode cJ0_length_8abf5 0 = .ok (.aload_n 0, 1) := by decide +kernel
theorem dJ0_length_8abf5_1 : decode cJ0_length_8abf5 1 = .ok (.getfield 9, 3) := by decide +kernel
theorem dJ0_length_8abf5_4 : decode cJ0_length_8abf5 4 = .ok (.arraylength, 1) := by decide +kernel
theorem dJ0_length_8abf5_5 : decode cJ0_length_8abf5 5 = .ok (.aload_n 0, 1) := by decide +kernel
theorem dJ0_length_8abf5_6 : decode cJ0_length_8abf5 6 = .ok (.invokevirtual 335, 3) := by decide +kernel
theorem dJ0_length_8abf5_9 : decode cJ0_length_8abf5 9 = .ok (.ishr, 1) := by decide +kernel
theorem dJ0_length_8abf5_10 : decode cJ0_length_8abf5 10 = .ok (.ireturn, 1) := by decide +kernel
theorem dJ0_charAt_5068e_0 : decode cJ0_charAt_5068e 0 = .ok (.aload_n 0, 1) := by decide +kernel
theorem dJ0_charAt_5068e_1 : decode cJ0_charAt_5068e 1 = .ok (.invokevirtual 492, 3) := by decide +kernel
theorem dJ0_charAt_5068e_4 : decode cJ0_charAt_5068e 4 = .ok (.ifCond .eq 12, 3) := by decide +kernel
theorem dJ0_charAt_5068e_7 : decode cJ0_charAt_5068e 7 = .ok (.aload_n 0, 1) := by decide +kernel
theorem dJ0_charAt_5068e_8 : decode cJ0_charAt_5068e 8 = .ok (.getfield 9, 3) := by decide +kernel
theorem dJ0_charAt_5068e_11 : decode cJ0_charAt_5068e 11 = .ok (.iload_n 1, 1) := by decide +kernel
theorem dJ0_charAt_5068e_12 : decode cJ0_charAt_5068e 12 = .ok (.invokestatic 495, 3) := by decide +kernel
theorem dJ0_charAt_5068e_15 : decode cJ0_charAt_5068e 15 = .ok (.ireturn, 1) := by decide +kernel
theorem dJ0_charAt_5068e_16 : decode cJ0_charAt_5068e 16 = .ok (.aload_n 0, 1) := by decide +kernel
theorem dJ0_charAt_5068e_17 : decode cJ0_charAt_5068e 17 = .ok (.getfield 9, 3) := by decide +kernel
theorem dJ0_charAt_5068e_20 : decode cJ0_charAt_5068e 20 = .ok (.iload_n 1, 1) := by decide +kernel
theorem dJ0_charAt_5068e_21 : decode cJ0_charAt_5068e 21 = .ok (.invokestatic 498, 3) := by decide +kernel
theorem dJ0_charAt_5068e_24 : decode cJ0_charAt_5068e 24 = .ok (.ireturn, 1) := by decide +kernel
theorem dJ0_coder_7d493_0 : decode cJ0_coder_7d493 0 = .ok (.getstatic 38, 3) := by decide +kernel
theorem dJ0_coder_7d493_3 : decode cJ0_coder_7d493 3 = .ok (.ifCond .eq 10, 3) := by decide +kernel
theorem dJ0_coder_7d493_6 : decode cJ0_coder_7d493 6 = .ok (.aload_n 0, 1) := by decide +kernel
theorem dJ0_coder_7d493_7 : decode cJ0_coder_7d493 7 = .ok (.getfield 15, 3) := by decide +kernel
theorem dJ0_coder_7d493_10 : decode cJ0_coder_7d493 10 = .ok (.goto 4, 3) := by decide +kernel
theorem dJ0_coder_7d493_13 : decode cJ0_coder_7d493 13 = .ok (.iconst 1, 1) := by decide +kernel
theorem dJ0_coder_7d493_14 : decode cJ0_coder_7d493 14 = .ok (.ireturn, 1) := by decide +kernel
theorem dJ0_isLatin1_aae02_0 : decode cJ0_isLatin1_aae02 0 = .ok (.getstatic 38, 3) := by decide +kernel
theorem dJ0_isLatin1_aae02_3 : decode cJ0_isLatin1_aae02 3 = .ok (.ifCond .eq 14, 3) := by decide +kernel
theorem dJ0_isLatin1_aae02_6 : decode cJ0_isLatin1_aae02 6 = .ok (.aload_n 0, 1) := by decide +kernel
theorem dJ0_isLatin1_aae02_7 : decode cJ0_isLatin1_aae02 7 = .ok (.getfield 15, 3) := by decide +kernel
theorem dJ0_isLatin1_aae02_10 : decode cJ0_isLatin1_aae02 10 = .ok (.ifCond .ne 7, 3) := by decide +kernel
theorem dJ0_isLatin1_aae02_13 : decode cJ0_isLatin1_aae02 13 = .ok (.iconst 1, 1) := by decide +kernel
theorem dJ0_isLatin1_aae02_14 : decode cJ0_isLatin1_aae02 14 = .ok (.goto 4, 3) := by decide +kernel
theorem dJ0_isLatin1_aae02_17 : decode cJ0_isLatin1_aae02 17 = .ok (.iconst 0, 1) := by decide +kernel
theorem dJ0_isLatin1_aae02_18 : decode cJ0_isLatin1_aae02 18 = .ok (.ireturn, 1) := by decide +kernel
theorem dJ0_checkIndex_df160_0 : decode cJ0_checkIndex_df160 0 = .ok (.iload_n 0, 1) := by decide +kernel
theorem dJ0_checkIndex_df160_1 : decode cJ0_checkIndex_df160 1 = .ok (.iload_n 1, 1) := by decide +kernel
theorem dJ0_checkIndex_df160_2 : decode cJ0_checkIndex_df160 2 = .ok (.getstatic 1053, 3) := by decide +kernel
theorem dJ0_checkIndex_df160_5 : decode cJ0_checkIndex_df160 5 = .ok (.invokestatic 1059, 3) := by decide +kernel
theorem dJ0_checkIndex_df160_8 : decode cJ0_checkIndex_df160 8 = .ok (.pop, 1) := by decide +kernel
theorem dJ0_checkIndex_df160_9 : decode cJ0_checkIndex_df160 9 = .ok (.return_, 1) := by decide +kernel
theorem dJ1_charAt_3b067_0 : decode cJ1_charAt_3b067 0 = .ok (.iload_n 1, 1) := by decide +kernel
theorem dJ1_charAt_3b067_1 : decode cJ1_charAt_3b067 1 = .ok (.aload_n 0, 1) := by decide +kernel
theorem dJ1_charAt_3b067_2 : decode cJ1_charAt_3b067 2 = .ok (.arraylength, 1) := by decide +kernel
theorem dJ1_charAt_3b067_3 : decode cJ1_charAt_3b067 3 = .ok (.invokestatic 9, 3) := by decide +kernel
theorem dJ1_charAt_3b067_6 : decode cJ1_charAt_3b067 6 = .ok (.aload_n 0, 1) := by decide +kernel
theorem dJ1_charAt_3b067_7 : decode cJ1_charAt_3b067 7 = .ok (.iload_n 1, 1) := by decide +kernel
theorem dJ1_charAt_3b067_8 : decode cJ1_charAt_3b067 8 = .ok (.baload, 1) := by decide +kernel
theorem dJ1_charAt_3b067_9 : decode cJ1_charAt_3b067 9 = .ok (.sipush 255, 3) := by decide +kernel
theorem dJ1_charAt_3b067_12 : decode cJ1_charAt_3b067 12 = .ok (.iand, 1) := by decide +kernel
theorem dJ1_charAt_3b067_13 : decode cJ1_charAt_3b067 13 = .ok (.i2c, 1) := by decide +kernel
theorem dJ1_charAt_3b067_14 : decode cJ1_charAt_3b067 14 = .ok (.ireturn, 1) := by decide +kernel
theorem dJ2_getChar_3b067_0 : decode cJ2_getChar_3b067 0 = .ok (.getstatic 44, 3) := by decide +kernel
theorem dJ2_getChar_3b067_3 : decode cJ2_getChar_3b067 3 = .ok (.ifCond .ne 25, 3) := by decide +kernel
theorem dJ2_getChar_3b067_6 : decode cJ2_getChar_3b067 6 = .ok (.iload_n 1, 1) := by decide +kernel
theorem dJ2_getChar_3b067_7 : decode cJ2_getChar_3b067 7 = .ok (.ifCond .lt 11, 3) := by decide +kernel
theorem dJ2_getChar_3b067_10 : decode cJ2_getChar_3b067 10 = .ok (.iload_n 1, 1) := by decide +kernel
theorem dJ2_getChar_3b067_11 : decode cJ2_getChar_3b067 11 = .ok (.aload_n 0, 1) := by decide +kernel
theorem dJ2_getChar_3b067_12 : decode cJ2_getChar_3b067 12 = .ok (.invokestatic 48, 3) := by decide +kernel
theorem dJ2_getChar_3b067_15 : decode cJ2_getChar_3b067 15 = .ok (.if_icmp .lt 13, 3) := by decide +kernel
theorem dJ2_getChar_3b067_18 : decode cJ2_getChar_3b067 18 = .ok (.new 52, 3) := by decide +kernel
theorem dJ2_getChar_3b067_21 : decode cJ2_getChar_3b067 21 = .ok (.dup, 1) := by decide +kernel
theorem dJ2_getChar_3b067_22 : decode cJ2_getChar_3b067 22 = .ok (.ldc 54, 2) := by decide +kernel
theorem dJ2_getChar_3b067_24 : decode cJ2_getChar_3b067 24 = .ok (.invokespecial 56, 3) := by decide +kernel
theorem dJ2_getChar_3b067_27 : decode cJ2_getChar_3b067 27 = .ok (.athrow, 1) := by decide +kernel
theorem dJ2_getChar_3b067_28 : decode cJ2_getChar_3b067 28 = .ok (.iload_n 1, 1) := by decide +kernel
theorem dJ2_getChar_3b067_29 : decode cJ2_getChar_3b067 29 = .ok (.iconst 1, 1) := by decide +kernel
theorem dJ2_getChar_3b067_30 : decode cJ2_getChar_3b067 30 = .ok (.ishl, 1) := by decide +kernel
theorem dJ2_getChar_3b067_31 : decode cJ2_getChar_3b067 31 = .ok (.istore_n 1, 1) := by decide +kernel
theorem dJ2_getChar_3b067_32 : decode cJ2_getChar_3b067 32 = .ok (.aload_n 0, 1) := by decide +kernel
theorem dJ2_getChar_3b067_33 : decode cJ2_getChar_3b067 33 = .ok (.iload_n 1, 1) := by decide +kernel
theorem dJ2_getChar_3b067_34 : decode cJ2_getChar_3b067 34 = .ok (.iinc 1 1, 3) := by decide +kernel
theorem dJ2_getChar_3b067_37 : decode cJ2_getChar_3b067 37 = .ok (.baload, 1) := by decide +kernel
theorem dJ2_getChar_3b067_38 : decode cJ2_getChar_3b067 38 = .ok (.sipush 255, 3) := by decide +kernel
theorem dJ2_getChar_3b067_41 : decode cJ2_getChar_3b067 41 = .ok (.iand, 1) := by decide +kernel
theorem dJ2_getChar_3b067_42 : decode cJ2_getChar_3b067 42 = .ok (.getstatic 59, 3) := by decide +kernel
theorem dJ2_getChar_3b067_45 : decode cJ2_getChar_3b067 45 = .ok (.ishl, 1) := by decide +kernel
theorem dJ2_getChar_3b067_46 : decode cJ2_getChar_3b067 46 = .ok (.aload_n 0, 1) := by decide +kernel
theorem dJ2_getChar_3b067_47 : decode cJ2_getChar_3b067 47 = .ok (.iload_n 1, 1) := by decide +kernel
theorem dJ2_getChar_3b067_48 : decode cJ2_getChar_3b067 48 = .ok (.baload, 1) := by decide +kernel
theorem dJ2_getChar_3b067_49 : decode cJ2_getChar_3b067 49 = .ok (.sipush 255, 3) := by decide +kernel
theorem dJ2_getChar_3b067_52 : decode cJ2_getChar_3b067 52 = .ok (.iand, 1) := by decide +kernel
theorem dJ2_getChar_3b067_53 : decode cJ2_getChar_3b067 53 = .ok (.getstatic 63, 3) := by decide +kernel
theorem dJ2_getChar_3b067_56 : decode cJ2_getChar_3b067 56 = .ok (.ishl, 1) := by decide +kernel
theorem dJ2_getChar_3b067_57 : decode cJ2_getChar_3b067 57 = .ok (.ior, 1) := by decide +kernel
theorem dJ2_getChar_3b067_58 : decode cJ2_getChar_3b067 58 = .ok (.i2c, 1) := by decide +kernel
theorem dJ2_getChar_3b067_59 : decode cJ2_getChar_3b067 59 = .ok (.ireturn, 1) := by decide +kernel
theorem dJ2_length_9d52b_0 : decode cJ2_length_9d52b 0 = .ok (.aload_n 0, 1) := by decide +kernel
theorem dJ2_length_9d52b_1 : decode cJ2_length_9d52b 1 = .ok (.arraylength, 1) := by decide +kernel
theorem dJ2_length_9d52b_2 : decode cJ2_length_9d52b 2 = .ok (.iconst 1, 1) := by decide +kernel
theorem dJ2_length_9d52b_3 : decode cJ2_length_9d52b 3 = .ok (.ishr, 1) := by decide +kernel
theorem dJ2_length_9d52b_4 : decode cJ2_length_9d52b 4 = .ok (.ireturn, 1) := by decide +kernel
theorem dJ2_charAt_3b067_0 : decode cJ2_charAt_3b067 0 = .ok (.iload_n 1, 1) := by decide +kernel
theorem dJ2_charAt_3b067_1 : decode cJ2_charAt_3b067 1 = .ok (.aload_n 0, 1) := by decide +kernel
theorem dJ2_charAt_3b067_2 : decode cJ2_charAt_3b067 2 = .ok (.invokestatic 67, 3) := by decide +kernel
theorem dJ2_charAt_3b067_5 : decode cJ2_charAt_3b067 5 = .ok (.aload_n 0, 1) := by decide +kernel
theorem dJ2_charAt_3b067_6 : decode cJ2_charAt_3b067 6 = .ok (.iload_n 1, 1) := by decide +kernel
theorem dJ2_charAt_3b067_7 : decode cJ2_charAt_3b067 7 = .ok (.invokestatic 71, 3) := by decide +kernel
theorem dJ2_charAt_3b067_10 : decode cJ2_charAt_3b067 10 = .ok (.ireturn, 1) := by decide +kernel
theorem dJ2_checkIndex_2214a_0 : decode cJ2_checkIndex_2214a 0 = .ok (.iload_n 0, 1) := by decide +kernel
theorem dJ2_checkIndex_2214a_1 : decode cJ2_checkIndex_2214a 1 = .ok (.aload_n 1, 1) := by decide +kernel
theorem dJ2_checkIndex_2214a_2 : decode cJ2_checkIndex_2214a 2 = .ok (.invokestatic 48, 3) := by decide +kernel
theorem dJ2_checkIndex_2214a_5 : decode cJ2_checkIndex_2214a 5 = .ok (.invokestatic 414, 3) := by decide +kernel
theorem dJ2_checkIndex_2214a_8 : decode cJ2_checkIndex_2214a 8 = .ok (.return_, 1) := by decide +kernel
theorem dJ7_fill_53178_0 : decode cJ7_fill_53178 0 = .ok (.iconst 0, 1) := by decide +kernel
theorem dJ7_fill_53178_1 : decode cJ7_fill_53178 1 = .ok (.istore_n 2, 1) := by decide +kernel
theorem dJ7_fill_53178_2 : decode cJ7_fill_53178 2 = .ok (.aload_n 0, 1) := by decide +kernel
theorem dJ7_fill_53178_3 : decode cJ7_fill_53178 3 = .ok (.arraylength, 1) := by decide +kernel
theorem dJ7_fill_53178_4 : decode cJ7_fill_53178 4 = .ok (.istore_n 3, 1) := by decide +kernel
theorem dJ7_fill_53178_5 : decode cJ7_fill_53178 5 = .ok (.iload_n 2, 1) := by decide +kernel
theorem dJ7_fill_53178_6 : decode cJ7_fill_53178 6 = .ok (.iload_n 3, 1) := by decide +kernel
theorem dJ7_fill_53178_7 : decode cJ7_fill_53178 7 = .ok (.if_icmp .ge 13, 3) := by decide +kernel
theorem dJ7_fill_53178_10 : decode cJ7_fill_53178 10 = .ok (.aload_n 0, 1) := by decide +kernel
theorem dJ7_fill_53178_11 : decode cJ7_fill_53178 11 = .ok (.iload_n 2, 1) := by decide +kernel
theorem dJ7_fill_53178_12 : decode cJ7_fill_53178 12 = .ok (.iload_n 1, 1) := by decide +kernel
theorem dJ7_fill_53178_13 : decode cJ7_fill_53178 13 = .ok (.iastore, 1) := by decide +kernel
theorem dJ7_fill_53178_14 : decode cJ7_fill_53178 14 = .ok (.iinc 2 1, 3) := by decide +kernel
theorem dJ7_fill_53178_17 : decode cJ7_fill_53178 17 = .ok (.goto (-12), 3) := by decide +kernel
theorem dJ7_fill_53178_20 : decode cJ7_fill_53178 20 = .ok (.return_, 1) := by decide +kernel
theorem dJ3_checkIndex_8e157_0 : decode cJ3_checkIndex_8e157 0 = .ok (.iload_n 0, 1) := by decide +kernel
theorem dJ3_checkIndex_8e157_1 : decode cJ3_checkIndex_8e157 1 = .ok (.ifCond .lt 8, 3) := by decide +kernel
theorem dJ3_checkIndex_8e157_4 : decode cJ3_checkIndex_8e157 4 = .ok (.iload_n 0, 1) := by decide +kernel
theorem dJ3_checkIndex_8e157_5 : decode cJ3_checkIndex_8e157 5 = .ok (.iload_n 1, 1) := by decide +kernel
theorem dJ3_checkIndex_8e157_6 : decode cJ3_checkIndex_8e157 6 = .ok (.if_icmp .lt 10, 3) := by decide +kernel
theorem dJ3_checkIndex_8e157_9 : decode cJ3_checkIndex_8e157 9 = .ok (.aload_n 2, 1) := by decide +kernel
theorem dJ3_checkIndex_8e157_10 : decode cJ3_checkIndex_8e157 10 = .ok (.iload_n 0, 1) := by decide +kernel
theorem dJ3_checkIndex_8e157_11 : decode cJ3_checkIndex_8e157 11 = .ok (.iload_n 1, 1) := by decide +kernel
theorem dJ3_checkIndex_8e157_12 : decode cJ3_checkIndex_8e157 12 = .ok (.invokestatic 95, 3) := by decide +kernel
theorem dJ3_checkIndex_8e157_15 : decode cJ3_checkIndex_8e157 15 = .ok (.athrow, 1) := by decide +kernel
theorem dJ3_checkIndex_8e157_16 : decode cJ3_checkIndex_8e157 16 = .ok (.iload_n 0, 1) := by decide +kernel
theorem dJ3_checkIndex_8e157_17 : decode cJ3_checkIndex_8e157 17 = .ok (.ireturn, 1) := by decide +kernel
theorem dL_law_0 : decode cL_law 0 = .ok (.new 7, 3) := by decide +kernel
theorem dL_law_3 : decode cL_law 3 = .ok (.dup, 1) := by decide +kernel
theorem dL_law_4 : decode cL_law 4 = .ok (.invokespecial 9, 3) := by decide +kernel
theorem dL_law_7 : decode cL_law 7 = .ok (.astore_n 1, 1) := by decide +kernel
theorem dL_law_8 : decode cL_law 8 = .ok (.new 10, 3) := by decide +kernel
theorem dL_law_11 : decode cL_law 11 = .ok (.dup, 1) := by decide +kernel
theorem dL_law_12 : decode cL_law 12 = .ok (.invokespecial 12, 3) := by decide +kernel
theorem dL_law_15 : decode cL_law 15 = .ok (.astore_n 2, 1) := by decide +kernel
theorem dL_law_16 : decode cL_law 16 = .ok (.iconst 0, 1) := by decide +kernel
theorem dL_law_17 : decode cL_law 17 = .ok (.istore_n 3, 1) := by decide +kernel
theorem dL_law_18 : decode cL_law 18 = .ok (.iload_n 3, 1) := by decide +kernel
theorem dL_law_19 : decode cL_law 19 = .ok (.aload_n 0, 1) := by decide +kernel
theorem dL_law_20 : decode cL_law 20 = .ok (.arraylength, 1) := by decide +kernel
theorem dL_law_21 : decode cL_law 21 = .ok (.bipush 6, 2) := by decide +kernel
theorem dL_law_23 : decode cL_law 23 = .ok (.isub, 1) := by decide +kernel
theorem dL_law_24 : decode cL_law 24 = .ok (.if_icmp .gt 1164, 3) := by decide +kernel
theorem dL_law_27 : decode cL_law 27 = .ok (.aload_n 0, 1) := by decide +kernel
theorem dL_law_28 : decode cL_law 28 = .ok (.iload_n 3, 1) := by decide +kernel
theorem dL_law_29 : decode cL_law 29 = .ok (.iaload, 1) := by decide +kernel
theorem dL_law_30 : decode cL_law 30 = .ok (.bipush 31, 2) := by decide +kernel
theorem dL_law_32 : decode cL_law 32 = .ok (.iand, 1) := by decide +kernel
theorem dL_law_33 : decode cL_law 33 = .ok (.tableswitch 1149 0 31 #[143, 206, 229, 242, 255, 278, 311, 344, 367, 380, 413, 446, 489, 512, 525, 568, 591, 614, 647, 690, 753, 796, 829, 872, 905, 948, 971, 1004, 1027, 1080, 1103, 1126], 143) := by decide +kernel
theorem dL_law_176 : decode cL_law 176 = .ok (.aload_n 1, 1) := by decide +kernel
theorem dL_law_177 : decode cL_law 177 = .ok (.aload_n 0, 1) := by decide +kernel
theorem dL_law_178 : decode cL_law 178 = .ok (.iload_n 3, 1) := by decide +kernel
theorem dL_law_179 : decode cL_law 179 = .ok (.iconst 1, 1) := by decide +kernel
theorem dL_law_180 : decode cL_law 180 = .ok (.iadd, 1) := by decide +kernel
theorem dL_law_181 : decode cL_law 181 = .ok (.iaload, 1) := by decide +kernel
theorem dL_law_182 : decode cL_law 182 = .ok (.aload_n 0, 1) := by decide +kernel
theorem dL_law_183 : decode cL_law 183 = .ok (.iload_n 3, 1) := by decide +kernel
theorem dL_law_184 : decode cL_law 184 = .ok (.iconst 2, 1) := by decide +kernel
theorem dL_law_185 : decode cL_law 185 = .ok (.iadd, 1) := by decide +kernel
theorem dL_law_186 : decode cL_law 186 = .ok (.iaload, 1) := by decide +kernel
theorem dL_law_187 : decode cL_law 187 = .ok (.aload_n 0, 1) := by decide +kernel
theorem dL_law_188 : decode cL_law 188 = .ok (.iload_n 3, 1) := by decide +kernel
theorem dL_law_189 : decode cL_law 189 = .ok (.iconst 3, 1) := by decide +kernel
theorem dL_law_190 : decode cL_law 190 = .ok (.iadd, 1) := by decide +kernel
theorem dL_law_191 : decode cL_law 191 = .ok (.iaload, 1) := by decide +kernel
theorem dL_law_192 : decode cL_law 192 = .ok (.aload_n 0, 1) := by decide +kernel
theorem dL_law_193 : decode cL_law 193 = .ok (.iload_n 3, 1) := by decide +kernel
theorem dL_law_194 : decode cL_law 194 = .ok (.iconst 4, 1) := by decide +kernel
theorem dL_law_195 : decode cL_law 195 = .ok (.iadd, 1) := by decide +kernel
theorem dL_law_196 : decode cL_law 196 = .ok (.iaload, 1) := by decide +kernel
theorem dL_law_197 : decode cL_law 197 = .ok (.aload_n 0, 1) := by decide +kernel
theorem dL_law_198 : decode cL_law 198 = .ok (.iload_n 3, 1) := by decide +kernel
theorem dL_law_199 : decode cL_law 199 = .ok (.iconst 5, 1) := by decide +kernel
theorem dL_law_200 : decode cL_law 200 = .ok (.iadd, 1) := by decide +kernel
theorem dL_law_201 : decode cL_law 201 = .ok (.iaload, 1) := by decide +kernel
theorem dL_law_202 : decode cL_law 202 = .ok (.invokevirtual 13, 3) := by decide +kernel
theorem dL_law_205 : decode cL_law 205 = .ok (.aload_n 2, 1) := by decide +kernel
theorem dL_law_206 : decode cL_law 206 = .ok (.aload_n 0, 1) := by decide +kernel
theorem dL_law_207 : decode cL_law 207 = .ok (.iload_n 3, 1) := by decide +kernel
theorem dL_law_208 : decode cL_law 208 = .ok (.iconst 1, 1) := by decide +kernel
theorem dL_law_209 : decode cL_law 209 = .ok (.iadd, 1) := by decide +kernel
theorem dL_law_210 : decode cL_law 210 = .ok (.iaload, 1) := by decide +kernel
theorem dL_law_211 : decode cL_law 211 = .ok (.aload_n 0, 1) := by decide +kernel
theorem dL_law_212 : decode cL_law 212 = .ok (.iload_n 3, 1) := by decide +kernel
theorem dL_law_213 : decode cL_law 213 = .ok (.iconst 2, 1) := by decide +kernel
theorem dL_law_214 : decode cL_law 214 = .ok (.iadd, 1) := by decide +kernel
theorem dL_law_215 : decode cL_law 215 = .ok (.iaload, 1) := by decide +kernel
theorem dL_law_216 : decode cL_law 216 = .ok (.aload_n 0, 1) := by decide +kernel
theorem dL_law_217 : decode cL_law 217 = .ok (.iload_n 3, 1) := by decide +kernel
theorem dL_law_218 : decode cL_law 218 = .ok (.iconst 3, 1) := by decide +kernel
theorem dL_law_219 : decode cL_law 219 = .ok (.iadd, 1) := by decide +kernel
theorem dL_law_220 : decode cL_law 220 = .ok (.iaload, 1) := by decide +kernel
theorem dL_law_221 : decode cL_law 221 = .ok (.aload_n 0, 1) := by decide +kernel
theorem dL_law_222 : decode cL_law 222 = .ok (.iload_n 3, 1) := by decide +kernel
theorem dL_law_223 : decode cL_law 223 = .ok (.iconst 4, 1) := by decide +kernel
theorem dL_law_224 : decode cL_law 224 = .ok (.iadd, 1) := by decide +kernel
theorem dL_law_225 : decode cL_law 225 = .ok (.iaload, 1) := by decide +kernel
theorem dL_law_226 : decode cL_law 226 = .ok (.aload_n 0, 1) := by decide +kernel
theorem dL_law_227 : decode cL_law 227 = .ok (.iload_n 3, 1) := by decide +kernel
theorem dL_law_228 : decode cL_law 228 = .ok (.iconst 5, 1) := by decide +kernel
theorem dL_law_229 : decode cL_law 229 = .ok (.iadd, 1) := by decide +kernel
theorem dL_law_230 : decode cL_law 230 = .ok (.iaload, 1) := by decide +kernel
theorem dL_law_231 : decode cL_law 231 = .ok (.invokevirtual 17, 3) := by decide +kernel
theorem dL_law_234 : decode cL_law 234 = .ok (.if_icmp .eq 948, 3) := by decide +kernel
theorem dL_law_237 : decode cL_law 237 = .ok (.iconst 0, 1) := by decide +kernel
theorem dL_law_238 : decode cL_law 238 = .ok (.ireturn, 1) := by decide +kernel
theorem dL_law_239 : decode cL_law 239 = .ok (.aload_n 1, 1) := by decide +kernel
theorem dL_law_240 : decode cL_law 240 = .ok (.aload_n 0, 1) := by decide +kernel
theorem dL_law_241 : decode cL_law 241 = .ok (.iload_n 3, 1) := by decide +kernel
theorem dL_law_242 : decode cL_law 242 = .ok (.iconst 1, 1) := by decide +kernel
theorem dL_law_243 : decode cL_law 243 = .ok (.iadd, 1) := by decide +kernel
theorem dL_law_244 : decode cL_law 244 = .ok (.iaload, 1) := by decide +kernel
theorem dL_law_245 : decode cL_law 245 = .ok (.invokevirtual 18, 3) := by decide +kernel
theorem dL_law_248 : decode cL_law 248 = .ok (.aload_n 2, 1) := by decide +kernel
theorem dL_law_249 : decode cL_law 249 = .ok (.aload_n 0, 1) := by decide +kernel
theorem dL_law_250 : decode cL_law 250 = .ok (.iload_n 3, 1) := by decide +kernel
theorem dL_law_251 : decode cL_law 251 = .ok (.iconst 1, 1) := by decide +kernel
theorem dL_law_252 : decode cL_law 252 = .ok (.iadd, 1) := by decide +kernel
theorem dL_law_253 : decode cL_law 253 = .ok (.iaload, 1) := by decide +kernel
theorem dL_law_254 : decode cL_law 254 = .ok (.invokevirtual 22, 3) := by decide +kernel
theorem dL_law_257 : decode cL_law 257 = .ok (.if_icmp .eq 925, 3) := by decide +kernel
theorem dL_law_260 : decode cL_law 260 = .ok (.iconst 0, 1) := by decide +kernel
theorem dL_law_261 : decode cL_law 261 = .ok (.ireturn, 1) := by decide +kernel
theorem dL_law_262 : decode cL_law 262 = .ok (.aload_n 1, 1) := by decide +kernel
theorem dL_law_263 : decode cL_law 263 = .ok (.invokevirtual 23, 3) := by decide +kernel
theorem dL_law_266 : decode cL_law 266 = .ok (.aload_n 2, 1) := by decide +kernel
theorem dL_law_267 : decode cL_law 267 = .ok (.invokevirtual 27, 3) := by decide +kernel
theorem dL_law_270 : decode cL_law 270 = .ok (.if_icmp .eq 912, 3) := by decide +kernel
theorem dL_law_273 : decode cL_law 273 = .ok (.iconst 0, 1) := by decide +kernel
theorem dL_law_274 : decode cL_law 274 = .ok (.ireturn, 1) := by decide +kernel
theorem dL_law_275 : decode cL_law 275 = .ok (.aload_n 1, 1) := by decide +kernel
theorem dL_law_276 : decode cL_law 276 = .ok (.invokevirtual 28, 3) := by decide +kernel
theorem dL_law_279 : decode cL_law 279 = .ok (.aload_n 2, 1) := by decide +kernel
theorem dL_law_280 : decode cL_law 280 = .ok (.invokevirtual 31, 3) := by decide +kernel
theorem dL_law_283 : decode cL_law 283 = .ok (.if_icmp .eq 899, 3) := by decide +kernel
theorem dL_law_286 : decode cL_law 286 = .ok (.iconst 0, 1) := by decide +kernel
theorem dL_law_287 : decode cL_law 287 = .ok (.ireturn, 1) := by decide +kernel
theorem dL_law_288 : decode cL_law 288 = .ok (.aload_n 1, 1) := by decide +kernel
theorem dL_law_289 : decode cL_law 289 = .ok (.aload_n 0, 1) := by decide +kernel
theorem dL_law_290 : decode cL_law 290 = .ok (.iload_n 3, 1) := by decide +kernel
theorem dL_law_291 : decode cL_law 291 = .ok (.iconst 1, 1) := by decide +kernel
theorem dL_law_292 : decode cL_law 292 = .ok (.iadd, 1) := by decide +kernel
theorem dL_law_293 : decode cL_law 293 = .ok (.iaload, 1) := by decide +kernel
theorem dL_law_294 : decode cL_law 294 = .ok (.invokevirtual 32, 3) := by decide +kernel
theorem dL_law_297 : decode cL_law 297 = .ok (.aload_n 2, 1) := by decide +kernel
theorem dL_law_298 : decode cL_law 298 = .ok (.aload_n 0, 1) := by decide +kernel
theorem dL_law_299 : decode cL_law 299 = .ok (.iload_n 3, 1) := by decide +kernel
theorem dL_law_300 : decode cL_law 300 = .ok (.iconst 1, 1) := by decide +kernel
theorem dL_law_301 : decode cL_law 301 = .ok (.iadd, 1) := by decide +kernel
theorem dL_law_302 : decode cL_law 302 = .ok (.iaload, 1) := by decide +kernel
theorem dL_law_303 : decode cL_law 303 = .ok (.invokevirtual 35, 3) := by decide +kernel
theorem dL_law_306 : decode cL_law 306 = .ok (.if_icmp .eq 876, 3) := by decide +kernel
theorem dL_law_309 : decode cL_law 309 = .ok (.iconst 0, 1) := by decide +kernel
theorem dL_law_310 : decode cL_law 310 = .ok (.ireturn, 1) := by decide +kernel
theorem dL_law_311 : decode cL_law 311 = .ok (.aload_n 1, 1) := by decide +kernel
theorem dL_law_312 : decode cL_law 312 = .ok (.aload_n 0, 1) := by decide +kernel
theorem dL_law_313 : decode cL_law 313 = .ok (.iload_n 3, 1) := by decide +kernel
theorem dL_law_314 : decode cL_law 314 = .ok (.iconst 1, 1) := by decide +kernel
theorem dL_law_315 : decode cL_law 315 = .ok (.iadd, 1) := by decide +kernel
theorem dL_law_316 : decode cL_law 316 = .ok (.iaload, 1) := by decide +kernel
theorem dL_law_317 : decode cL_law 317 = .ok (.aload_n 0, 1) := by decide +kernel
theorem dL_law_318 : decode cL_law 318 = .ok (.iload_n 3, 1) := by decide +kernel
theorem dL_law_319 : decode cL_law 319 = .ok (.iconst 2, 1) := by decide +kernel
theorem dL_law_320 : decode cL_law 320 = .ok (.iadd, 1) := by decide +kernel
theorem dL_law_321 : decode cL_law 321 = .ok (.iaload, 1) := by decide +kernel
theorem dL_law_322 : decode cL_law 322 = .ok (.invokevirtual 36, 3) := by decide +kernel
theorem dL_law_325 : decode cL_law 325 = .ok (.aload_n 2, 1) := by decide +kernel
theorem dL_law_326 : decode cL_law 326 = .ok (.aload_n 0, 1) := by decide +kernel
theorem dL_law_327 : decode cL_law 327 = .ok (.iload_n 3, 1) := by decide +kernel
theorem dL_law_328 : decode cL_law 328 = .ok (.iconst 1, 1) := by decide +kernel
theorem dL_law_329 : decode cL_law 329 = .ok (.iadd, 1) := by decide +kernel
theorem dL_law_330 : decode cL_law 330 = .ok (.iaload, 1) := by decide +kernel
theorem dL_law_331 : decode cL_law 331 = .ok (.aload_n 0, 1) := by decide +kernel
theorem dL_law_332 : decode cL_law 332 = .ok (.iload_n 3, 1) := by decide +kernel
theorem dL_law_333 : decode cL_law 333 = .ok (.iconst 2, 1) := by decide +kernel
theorem dL_law_334 : decode cL_law 334 = .ok (.iadd, 1) := by decide +kernel
theorem dL_law_335 : decode cL_law 335 = .ok (.iaload, 1) := by decide +kernel
theorem dL_law_336 : decode cL_law 336 = .ok (.invokevirtual 40, 3) := by decide +kernel
theorem dL_law_339 : decode cL_law 339 = .ok (.if_icmp .eq 843, 3) := by decide +kernel
theorem dL_law_342 : decode cL_law 342 = .ok (.iconst 0, 1) := by decide +kernel
theorem dL_law_343 : decode cL_law 343 = .ok (.ireturn, 1) := by decide +kernel
theorem dL_law_344 : decode cL_law 344 = .ok (.aload_n 1, 1) := by decide +kernel
theorem dL_law_345 : decode cL_law 345 = .ok (.aload_n 0, 1) := by decide +kernel
theorem dL_law_346 : decode cL_law 346 = .ok (.iload_n 3, 1) := by decide +kernel
theorem dL_law_347 : decode cL_law 347 = .ok (.iconst 1, 1) := by decide +kernel
theorem dL_law_348 : decode cL_law 348 = .ok (.iadd, 1) := by decide +kernel
theorem dL_law_349 : decode cL_law 349 = .ok (.iaload, 1) := by decide +kernel
theorem dL_law_350 : decode cL_law 350 = .ok (.aload_n 0, 1) := by decide +kernel
theorem dL_law_351 : decode cL_law 351 = .ok (.iload_n 3, 1) := by decide +kernel
theorem dL_law_352 : decode cL_law 352 = .ok (.iconst 2, 1) := by decide +kernel
theorem dL_law_353 : decode cL_law 353 = .ok (.iadd, 1) := by decide +kernel
theorem dL_law_354 : decode cL_law 354 = .ok (.iaload, 1) := by decide +kernel
theorem dL_law_355 : decode cL_law 355 = .ok (.invokevirtual 41, 3) := by decide +kernel
theorem dL_law_358 : decode cL_law 358 = .ok (.aload_n 2, 1) := by decide +kernel
theorem dL_law_359 : decode cL_law 359 = .ok (.aload_n 0, 1) := by decide +kernel
theorem dL_law_360 : decode cL_law 360 = .ok (.iload_n 3, 1) := by decide +kernel
theorem dL_law_361 : decode cL_law 361 = .ok (.iconst 1, 1) := by decide +kernel
theorem dL_law_362 : decode cL_law 362 = .ok (.iadd, 1) := by decide +kernel
theorem dL_law_363 : decode cL_law 363 = .ok (.iaload, 1) := by decide +kernel
theorem dL_law_364 : decode cL_law 364 = .ok (.aload_n 0, 1) := by decide +kernel
theorem dL_law_365 : decode cL_law 365 = .ok (.iload_n 3, 1) := by decide +kernel
theorem dL_law_366 : decode cL_law 366 = .ok (.iconst 2, 1) := by decide +kernel
theorem dL_law_367 : decode cL_law 367 = .ok (.iadd, 1) := by decide +kernel
theorem dL_law_368 : decode cL_law 368 = .ok (.iaload, 1) := by decide +kernel
theorem dL_law_369 : decode cL_law 369 = .ok (.invokevirtual 44, 3) := by decide +kernel
theorem dL_law_372 : decode cL_law 372 = .ok (.if_icmp .eq 810, 3) := by decide +kernel
theorem dL_law_375 : decode cL_law 375 = .ok (.iconst 0, 1) := by decide +kernel
theorem dL_law_376 : decode cL_law 376 = .ok (.ireturn, 1) := by decide +kernel
theorem dL_law_377 : decode cL_law 377 = .ok (.aload_n 1, 1) := by decide +kernel
theorem dL_law_378 : decode cL_law 378 = .ok (.aload_n 0, 1) := by decide +kernel
theorem dL_law_379 : decode cL_law 379 = .ok (.iload_n 3, 1) := by decide +kernel
theorem dL_law_380 : decode cL_law 380 = .ok (.iconst 1, 1) := by decide +kernel
theorem dL_law_381 : decode cL_law 381 = .ok (.iadd, 1) := by decide +kernel
theorem dL_law_382 : decode cL_law 382 = .ok (.iaload, 1) := by decide +kernel
theorem dL_law_383 : decode cL_law 383 = .ok (.invokevirtual 45, 3) := by decide +kernel
theorem dL_law_386 : decode cL_law 386 = .ok (.aload_n 2, 1) := by decide +kernel
theorem dL_law_387 : decode cL_law 387 = .ok (.aload_n 0, 1) := by decide +kernel
theorem dL_law_388 : decode cL_law 388 = .ok (.iload_n 3, 1) := by decide +kernel
theorem dL_law_389 : decode cL_law 389 = .ok (.iconst 1, 1) := by decide +kernel
theorem dL_law_390 : decode cL_law 390 = .ok (.iadd, 1) := by decide +kernel
theorem dL_law_391 : decode cL_law 391 = .ok (.iaload, 1) := by decide +kernel
theorem dL_law_392 : decode cL_law 392 = .ok (.invokevirtual 48, 3) := by decide +kernel
theorem dL_law_395 : decode cL_law 395 = .ok (.if_icmp .eq 787, 3) := by decide +kernel
theorem dL_law_398 : decode cL_law 398 = .ok (.iconst 0, 1) := by decide +kernel
theorem dL_law_399 : decode cL_law 399 = .ok (.ireturn, 1) := by decide +kernel
theorem dL_law_400 : decode cL_law 400 = .ok (.aload_n 1, 1) := by decide +kernel
theorem dL_law_401 : decode cL_law 401 = .ok (.invokevirtual 49, 3) := by decide +kernel
theorem dL_law_404 : decode cL_law 404 = .ok (.aload_n 2, 1) := by decide +kernel
theorem dL_law_405 : decode cL_law 405 = .ok (.invokevirtual 52, 3) := by decide +kernel
theorem dL_law_408 : decode cL_law 408 = .ok (.if_icmp .eq 774, 3) := by decide +kernel
theorem dL_law_411 : decode cL_law 411 = .ok (.iconst 0, 1) := by decide +kernel
theorem dL_law_412 : decode cL_law 412 = .ok (.ireturn, 1) := by decide +kernel
theorem dL_law_413 : decode cL_law 413 = .ok (.aload_n 1, 1) := by decide +kernel
theorem dL_law_414 : decode cL_law 414 = .ok (.aload_n 0, 1) := by decide +kernel
theorem dL_law_415 : decode cL_law 415 = .ok (.iload_n 3, 1) := by decide +kernel
theorem dL_law_416 : decode cL_law 416 = .ok (.iconst 1, 1) := by decide +kernel
theorem dL_law_417 : decode cL_law 417 = .ok (.iadd, 1) := by decide +kernel
theorem dL_law_418 : decode cL_law 418 = .ok (.iaload, 1) := by decide +kernel
theorem dL_law_419 : decode cL_law 419 = .ok (.aload_n 0, 1) := by decide +kernel
theorem dL_law_420 : decode cL_law 420 = .ok (.iload_n 3, 1) := by decide +kernel
theorem dL_law_421 : decode cL_law 421 = .ok (.iconst 2, 1) := by decide +kernel
theorem dL_law_422 : decode cL_law 422 = .ok (.iadd, 1) := by decide +kernel
theorem dL_law_423 : decode cL_law 423 = .ok (.iaload, 1) := by decide +kernel
theorem dL_law_424 : decode cL_law 424 = .ok (.invokevirtual 53, 3) := by decide +kernel
theorem dL_law_427 : decode cL_law 427 = .ok (.aload_n 2, 1) := by decide +kernel
theorem dL_law_428 : decode cL_law 428 = .ok (.aload_n 0, 1) := by decide +kernel
theorem dL_law_429 : decode cL_law 429 = .ok (.iload_n 3, 1) := by decide +kernel
theorem dL_law_430 : decode cL_law 430 = .ok (.iconst 1, 1) := by decide +kernel
theorem dL_law_431 : decode cL_law 431 = .ok (.iadd, 1) := by decide +kernel
theorem dL_law_432 : decode cL_law 432 = .ok (.iaload, 1) := by decide +kernel
theorem dL_law_433 : decode cL_law 433 = .ok (.aload_n 0, 1) := by decide +kernel
theorem dL_law_434 : decode cL_law 434 = .ok (.iload_n 3, 1) := by decide +kernel
theorem dL_law_435 : decode cL_law 435 = .ok (.iconst 2, 1) := by decide +kernel
theorem dL_law_436 : decode cL_law 436 = .ok (.iadd, 1) := by decide +kernel
theorem dL_law_437 : decode cL_law 437 = .ok (.iaload, 1) := by decide +kernel
theorem dL_law_438 : decode cL_law 438 = .ok (.invokevirtual 56, 3) := by decide +kernel
theorem dL_law_441 : decode cL_law 441 = .ok (.if_icmp .eq 741, 3) := by decide +kernel
theorem dL_law_444 : decode cL_law 444 = .ok (.iconst 0, 1) := by decide +kernel
theorem dL_law_445 : decode cL_law 445 = .ok (.ireturn, 1) := by decide +kernel
theorem dL_law_446 : decode cL_law 446 = .ok (.aload_n 1, 1) := by decide +kernel
theorem dL_law_447 : decode cL_law 447 = .ok (.aload_n 0, 1) := by decide +kernel
theorem dL_law_448 : decode cL_law 448 = .ok (.iload_n 3, 1) := by decide +kernel
theorem dL_law_449 : decode cL_law 449 = .ok (.iconst 1, 1) := by decide +kernel
theorem dL_law_450 : decode cL_law 450 = .ok (.iadd, 1) := by decide +kernel
theorem dL_law_451 : decode cL_law 451 = .ok (.iaload, 1) := by decide +kernel
theorem dL_law_452 : decode cL_law 452 = .ok (.aload_n 0, 1) := by decide +kernel
theorem dL_law_453 : decode cL_law 453 = .ok (.iload_n 3, 1) := by decide +kernel
theorem dL_law_454 : decode cL_law 454 = .ok (.iconst 2, 1) := by decide +kernel
theorem dL_law_455 : decode cL_law 455 = .ok (.iadd, 1) := by decide +kernel
theorem dL_law_456 : decode cL_law 456 = .ok (.iaload, 1) := by decide +kernel
theorem dL_law_457 : decode cL_law 457 = .ok (.invokevirtual 57, 3) := by decide +kernel
theorem dL_law_460 : decode cL_law 460 = .ok (.aload_n 2, 1) := by decide +kernel
theorem dL_law_461 : decode cL_law 461 = .ok (.aload_n 0, 1) := by decide +kernel
theorem dL_law_462 : decode cL_law 462 = .ok (.iload_n 3, 1) := by decide +kernel
theorem dL_law_463 : decode cL_law 463 = .ok (.iconst 1, 1) := by decide +kernel
theorem dL_law_464 : decode cL_law 464 = .ok (.iadd, 1) := by decide +kernel
theorem dL_law_465 : decode cL_law 465 = .ok (.iaload, 1) := by decide +kernel
theorem dL_law_466 : decode cL_law 466 = .ok (.aload_n 0, 1) := by decide +kernel
theorem dL_law_467 : decode cL_law 467 = .ok (.iload_n 3, 1) := by decide +kernel
theorem dL_law_468 : decode cL_law 468 = .ok (.iconst 2, 1) := by decide +kernel
theorem dL_law_469 : decode cL_law 469 = .ok (.iadd, 1) := by decide +kernel
theorem dL_law_470 : decode cL_law 470 = .ok (.iaload, 1) := by decide +kernel
theorem dL_law_471 : decode cL_law 471 = .ok (.invokevirtual 60, 3) := by decide +kernel
theorem dL_law_474 : decode cL_law 474 = .ok (.if_icmp .eq 708, 3) := by decide +kernel
theorem dL_law_477 : decode cL_law 477 = .ok (.iconst 0, 1) := by decide +kernel
theorem dL_law_478 : decode cL_law 478 = .ok (.ireturn, 1) := by decide +kernel
theorem dL_law_479 : decode cL_law 479 = .ok (.aload_n 1, 1) := by decide +kernel
theorem dL_law_480 : decode cL_law 480 = .ok (.aload_n 0, 1) := by decide +kernel
theorem dL_law_481 : decode cL_law 481 = .ok (.iload_n 3, 1) := by decide +kernel
theorem dL_law_482 : decode cL_law 482 = .ok (.iconst 1, 1) := by decide +kernel
theorem dL_law_483 : decode cL_law 483 = .ok (.iadd, 1) := by decide +kernel
theorem dL_law_484 : decode cL_law 484 = .ok (.iaload, 1) := by decide +kernel
theorem dL_law_485 : decode cL_law 485 = .ok (.aload_n 0, 1) := by decide +kernel
theorem dL_law_486 : decode cL_law 486 = .ok (.iload_n 3, 1) := by decide +kernel
theorem dL_law_487 : decode cL_law 487 = .ok (.iconst 2, 1) := by decide +kernel
theorem dL_law_488 : decode cL_law 488 = .ok (.iadd, 1) := by decide +kernel
theorem dL_law_489 : decode cL_law 489 = .ok (.iaload, 1) := by decide +kernel
theorem dL_law_490 : decode cL_law 490 = .ok (.aload_n 0, 1) := by decide +kernel
theorem dL_law_491 : decode cL_law 491 = .ok (.iload_n 3, 1) := by decide +kernel
theorem dL_law_492 : decode cL_law 492 = .ok (.iconst 3, 1) := by decide +kernel
theorem dL_law_493 : decode cL_law 493 = .ok (.iadd, 1) := by decide +kernel
theorem dL_law_494 : decode cL_law 494 = .ok (.iaload, 1) := by decide +kernel
theorem dL_law_495 : decode cL_law 495 = .ok (.invokevirtual 61, 3) := by decide +kernel
theorem dL_law_498 : decode cL_law 498 = .ok (.aload_n 2, 1) := by decide +kernel
theorem dL_law_499 : decode cL_law 499 = .ok (.aload_n 0, 1) := by decide +kernel
theorem dL_law_500 : decode cL_law 500 = .ok (.iload_n 3, 1) := by decide +kernel
theorem dL_law_501 : decode cL_law 501 = .ok (.iconst 1, 1) := by decide +kernel
theorem dL_law_502 : decode cL_law 502 = .ok (.iadd, 1) := by decide +kernel
theorem dL_law_503 : decode cL_law 503 = .ok (.iaload, 1) := by decide +kernel
theorem dL_law_504 : decode cL_law 504 = .ok (.aload_n 0, 1) := by decide +kernel
theorem dL_law_505 : decode cL_law 505 = .ok (.iload_n 3, 1) := by decide +kernel
theorem dL_law_506 : decode cL_law 506 = .ok (.iconst 2, 1) := by decide +kernel
theorem dL_law_507 : decode cL_law 507 = .ok (.iadd, 1) := by decide +kernel
theorem dL_law_508 : decode cL_law 508 = .ok (.iaload, 1) := by decide +kernel
theorem dL_law_509 : decode cL_law 509 = .ok (.aload_n 0, 1) := by decide +kernel
theorem dL_law_510 : decode cL_law 510 = .ok (.iload_n 3, 1) := by decide +kernel
theorem dL_law_511 : decode cL_law 511 = .ok (.iconst 3, 1) := by decide +kernel
theorem dL_law_512 : decode cL_law 512 = .ok (.iadd, 1) := by decide +kernel
theorem dL_law_513 : decode cL_law 513 = .ok (.iaload, 1) := by decide +kernel
theorem dL_law_514 : decode cL_law 514 = .ok (.invokevirtual 65, 3) := by decide +kernel
theorem dL_law_517 : decode cL_law 517 = .ok (.if_icmp .eq 665, 3) := by decide +kernel
theorem dL_law_520 : decode cL_law 520 = .ok (.iconst 0, 1) := by decide +kernel
theorem dL_law_521 : decode cL_law 521 = .ok (.ireturn, 1) := by decide +kernel
theorem dL_law_522 : decode cL_law 522 = .ok (.aload_n 1, 1) := by decide +kernel
theorem dL_law_523 : decode cL_law 523 = .ok (.aload_n 0, 1) := by decide +kernel
theorem dL_law_524 : decode cL_law 524 = .ok (.iload_n 3, 1) := by decide +kernel
theorem dL_law_525 : decode cL_law 525 = .ok (.iconst 1, 1) := by decide +kernel
theorem dL_law_526 : decode cL_law 526 = .ok (.iadd, 1) := by decide +kernel
theorem dL_law_527 : decode cL_law 527 = .ok (.iaload, 1) := by decide +kernel
theorem dL_law_528 : decode cL_law 528 = .ok (.invokevirtual 66, 3) := by decide +kernel
theorem dL_law_531 : decode cL_law 531 = .ok (.aload_n 2, 1) := by decide +kernel
theorem dL_law_532 : decode cL_law 532 = .ok (.aload_n 0, 1) := by decide +kernel
theorem dL_law_533 : decode cL_law 533 = .ok (.iload_n 3, 1) := by decide +kernel
theorem dL_law_534 : decode cL_law 534 = .ok (.iconst 1, 1) := by decide +kernel
theorem dL_law_535 : decode cL_law 535 = .ok (.iadd, 1) := by decide +kernel
theorem dL_law_536 : decode cL_law 536 = .ok (.iaload, 1) := by decide +kernel
theorem dL_law_537 : decode cL_law 537 = .ok (.invokevirtual 69, 3) := by decide +kernel
theorem dL_law_540 : decode cL_law 540 = .ok (.if_icmp .eq 642, 3) := by decide +kernel
theorem dL_law_543 : decode cL_law 543 = .ok (.iconst 0, 1) := by decide +kernel
theorem dL_law_544 : decode cL_law 544 = .ok (.ireturn, 1) := by decide +kernel
theorem dL_law_545 : decode cL_law 545 = .ok (.aload_n 1, 1) := by decide +kernel
theorem dL_law_546 : decode cL_law 546 = .ok (.invokevirtual 70, 3) := by decide +kernel
theorem dL_law_549 : decode cL_law 549 = .ok (.aload_n 2, 1) := by decide +kernel
theorem dL_law_550 : decode cL_law 550 = .ok (.invokevirtual 73, 3) := by decide +kernel
theorem dL_law_553 : decode cL_law 553 = .ok (.if_icmp .eq 629, 3) := by decide +kernel
theorem dL_law_556 : decode cL_law 556 = .ok (.iconst 0, 1) := by decide +kernel
theorem dL_law_557 : decode cL_law 557 = .ok (.ireturn, 1) := by decide +kernel
theorem dL_law_558 : decode cL_law 558 = .ok (.aload_n 1, 1) := by decide +kernel
theorem dL_law_559 : decode cL_law 559 = .ok (.aload_n 0, 1) := by decide +kernel
theorem dL_law_560 : decode cL_law 560 = .ok (.iload_n 3, 1) := by decide +kernel
theorem dL_law_561 : decode cL_law 561 = .ok (.iconst 1, 1) := by decide +kernel
theorem dL_law_562 : decode cL_law 562 = .ok (.iadd, 1) := by decide +kernel
theorem dL_law_563 : decode cL_law 563 = .ok (.iaload, 1) := by decide +kernel
theorem dL_law_564 : decode cL_law 564 = .ok (.aload_n 0, 1) := by decide +kernel
theorem dL_law_565 : decode cL_law 565 = .ok (.iload_n 3, 1) := by decide +kernel
theorem dL_law_566 : decode cL_law 566 = .ok (.iconst 2, 1) := by decide +kernel
theorem dL_law_567 : decode cL_law 567 = .ok (.iadd, 1) := by decide +kernel
theorem dL_law_568 : decode cL_law 568 = .ok (.iaload, 1) := by decide +kernel
theorem dL_law_569 : decode cL_law 569 = .ok (.aload_n 0, 1) := by decide +kernel
theorem dL_law_570 : decode cL_law 570 = .ok (.iload_n 3, 1) := by decide +kernel
theorem dL_law_571 : decode cL_law 571 = .ok (.iconst 3, 1) := by decide +kernel
theorem dL_law_572 : decode cL_law 572 = .ok (.iadd, 1) := by decide +kernel
theorem dL_law_573 : decode cL_law 573 = .ok (.iaload, 1) := by decide +kernel
theorem dL_law_574 : decode cL_law 574 = .ok (.invokevirtual 74, 3) := by decide +kernel
theorem dL_law_577 : decode cL_law 577 = .ok (.aload_n 2, 1) := by decide +kernel
theorem dL_law_578 : decode cL_law 578 = .ok (.aload_n 0, 1) := by decide +kernel
theorem dL_law_579 : decode cL_law 579 = .ok (.iload_n 3, 1) := by decide +kernel
theorem dL_law_580 : decode cL_law 580 = .ok (.iconst 1, 1) := by decide +kernel
theorem dL_law_581 : decode cL_law 581 = .ok (.iadd, 1) := by decide +kernel
theorem dL_law_582 : decode cL_law 582 = .ok (.iaload, 1) := by decide +kernel
theorem dL_law_583 : decode cL_law 583 = .ok (.aload_n 0, 1) := by decide +kernel
theorem dL_law_584 : decode cL_law 584 = .ok (.iload_n 3, 1) := by decide +kernel
theorem dL_law_585 : decode cL_law 585 = .ok (.iconst 2, 1) := by decide +kernel
theorem dL_law_586 : decode cL_law 586 = .ok (.iadd, 1) := by decide +kernel
theorem dL_law_587 : decode cL_law 587 = .ok (.iaload, 1) := by decide +kernel
theorem dL_law_588 : decode cL_law 588 = .ok (.aload_n 0, 1) := by decide +kernel
theorem dL_law_589 : decode cL_law 589 = .ok (.iload_n 3, 1) := by decide +kernel
theorem dL_law_590 : decode cL_law 590 = .ok (.iconst 3, 1) := by decide +kernel
theorem dL_law_591 : decode cL_law 591 = .ok (.iadd, 1) := by decide +kernel
theorem dL_law_592 : decode cL_law 592 = .ok (.iaload, 1) := by decide +kernel
theorem dL_law_593 : decode cL_law 593 = .ok (.invokevirtual 77, 3) := by decide +kernel
theorem dL_law_596 : decode cL_law 596 = .ok (.if_icmp .eq 586, 3) := by decide +kernel
theorem dL_law_599 : decode cL_law 599 = .ok (.iconst 0, 1) := by decide +kernel
theorem dL_law_600 : decode cL_law 600 = .ok (.ireturn, 1) := by decide +kernel
theorem dL_law_601 : decode cL_law 601 = .ok (.aload_n 1, 1) := by decide +kernel
theorem dL_law_602 : decode cL_law 602 = .ok (.aload_n 0, 1) := by decide +kernel
theorem dL_law_603 : decode cL_law 603 = .ok (.iload_n 3, 1) := by decide +kernel
theorem dL_law_604 : decode cL_law 604 = .ok (.iconst 1, 1) := by decide +kernel
theorem dL_law_605 : decode cL_law 605 = .ok (.iadd, 1) := by decide +kernel
theorem dL_law_606 : decode cL_law 606 = .ok (.iaload, 1) := by decide +kernel
theorem dL_law_607 : decode cL_law 607 = .ok (.invokevirtual 78, 3) := by decide +kernel
theorem dL_law_610 : decode cL_law 610 = .ok (.aload_n 2, 1) := by decide +kernel
theorem dL_law_611 : decode cL_law 611 = .ok (.aload_n 0, 1) := by decide +kernel
theorem dL_law_612 : decode cL_law 612 = .ok (.iload_n 3, 1) := by decide +kernel
theorem dL_law_613 : decode cL_law 613 = .ok (.iconst 1, 1) := by decide +kernel
theorem dL_law_614 : decode cL_law 614 = .ok (.iadd, 1) := by decide +kernel
theorem dL_law_615 : decode cL_law 615 = .ok (.iaload, 1) := by decide +kernel
theorem dL_law_616 : decode cL_law 616 = .ok (.invokevirtual 81, 3) := by decide +kernel
theorem dL_law_619 : decode cL_law 619 = .ok (.if_icmp .eq 563, 3) := by decide +kernel
theorem dL_law_622 : decode cL_law 622 = .ok (.iconst 0, 1) := by decide +kernel
theorem dL_law_623 : decode cL_law 623 = .ok (.ireturn, 1) := by decide +kernel
theorem dL_law_624 : decode cL_law 624 = .ok (.aload_n 1, 1) := by decide +kernel
theorem dL_law_625 : decode cL_law 625 = .ok (.aload_n 0, 1) := by decide +kernel
theorem dL_law_626 : decode cL_law 626 = .ok (.iload_n 3, 1) := by decide +kernel
theorem dL_law_627 : decode cL_law 627 = .ok (.iconst 1, 1) := by decide +kernel
theorem dL_law_628 : decode cL_law 628 = .ok (.iadd, 1) := by decide +kernel
theorem dL_law_629 : decode cL_law 629 = .ok (.iaload, 1) := by decide +kernel
theorem dL_law_630 : decode cL_law 630 = .ok (.invokevirtual 82, 3) := by decide +kernel
theorem dL_law_633 : decode cL_law 633 = .ok (.aload_n 2, 1) := by decide +kernel
theorem dL_law_634 : decode cL_law 634 = .ok (.aload_n 0, 1) := by decide +kernel
theorem dL_law_635 : decode cL_law 635 = .ok (.iload_n 3, 1) := by decide +kernel
theorem dL_law_636 : decode cL_law 636 = .ok (.iconst 1, 1) := by decide +kernel
theorem dL_law_637 : decode cL_law 637 = .ok (.iadd, 1) := by decide +kernel
theorem dL_law_638 : decode cL_law 638 = .ok (.iaload, 1) := by decide +kernel
theorem dL_law_639 : decode cL_law 639 = .ok (.invokevirtual 85, 3) := by decide +kernel
theorem dL_law_642 : decode cL_law 642 = .ok (.if_icmp .eq 540, 3) := by decide +kernel
theorem dL_law_645 : decode cL_law 645 = .ok (.iconst 0, 1) := by decide +kernel
theorem dL_law_646 : decode cL_law 646 = .ok (.ireturn, 1) := by decide +kernel
theorem dL_law_647 : decode cL_law 647 = .ok (.aload_n 1, 1) := by decide +kernel
theorem dL_law_648 : decode cL_law 648 = .ok (.aload_n 0, 1) := by decide +kernel
theorem dL_law_649 : decode cL_law 649 = .ok (.iload_n 3, 1) := by decide +kernel
theorem dL_law_650 : decode cL_law 650 = .ok (.iconst 1, 1) := by decide +kernel
theorem dL_law_651 : decode cL_law 651 = .ok (.iadd, 1) := by decide +kernel
theorem dL_law_652 : decode cL_law 652 = .ok (.iaload, 1) := by decide +kernel
theorem dL_law_653 : decode cL_law 653 = .ok (.aload_n 0, 1) := by decide +kernel
theorem dL_law_654 : decode cL_law 654 = .ok (.iload_n 3, 1) := by decide +kernel
theorem dL_law_655 : decode cL_law 655 = .ok (.iconst 2, 1) := by decide +kernel
theorem dL_law_656 : decode cL_law 656 = .ok (.iadd, 1) := by decide +kernel
theorem dL_law_657 : decode cL_law 657 = .ok (.iaload, 1) := by decide +kernel
theorem dL_law_658 : decode cL_law 658 = .ok (.invokevirtual 86, 3) := by decide +kernel
theorem dL_law_661 : decode cL_law 661 = .ok (.aload_n 2, 1) := by decide +kernel
theorem dL_law_662 : decode cL_law 662 = .ok (.aload_n 0, 1) := by decide +kernel
theorem dL_law_663 : decode cL_law 663 = .ok (.iload_n 3, 1) := by decide +kernel
theorem dL_law_664 : decode cL_law 664 = .ok (.iconst 1, 1) := by decide +kernel
theorem dL_law_665 : decode cL_law 665 = .ok (.iadd, 1) := by decide +kernel
theorem dL_law_666 : decode cL_law 666 = .ok (.iaload, 1) := by decide +kernel
theorem dL_law_667 : decode cL_law 667 = .ok (.aload_n 0, 1) := by decide +kernel
theorem dL_law_668 : decode cL_law 668 = .ok (.iload_n 3, 1) := by decide +kernel
theorem dL_law_669 : decode cL_law 669 = .ok (.iconst 2, 1) := by decide +kernel
theorem dL_law_670 : decode cL_law 670 = .ok (.iadd, 1) := by decide +kernel
theorem dL_law_671 : decode cL_law 671 = .ok (.iaload, 1) := by decide +kernel
theorem dL_law_672 : decode cL_law 672 = .ok (.invokevirtual 89, 3) := by decide +kernel
theorem dL_law_675 : decode cL_law 675 = .ok (.if_icmp .eq 507, 3) := by decide +kernel
theorem dL_law_678 : decode cL_law 678 = .ok (.iconst 0, 1) := by decide +kernel
theorem dL_law_679 : decode cL_law 679 = .ok (.ireturn, 1) := by decide +kernel
theorem dL_law_680 : decode cL_law 680 = .ok (.aload_n 1, 1) := by decide +kernel
theorem dL_law_681 : decode cL_law 681 = .ok (.aload_n 0, 1) := by decide +kernel
theorem dL_law_682 : decode cL_law 682 = .ok (.iload_n 3, 1) := by decide +kernel
theorem dL_law_683 : decode cL_law 683 = .ok (.iconst 1, 1) := by decide +kernel
theorem dL_law_684 : decode cL_law 684 = .ok (.iadd, 1) := by decide +kernel
theorem dL_law_685 : decode cL_law 685 = .ok (.iaload, 1) := by decide +kernel
theorem dL_law_686 : decode cL_law 686 = .ok (.aload_n 0, 1) := by decide +kernel
theorem dL_law_687 : decode cL_law 687 = .ok (.iload_n 3, 1) := by decide +kernel
theorem dL_law_688 : decode cL_law 688 = .ok (.iconst 2, 1) := by decide +kernel
theorem dL_law_689 : decode cL_law 689 = .ok (.iadd, 1) := by decide +kernel
theorem dL_law_690 : decode cL_law 690 = .ok (.iaload, 1) := by decide +kernel
theorem dL_law_691 : decode cL_law 691 = .ok (.aload_n 0, 1) := by decide +kernel
theorem dL_law_692 : decode cL_law 692 = .ok (.iload_n 3, 1) := by decide +kernel
theorem dL_law_693 : decode cL_law 693 = .ok (.iconst 3, 1) := by decide +kernel
theorem dL_law_694 : decode cL_law 694 = .ok (.iadd, 1) := by decide +kernel
theorem dL_law_695 : decode cL_law 695 = .ok (.iaload, 1) := by decide +kernel
theorem dL_law_696 : decode cL_law 696 = .ok (.invokevirtual 90, 3) := by decide +kernel
theorem dL_law_699 : decode cL_law 699 = .ok (.aload_n 2, 1) := by decide +kernel
theorem dL_law_700 : decode cL_law 700 = .ok (.aload_n 0, 1) := by decide +kernel
theorem dL_law_701 : decode cL_law 701 = .ok (.iload_n 3, 1) := by decide +kernel
theorem dL_law_702 : decode cL_law 702 = .ok (.iconst 1, 1) := by decide +kernel
theorem dL_law_703 : decode cL_law 703 = .ok (.iadd, 1) := by decide +kernel
theorem dL_law_704 : decode cL_law 704 = .ok (.iaload, 1) := by decide +kernel
theorem dL_law_705 : decode cL_law 705 = .ok (.aload_n 0, 1) := by decide +kernel
theorem dL_law_706 : decode cL_law 706 = .ok (.iload_n 3, 1) := by decide +kernel
theorem dL_law_707 : decode cL_law 707 = .ok (.iconst 2, 1) := by decide +kernel
theorem dL_law_708 : decode cL_law 708 = .ok (.iadd, 1) := by decide +kernel
theorem dL_law_709 : decode cL_law 709 = .ok (.iaload, 1) := by decide +kernel
theorem dL_law_710 : decode cL_law 710 = .ok (.aload_n 0, 1) := by decide +kernel
theorem dL_law_711 : decode cL_law 711 = .ok (.iload_n 3, 1) := by decide +kernel
theorem dL_law_712 : decode cL_law 712 = .ok (.iconst 3, 1) := by decide +kernel
theorem dL_law_713 : decode cL_law 713 = .ok (.iadd, 1) := by decide +kernel
theorem dL_law_714 : decode cL_law 714 = .ok (.iaload, 1) := by decide +kernel
theorem dL_law_715 : decode cL_law 715 = .ok (.invokevirtual 93, 3) := by decide +kernel
theorem dL_law_718 : decode cL_law 718 = .ok (.if_icmp .eq 464, 3) := by decide +kernel
theorem dL_law_721 : decode cL_law 721 = .ok (.iconst 0, 1) := by decide +kernel
theorem dL_law_722 : decode cL_law 722 = .ok (.ireturn, 1) := by decide +kernel
theorem dL_law_723 : decode cL_law 723 = .ok (.aload_n 1, 1) := by decide +kernel
theorem dL_law_724 : decode cL_law 724 = .ok (.aload_n 0, 1) := by decide +kernel
theorem dL_law_725 : decode cL_law 725 = .ok (.iload_n 3, 1) := by decide +kernel
theorem dL_law_726 : decode cL_law 726 = .ok (.iconst 1, 1) := by decide +kernel
theorem dL_law_727 : decode cL_law 727 = .ok (.iadd, 1) := by decide +kernel
theorem dL_law_728 : decode cL_law 728 = .ok (.iaload, 1) := by decide +kernel
theorem dL_law_729 : decode cL_law 729 = .ok (.aload_n 0, 1) := by decide +kernel
theorem dL_law_730 : decode cL_law 730 = .ok (.iload_n 3, 1) := by decide +kernel
theorem dL_law_731 : decode cL_law 731 = .ok (.iconst 2, 1) := by decide +kernel
theorem dL_law_732 : decode cL_law 732 = .ok (.iadd, 1) := by decide +kernel
theorem dL_law_733 : decode cL_law 733 = .ok (.iaload, 1) := by decide +kernel
theorem dL_law_734 : decode cL_law 734 = .ok (.aload_n 0, 1) := by decide +kernel
theorem dL_law_735 : decode cL_law 735 = .ok (.iload_n 3, 1) := by decide +kernel
theorem dL_law_736 : decode cL_law 736 = .ok (.iconst 3, 1) := by decide +kernel
theorem dL_law_737 : decode cL_law 737 = .ok (.iadd, 1) := by decide +kernel
theorem dL_law_738 : decode cL_law 738 = .ok (.iaload, 1) := by decide +kernel
theorem dL_law_739 : decode cL_law 739 = .ok (.aload_n 0, 1) := by decide +kernel
theorem dL_law_740 : decode cL_law 740 = .ok (.iload_n 3, 1) := by decide +kernel
theorem dL_law_741 : decode cL_law 741 = .ok (.iconst 4, 1) := by decide +kernel
theorem dL_law_742 : decode cL_law 742 = .ok (.iadd, 1) := by decide +kernel
theorem dL_law_743 : decode cL_law 743 = .ok (.iaload, 1) := by decide +kernel
theorem dL_law_744 : decode cL_law 744 = .ok (.aload_n 0, 1) := by decide +kernel
theorem dL_law_745 : decode cL_law 745 = .ok (.iload_n 3, 1) := by decide +kernel
theorem dL_law_746 : decode cL_law 746 = .ok (.iconst 5, 1) := by decide +kernel
theorem dL_law_747 : decode cL_law 747 = .ok (.iadd, 1) := by decide +kernel
theorem dL_law_748 : decode cL_law 748 = .ok (.iaload, 1) := by decide +kernel
theorem dL_law_749 : decode cL_law 749 = .ok (.invokevirtual 94, 3) := by decide +kernel
theorem dL_law_752 : decode cL_law 752 = .ok (.aload_n 2, 1) := by decide +kernel
theorem dL_law_753 : decode cL_law 753 = .ok (.aload_n 0, 1) := by decide +kernel
theorem dL_law_754 : decode cL_law 754 = .ok (.iload_n 3, 1) := by decide +kernel
theorem dL_law_755 : decode cL_law 755 = .ok (.iconst 1, 1) := by decide +kernel
theorem dL_law_756 : decode cL_law 756 = .ok (.iadd, 1) := by decide +kernel
theorem dL_law_757 : decode cL_law 757 = .ok (.iaload, 1) := by decide +kernel
theorem dL_law_758 : decode cL_law 758 = .ok (.aload_n 0, 1) := by decide +kernel
theorem dL_law_759 : decode cL_law 759 = .ok (.iload_n 3, 1) := by decide +kernel
theorem dL_law_760 : decode cL_law 760 = .ok (.iconst 2, 1) := by decide +kernel
theorem dL_law_761 : decode cL_law 761 = .ok (.iadd, 1) := by decide +kernel
theorem dL_law_762 : decode cL_law 762 = .ok (.iaload, 1) := by decide +kernel
theorem dL_law_763 : decode cL_law 763 = .ok (.aload_n 0, 1) := by decide +kernel
theorem dL_law_764 : decode cL_law 764 = .ok (.iload_n 3, 1) := by decide +kernel
theorem dL_law_765 : decode cL_law 765 = .ok (.iconst 3, 1) := by decide +kernel
theorem dL_law_766 : decode cL_law 766 = .ok (.iadd, 1) := by decide +kernel
theorem dL_law_767 : decode cL_law 767 = .ok (.iaload, 1) := by decide +kernel
theorem dL_law_768 : decode cL_law 768 = .ok (.aload_n 0, 1) := by decide +kernel
theorem dL_law_769 : decode cL_law 769 = .ok (.iload_n 3, 1) := by decide +kernel
theorem dL_law_770 : decode cL_law 770 = .ok (.iconst 4, 1) := by decide +kernel
theorem dL_law_771 : decode cL_law 771 = .ok (.iadd, 1) := by decide +kernel
theorem dL_law_772 : decode cL_law 772 = .ok (.iaload, 1) := by decide +kernel
theorem dL_law_773 : decode cL_law 773 = .ok (.aload_n 0, 1) := by decide +kernel
theorem dL_law_774 : decode cL_law 774 = .ok (.iload_n 3, 1) := by decide +kernel
theorem dL_law_775 : decode cL_law 775 = .ok (.iconst 5, 1) := by decide +kernel
theorem dL_law_776 : decode cL_law 776 = .ok (.iadd, 1) := by decide +kernel
theorem dL_law_777 : decode cL_law 777 = .ok (.iaload, 1) := by decide +kernel
theorem dL_law_778 : decode cL_law 778 = .ok (.invokevirtual 97, 3) := by decide +kernel
theorem dL_law_781 : decode cL_law 781 = .ok (.if_icmp .eq 401, 3) := by decide +kernel
theorem dL_law_784 : decode cL_law 784 = .ok (.iconst 0, 1) := by decide +kernel
theorem dL_law_785 : decode cL_law 785 = .ok (.ireturn, 1) := by decide +kernel
theorem dL_law_786 : decode cL_law 786 = .ok (.aload_n 1, 1) := by decide +kernel
theorem dL_law_787 : decode cL_law 787 = .ok (.aload_n 0, 1) := by decide +kernel
theorem dL_law_788 : decode cL_law 788 = .ok (.iload_n 3, 1) := by decide +kernel
theorem dL_law_789 : decode cL_law 789 = .ok (.iconst 1, 1) := by decide +kernel
theorem dL_law_790 : decode cL_law 790 = .ok (.iadd, 1) := by decide +kernel
theorem dL_law_791 : decode cL_law 791 = .ok (.iaload, 1) := by decide +kernel
theorem dL_law_792 : decode cL_law 792 = .ok (.aload_n 0, 1) := by decide +kernel
theorem dL_law_793 : decode cL_law 793 = .ok (.iload_n 3, 1) := by decide +kernel
theorem dL_law_794 : decode cL_law 794 = .ok (.iconst 2, 1) := by decide +kernel
theorem dL_law_795 : decode cL_law 795 = .ok (.iadd, 1) := by decide +kernel
theorem dL_law_796 : decode cL_law 796 = .ok (.iaload, 1) := by decide +kernel
theorem dL_law_797 : decode cL_law 797 = .ok (.aload_n 0, 1) := by decide +kernel
theorem dL_law_798 : decode cL_law 798 = .ok (.iload_n 3, 1) := by decide +kernel
theorem dL_law_799 : decode cL_law 799 = .ok (.iconst 3, 1) := by decide +kernel
theorem dL_law_800 : decode cL_law 800 = .ok (.iadd, 1) := by decide +kernel
theorem dL_law_801 : decode cL_law 801 = .ok (.iaload, 1) := by decide +kernel
theorem dL_law_802 : decode cL_law 802 = .ok (.invokevirtual 98, 3) := by decide +kernel
theorem dL_law_805 : decode cL_law 805 = .ok (.aload_n 2, 1) := by decide +kernel
theorem dL_law_806 : decode cL_law 806 = .ok (.aload_n 0, 1) := by decide +kernel
theorem dL_law_807 : decode cL_law 807 = .ok (.iload_n 3, 1) := by decide +kernel
theorem dL_law_808 : decode cL_law 808 = .ok (.iconst 1, 1) := by decide +kernel
theorem dL_law_809 : decode cL_law 809 = .ok (.iadd, 1) := by decide +kernel
theorem dL_law_810 : decode cL_law 810 = .ok (.iaload, 1) := by decide +kernel
theorem dL_law_811 : decode cL_law 811 = .ok (.aload_n 0, 1) := by decide +kernel
theorem dL_law_812 : decode cL_law 812 = .ok (.iload_n 3, 1) := by decide +kernel
theorem dL_law_813 : decode cL_law 813 = .ok (.iconst 2, 1) := by decide +kernel
theorem dL_law_814 : decode cL_law 814 = .ok (.iadd, 1) := by decide +kernel
theorem dL_law_815 : decode cL_law 815 = .ok (.iaload, 1) := by decide +kernel
theorem dL_law_816 : decode cL_law 816 = .ok (.aload_n 0, 1) := by decide +kernel
theorem dL_law_817 : decode cL_law 817 = .ok (.iload_n 3, 1) := by decide +kernel
theorem dL_law_818 : decode cL_law 818 = .ok (.iconst 3, 1) := by decide +kernel
theorem dL_law_819 : decode cL_law 819 = .ok (.iadd, 1) := by decide +kernel
theorem dL_law_820 : decode cL_law 820 = .ok (.iaload, 1) := by decide +kernel
theorem dL_law_821 : decode cL_law 821 = .ok (.invokevirtual 101, 3) := by decide +kernel
theorem dL_law_824 : decode cL_law 824 = .ok (.if_icmp .eq 358, 3) := by decide +kernel
theorem dL_law_827 : decode cL_law 827 = .ok (.iconst 0, 1) := by decide +kernel
theorem dL_law_828 : decode cL_law 828 = .ok (.ireturn, 1) := by decide +kernel
theorem dL_law_829 : decode cL_law 829 = .ok (.aload_n 1, 1) := by decide +kernel
theorem dL_law_830 : decode cL_law 830 = .ok (.aload_n 0, 1) := by decide +kernel
theorem dL_law_831 : decode cL_law 831 = .ok (.iload_n 3, 1) := by decide +kernel
theorem dL_law_832 : decode cL_law 832 = .ok (.iconst 1, 1) := by decide +kernel
theorem dL_law_833 : decode cL_law 833 = .ok (.iadd, 1) := by decide +kernel
theorem dL_law_834 : decode cL_law 834 = .ok (.iaload, 1) := by decide +kernel
theorem dL_law_835 : decode cL_law 835 = .ok (.aload_n 0, 1) := by decide +kernel
theorem dL_law_836 : decode cL_law 836 = .ok (.iload_n 3, 1) := by decide +kernel
theorem dL_law_837 : decode cL_law 837 = .ok (.iconst 2, 1) := by decide +kernel
theorem dL_law_838 : decode cL_law 838 = .ok (.iadd, 1) := by decide +kernel
theorem dL_law_839 : decode cL_law 839 = .ok (.iaload, 1) := by decide +kernel
theorem dL_law_840 : decode cL_law 840 = .ok (.invokevirtual 102, 3) := by decide +kernel
theorem dL_law_843 : decode cL_law 843 = .ok (.aload_n 2, 1) := by decide +kernel
theorem dL_law_844 : decode cL_law 844 = .ok (.aload_n 0, 1) := by decide +kernel
theorem dL_law_845 : decode cL_law 845 = .ok (.iload_n 3, 1) := by decide +kernel
theorem dL_law_846 : decode cL_law 846 = .ok (.iconst 1, 1) := by decide +kernel
theorem dL_law_847 : decode cL_law 847 = .ok (.iadd, 1) := by decide +kernel
theorem dL_law_848 : decode cL_law 848 = .ok (.iaload, 1) := by decide +kernel
theorem dL_law_849 : decode cL_law 849 = .ok (.aload_n 0, 1) := by decide +kernel
theorem dL_law_850 : decode cL_law 850 = .ok (.iload_n 3, 1) := by decide +kernel
theorem dL_law_851 : decode cL_law 851 = .ok (.iconst 2, 1) := by decide +kernel
theorem dL_law_852 : decode cL_law 852 = .ok (.iadd, 1) := by decide +kernel
theorem dL_law_853 : decode cL_law 853 = .ok (.iaload, 1) := by decide +kernel
theorem dL_law_854 : decode cL_law 854 = .ok (.invokevirtual 105, 3) := by decide +kernel
theorem dL_law_857 : decode cL_law 857 = .ok (.if_icmp .eq 325, 3) := by decide +kernel
theorem dL_law_860 : decode cL_law 860 = .ok (.iconst 0, 1) := by decide +kernel
theorem dL_law_861 : decode cL_law 861 = .ok (.ireturn, 1) := by decide +kernel
theorem dL_law_862 : decode cL_law 862 = .ok (.aload_n 1, 1) := by decide +kernel
theorem dL_law_863 : decode cL_law 863 = .ok (.aload_n 0, 1) := by decide +kernel
theorem dL_law_864 : decode cL_law 864 = .ok (.iload_n 3, 1) := by decide +kernel
theorem dL_law_865 : decode cL_law 865 = .ok (.iconst 1, 1) := by decide +kernel
theorem dL_law_866 : decode cL_law 866 = .ok (.iadd, 1) := by decide +kernel
theorem dL_law_867 : decode cL_law 867 = .ok (.iaload, 1) := by decide +kernel
theorem dL_law_868 : decode cL_law 868 = .ok (.aload_n 0, 1) := by decide +kernel
theorem dL_law_869 : decode cL_law 869 = .ok (.iload_n 3, 1) := by decide +kernel
theorem dL_law_870 : decode cL_law 870 = .ok (.iconst 2, 1) := by decide +kernel
theorem dL_law_871 : decode cL_law 871 = .ok (.iadd, 1) := by decide +kernel
theorem dL_law_872 : decode cL_law 872 = .ok (.iaload, 1) := by decide +kernel
theorem dL_law_873 : decode cL_law 873 = .ok (.aload_n 0, 1) := by decide +kernel
theorem dL_law_874 : decode cL_law 874 = .ok (.iload_n 3, 1) := by decide +kernel
theorem dL_law_875 : decode cL_law 875 = .ok (.iconst 3, 1) := by decide +kernel
theorem dL_law_876 : decode cL_law 876 = .ok (.iadd, 1) := by decide +kernel
theorem dL_law_877 : decode cL_law 877 = .ok (.iaload, 1) := by decide +kernel
theorem dL_law_878 : decode cL_law 878 = .ok (.invokevirtual 106, 3) := by decide +kernel
theorem dL_law_881 : decode cL_law 881 = .ok (.aload_n 2, 1) := by decide +kernel
theorem dL_law_882 : decode cL_law 882 = .ok (.aload_n 0, 1) := by decide +kernel
theorem dL_law_883 : decode cL_law 883 = .ok (.iload_n 3, 1) := by decide +kernel
theorem dL_law_884 : decode cL_law 884 = .ok (.iconst 1, 1) := by decide +kernel
theorem dL_law_885 : decode cL_law 885 = .ok (.iadd, 1) := by decide +kernel
theorem dL_law_886 : decode cL_law 886 = .ok (.iaload, 1) := by decide +kernel
theorem dL_law_887 : decode cL_law 887 = .ok (.aload_n 0, 1) := by decide +kernel
theorem dL_law_888 : decode cL_law 888 = .ok (.iload_n 3, 1) := by decide +kernel
theorem dL_law_889 : decode cL_law 889 = .ok (.iconst 2, 1) := by decide +kernel
theorem dL_law_890 : decode cL_law 890 = .ok (.iadd, 1) := by decide +kernel
theorem dL_law_891 : decode cL_law 891 = .ok (.iaload, 1) := by decide +kernel
theorem dL_law_892 : decode cL_law 892 = .ok (.aload_n 0, 1) := by decide +kernel
theorem dL_law_893 : decode cL_law 893 = .ok (.iload_n 3, 1) := by decide +kernel
theorem dL_law_894 : decode cL_law 894 = .ok (.iconst 3, 1) := by decide +kernel
theorem dL_law_895 : decode cL_law 895 = .ok (.iadd, 1) := by decide +kernel
theorem dL_law_896 : decode cL_law 896 = .ok (.iaload, 1) := by decide +kernel
theorem dL_law_897 : decode cL_law 897 = .ok (.invokevirtual 109, 3) := by decide +kernel
theorem dL_law_900 : decode cL_law 900 = .ok (.if_icmp .eq 282, 3) := by decide +kernel
theorem dL_law_903 : decode cL_law 903 = .ok (.iconst 0, 1) := by decide +kernel
theorem dL_law_904 : decode cL_law 904 = .ok (.ireturn, 1) := by decide +kernel
theorem dL_law_905 : decode cL_law 905 = .ok (.aload_n 1, 1) := by decide +kernel
theorem dL_law_906 : decode cL_law 906 = .ok (.aload_n 0, 1) := by decide +kernel
theorem dL_law_907 : decode cL_law 907 = .ok (.iload_n 3, 1) := by decide +kernel
theorem dL_law_908 : decode cL_law 908 = .ok (.iconst 1, 1) := by decide +kernel
theorem dL_law_909 : decode cL_law 909 = .ok (.iadd, 1) := by decide +kernel
theorem dL_law_910 : decode cL_law 910 = .ok (.iaload, 1) := by decide +kernel
theorem dL_law_911 : decode cL_law 911 = .ok (.aload_n 0, 1) := by decide +kernel
theorem dL_law_912 : decode cL_law 912 = .ok (.iload_n 3, 1) := by decide +kernel
theorem dL_law_913 : decode cL_law 913 = .ok (.iconst 2, 1) := by decide +kernel
theorem dL_law_914 : decode cL_law 914 = .ok (.iadd, 1) := by decide +kernel
theorem dL_law_915 : decode cL_law 915 = .ok (.iaload, 1) := by decide +kernel
theorem dL_law_916 : decode cL_law 916 = .ok (.invokevirtual 110, 3) := by decide +kernel
theorem dL_law_919 : decode cL_law 919 = .ok (.aload_n 2, 1) := by decide +kernel
theorem dL_law_920 : decode cL_law 920 = .ok (.aload_n 0, 1) := by decide +kernel
theorem dL_law_921 : decode cL_law 921 = .ok (.iload_n 3, 1) := by decide +kernel
theorem dL_law_922 : decode cL_law 922 = .ok (.iconst 1, 1) := by decide +kernel
theorem dL_law_923 : decode cL_law 923 = .ok (.iadd, 1) := by decide +kernel
theorem dL_law_924 : decode cL_law 924 = .ok (.iaload, 1) := by decide +kernel
theorem dL_law_925 : decode cL_law 925 = .ok (.aload_n 0, 1) := by decide +kernel
theorem dL_law_926 : decode cL_law 926 = .ok (.iload_n 3, 1) := by decide +kernel
theorem dL_law_927 : decode cL_law 927 = .ok (.iconst 2, 1) := by decide +kernel
theorem dL_law_928 : decode cL_law 928 = .ok (.iadd, 1) := by decide +kernel
theorem dL_law_929 : decode cL_law 929 = .ok (.iaload, 1) := by decide +kernel
theorem dL_law_930 : decode cL_law 930 = .ok (.invokevirtual 113, 3) := by decide +kernel
theorem dL_law_933 : decode cL_law 933 = .ok (.if_icmp .eq 249, 3) := by decide +kernel
theorem dL_law_936 : decode cL_law 936 = .ok (.iconst 0, 1) := by decide +kernel
theorem dL_law_937 : decode cL_law 937 = .ok (.ireturn, 1) := by decide +kernel
theorem dL_law_938 : decode cL_law 938 = .ok (.aload_n 1, 1) := by decide +kernel
theorem dL_law_939 : decode cL_law 939 = .ok (.aload_n 0, 1) := by decide +kernel
theorem dL_law_940 : decode cL_law 940 = .ok (.iload_n 3, 1) := by decide +kernel
theorem dL_law_941 : decode cL_law 941 = .ok (.iconst 1, 1) := by decide +kernel
theorem dL_law_942 : decode cL_law 942 = .ok (.iadd, 1) := by decide +kernel
theorem dL_law_943 : decode cL_law 943 = .ok (.iaload, 1) := by decide +kernel
theorem dL_law_944 : decode cL_law 944 = .ok (.aload_n 0, 1) := by decide +kernel
theorem dL_law_945 : decode cL_law 945 = .ok (.iload_n 3, 1) := by decide +kernel
theorem dL_law_946 : decode cL_law 946 = .ok (.iconst 2, 1) := by decide +kernel
theorem dL_law_947 : decode cL_law 947 = .ok (.iadd, 1) := by decide +kernel
theorem dL_law_948 : decode cL_law 948 = .ok (.iaload, 1) := by decide +kernel
theorem dL_law_949 : decode cL_law 949 = .ok (.aload_n 0, 1) := by decide +kernel
theorem dL_law_950 : decode cL_law 950 = .ok (.iload_n 3, 1) := by decide +kernel
theorem dL_law_951 : decode cL_law 951 = .ok (.iconst 3, 1) := by decide +kernel
theorem dL_law_952 : decode cL_law 952 = .ok (.iadd, 1) := by decide +kernel
theorem dL_law_953 : decode cL_law 953 = .ok (.iaload, 1) := by decide +kernel
theorem dL_law_954 : decode cL_law 954 = .ok (.invokevirtual 114, 3) := by decide +kernel
theorem dL_law_957 : decode cL_law 957 = .ok (.aload_n 2, 1) := by decide +kernel
theorem dL_law_958 : decode cL_law 958 = .ok (.aload_n 0, 1) := by decide +kernel
theorem dL_law_959 : decode cL_law 959 = .ok (.iload_n 3, 1) := by decide +kernel
theorem dL_law_960 : decode cL_law 960 = .ok (.iconst 1, 1) := by decide +kernel
theorem dL_law_961 : decode cL_law 961 = .ok (.iadd, 1) := by decide +kernel
theorem dL_law_962 : decode cL_law 962 = .ok (.iaload, 1) := by decide +kernel
theorem dL_law_963 : decode cL_law 963 = .ok (.aload_n 0, 1) := by decide +kernel
theorem dL_law_964 : decode cL_law 964 = .ok (.iload_n 3, 1) := by decide +kernel
theorem dL_law_965 : decode cL_law 965 = .ok (.iconst 2, 1) := by decide +kernel
theorem dL_law_966 : decode cL_law 966 = .ok (.iadd, 1) := by decide +kernel
theorem dL_law_967 : decode cL_law 967 = .ok (.iaload, 1) := by decide +kernel
theorem dL_law_968 : decode cL_law 968 = .ok (.aload_n 0, 1) := by decide +kernel
theorem dL_law_969 : decode cL_law 969 = .ok (.iload_n 3, 1) := by decide +kernel
theorem dL_law_970 : decode cL_law 970 = .ok (.iconst 3, 1) := by decide +kernel
theorem dL_law_971 : decode cL_law 971 = .ok (.iadd, 1) := by decide +kernel
theorem dL_law_972 : decode cL_law 972 = .ok (.iaload, 1) := by decide +kernel
theorem dL_law_973 : decode cL_law 973 = .ok (.invokevirtual 117, 3) := by decide +kernel
theorem dL_law_976 : decode cL_law 976 = .ok (.if_icmp .eq 206, 3) := by decide +kernel
theorem dL_law_979 : decode cL_law 979 = .ok (.iconst 0, 1) := by decide +kernel
theorem dL_law_980 : decode cL_law 980 = .ok (.ireturn, 1) := by decide +kernel
theorem dL_law_981 : decode cL_law 981 = .ok (.aload_n 1, 1) := by decide +kernel
theorem dL_law_982 : decode cL_law 982 = .ok (.aload_n 0, 1) := by decide +kernel
theorem dL_law_983 : decode cL_law 983 = .ok (.iload_n 3, 1) := by decide +kernel
theorem dL_law_984 : decode cL_law 984 = .ok (.iconst 1, 1) := by decide +kernel
theorem dL_law_985 : decode cL_law 985 = .ok (.iadd, 1) := by decide +kernel
theorem dL_law_986 : decode cL_law 986 = .ok (.iaload, 1) := by decide +kernel
theorem dL_law_987 : decode cL_law 987 = .ok (.invokevirtual 118, 3) := by decide +kernel
theorem dL_law_990 : decode cL_law 990 = .ok (.aload_n 2, 1) := by decide +kernel
theorem dL_law_991 : decode cL_law 991 = .ok (.aload_n 0, 1) := by decide +kernel
theorem dL_law_992 : decode cL_law 992 = .ok (.iload_n 3, 1) := by decide +kernel
theorem dL_law_993 : decode cL_law 993 = .ok (.iconst 1, 1) := by decide +kernel
theorem dL_law_994 : decode cL_law 994 = .ok (.iadd, 1) := by decide +kernel
theorem dL_law_995 : decode cL_law 995 = .ok (.iaload, 1) := by decide +kernel
theorem dL_law_996 : decode cL_law 996 = .ok (.invokevirtual 121, 3) := by decide +kernel
theorem dL_law_999 : decode cL_law 999 = .ok (.if_icmp .eq 183, 3) := by decide +kernel
theorem dL_law_1002 : decode cL_law 1002 = .ok (.iconst 0, 1) := by decide +kernel
theorem dL_law_1003 : decode cL_law 1003 = .ok (.ireturn, 1) := by decide +kernel
theorem dL_law_1004 : decode cL_law 1004 = .ok (.aload_n 1, 1) := by decide +kernel
theorem dL_law_1005 : decode cL_law 1005 = .ok (.aload_n 0, 1) := by decide +kernel
theorem dL_law_1006 : decode cL_law 1006 = .ok (.iload_n 3, 1) := by decide +kernel
theorem dL_law_1007 : decode cL_law 1007 = .ok (.iconst 1, 1) := by decide +kernel
theorem dL_law_1008 : decode cL_law 1008 = .ok (.iadd, 1) := by decide +kernel
theorem dL_law_1009 : decode cL_law 1009 = .ok (.iaload, 1) := by decide +kernel
theorem dL_law_1010 : decode cL_law 1010 = .ok (.aload_n 0, 1) := by decide +kernel
theorem dL_law_1011 : decode cL_law 1011 = .ok (.iload_n 3, 1) := by decide +kernel
theorem dL_law_1012 : decode cL_law 1012 = .ok (.iconst 2, 1) := by decide +kernel
theorem dL_law_1013 : decode cL_law 1013 = .ok (.iadd, 1) := by decide +kernel
theorem dL_law_1014 : decode cL_law 1014 = .ok (.iaload, 1) := by decide +kernel
theorem dL_law_1015 : decode cL_law 1015 = .ok (.invokevirtual 122, 3) := by decide +kernel
theorem dL_law_1018 : decode cL_law 1018 = .ok (.aload_n 2, 1) := by decide +kernel
theorem dL_law_1019 : decode cL_law 1019 = .ok (.aload_n 0, 1) := by decide +kernel
theorem dL_law_1020 : decode cL_law 1020 = .ok (.iload_n 3, 1) := by decide +kernel
theorem dL_law_1021 : decode cL_law 1021 = .ok (.iconst 1, 1) := by decide +kernel
theorem dL_law_1022 : decode cL_law 1022 = .ok (.iadd, 1) := by decide +kernel
theorem dL_law_1023 : decode cL_law 1023 = .ok (.iaload, 1) := by decide +kernel
theorem dL_law_1024 : decode cL_law 1024 = .ok (.aload_n 0, 1) := by decide +kernel
theorem dL_law_1025 : decode cL_law 1025 = .ok (.iload_n 3, 1) := by decide +kernel
theorem dL_law_1026 : decode cL_law 1026 = .ok (.iconst 2, 1) := by decide +kernel
theorem dL_law_1027 : decode cL_law 1027 = .ok (.iadd, 1) := by decide +kernel
theorem dL_law_1028 : decode cL_law 1028 = .ok (.iaload, 1) := by decide +kernel
theorem dL_law_1029 : decode cL_law 1029 = .ok (.invokevirtual 125, 3) := by decide +kernel
theorem dL_law_1032 : decode cL_law 1032 = .ok (.if_icmp .eq 150, 3) := by decide +kernel
theorem dL_law_1035 : decode cL_law 1035 = .ok (.iconst 0, 1) := by decide +kernel
theorem dL_law_1036 : decode cL_law 1036 = .ok (.ireturn, 1) := by decide +kernel
theorem dL_law_1037 : decode cL_law 1037 = .ok (.aload_n 1, 1) := by decide +kernel
theorem dL_law_1038 : decode cL_law 1038 = .ok (.aload_n 0, 1) := by decide +kernel
theorem dL_law_1039 : decode cL_law 1039 = .ok (.iload_n 3, 1) := by decide +kernel
theorem dL_law_1040 : decode cL_law 1040 = .ok (.iconst 1, 1) := by decide +kernel
theorem dL_law_1041 : decode cL_law 1041 = .ok (.iadd, 1) := by decide +kernel
theorem dL_law_1042 : decode cL_law 1042 = .ok (.iaload, 1) := by decide +kernel
theorem dL_law_1043 : decode cL_law 1043 = .ok (.invokevirtual 126, 3) := by decide +kernel
theorem dL_law_1046 : decode cL_law 1046 = .ok (.aload_n 2, 1) := by decide +kernel
theorem dL_law_1047 : decode cL_law 1047 = .ok (.aload_n 0, 1) := by decide +kernel
theorem dL_law_1048 : decode cL_law 1048 = .ok (.iload_n 3, 1) := by decide +kernel
theorem dL_law_1049 : decode cL_law 1049 = .ok (.iconst 1, 1) := by decide +kernel
theorem dL_law_1050 : decode cL_law 1050 = .ok (.iadd, 1) := by decide +kernel
theorem dL_law_1051 : decode cL_law 1051 = .ok (.iaload, 1) := by decide +kernel
theorem dL_law_1052 : decode cL_law 1052 = .ok (.invokevirtual 129, 3) := by decide +kernel
theorem dL_law_1055 : decode cL_law 1055 = .ok (.if_icmp .eq 127, 3) := by decide +kernel
theorem dL_law_1058 : decode cL_law 1058 = .ok (.iconst 0, 1) := by decide +kernel
theorem dL_law_1059 : decode cL_law 1059 = .ok (.ireturn, 1) := by decide +kernel
theorem dL_law_1060 : decode cL_law 1060 = .ok (.aload_n 1, 1) := by decide +kernel
theorem dL_law_1061 : decode cL_law 1061 = .ok (.aload_n 0, 1) := by decide +kernel
theorem dL_law_1062 : decode cL_law 1062 = .ok (.iload_n 3, 1) := by decide +kernel
theorem dL_law_1063 : decode cL_law 1063 = .ok (.iconst 1, 1) := by decide +kernel
theorem dL_law_1064 : decode cL_law 1064 = .ok (.iadd, 1) := by decide +kernel
theorem dL_law_1065 : decode cL_law 1065 = .ok (.iaload, 1) := by decide +kernel
theorem dL_law_1066 : decode cL_law 1066 = .ok (.aload_n 0, 1) := by decide +kernel
theorem dL_law_1067 : decode cL_law 1067 = .ok (.iload_n 3, 1) := by decide +kernel
theorem dL_law_1068 : decode cL_law 1068 = .ok (.iconst 2, 1) := by decide +kernel
theorem dL_law_1069 : decode cL_law 1069 = .ok (.iadd, 1) := by decide +kernel
theorem dL_law_1070 : decode cL_law 1070 = .ok (.iaload, 1) := by decide +kernel
theorem dL_law_1071 : decode cL_law 1071 = .ok (.aload_n 0, 1) := by decide +kernel
theorem dL_law_1072 : decode cL_law 1072 = .ok (.iload_n 3, 1) := by decide +kernel
theorem dL_law_1073 : decode cL_law 1073 = .ok (.iconst 3, 1) := by decide +kernel
theorem dL_law_1074 : decode cL_law 1074 = .ok (.iadd, 1) := by decide +kernel
theorem dL_law_1075 : decode cL_law 1075 = .ok (.iaload, 1) := by decide +kernel
theorem dL_law_1076 : decode cL_law 1076 = .ok (.aload_n 0, 1) := by decide +kernel
theorem dL_law_1077 : decode cL_law 1077 = .ok (.iload_n 3, 1) := by decide +kernel
theorem dL_law_1078 : decode cL_law 1078 = .ok (.iconst 4, 1) := by decide +kernel
theorem dL_law_1079 : decode cL_law 1079 = .ok (.iadd, 1) := by decide +kernel
theorem dL_law_1080 : decode cL_law 1080 = .ok (.iaload, 1) := by decide +kernel
theorem dL_law_1081 : decode cL_law 1081 = .ok (.invokevirtual 130, 3) := by decide +kernel
theorem dL_law_1084 : decode cL_law 1084 = .ok (.aload_n 2, 1) := by decide +kernel
theorem dL_law_1085 : decode cL_law 1085 = .ok (.aload_n 0, 1) := by decide +kernel
theorem dL_law_1086 : decode cL_law 1086 = .ok (.iload_n 3, 1) := by decide +kernel
theorem dL_law_1087 : decode cL_law 1087 = .ok (.iconst 1, 1) := by decide +kernel
theorem dL_law_1088 : decode cL_law 1088 = .ok (.iadd, 1) := by decide +kernel
theorem dL_law_1089 : decode cL_law 1089 = .ok (.iaload, 1) := by decide +kernel
theorem dL_law_1090 : decode cL_law 1090 = .ok (.aload_n 0, 1) := by decide +kernel
theorem dL_law_1091 : decode cL_law 1091 = .ok (.iload_n 3, 1) := by decide +kernel
theorem dL_law_1092 : decode cL_law 1092 = .ok (.iconst 2, 1) := by decide +kernel
theorem dL_law_1093 : decode cL_law 1093 = .ok (.iadd, 1) := by decide +kernel
theorem dL_law_1094 : decode cL_law 1094 = .ok (.iaload, 1) := by decide +kernel
theorem dL_law_1095 : decode cL_law 1095 = .ok (.aload_n 0, 1) := by decide +kernel
theorem dL_law_1096 : decode cL_law 1096 = .ok (.iload_n 3, 1) := by decide +kernel
theorem dL_law_1097 : decode cL_law 1097 = .ok (.iconst 3, 1) := by decide +kernel
theorem dL_law_1098 : decode cL_law 1098 = .ok (.iadd, 1) := by decide +kernel
theorem dL_law_1099 : decode cL_law 1099 = .ok (.iaload, 1) := by decide +kernel
theorem dL_law_1100 : decode cL_law 1100 = .ok (.aload_n 0, 1) := by decide +kernel
theorem dL_law_1101 : decode cL_law 1101 = .ok (.iload_n 3, 1) := by decide +kernel
theorem dL_law_1102 : decode cL_law 1102 = .ok (.iconst 4, 1) := by decide +kernel
theorem dL_law_1103 : decode cL_law 1103 = .ok (.iadd, 1) := by decide +kernel
theorem dL_law_1104 : decode cL_law 1104 = .ok (.iaload, 1) := by decide +kernel
theorem dL_law_1105 : decode cL_law 1105 = .ok (.invokevirtual 134, 3) := by decide +kernel
theorem dL_law_1108 : decode cL_law 1108 = .ok (.if_icmp .eq 74, 3) := by decide +kernel
theorem dL_law_1111 : decode cL_law 1111 = .ok (.iconst 0, 1) := by decide +kernel
theorem dL_law_1112 : decode cL_law 1112 = .ok (.ireturn, 1) := by decide +kernel
theorem dL_law_1113 : decode cL_law 1113 = .ok (.aload_n 1, 1) := by decide +kernel
theorem dL_law_1114 : decode cL_law 1114 = .ok (.aload_n 0, 1) := by decide +kernel
theorem dL_law_1115 : decode cL_law 1115 = .ok (.iload_n 3, 1) := by decide +kernel
theorem dL_law_1116 : decode cL_law 1116 = .ok (.iconst 1, 1) := by decide +kernel
theorem dL_law_1117 : decode cL_law 1117 = .ok (.iadd, 1) := by decide +kernel
theorem dL_law_1118 : decode cL_law 1118 = .ok (.iaload, 1) := by decide +kernel
theorem dL_law_1119 : decode cL_law 1119 = .ok (.invokevirtual 135, 3) := by decide +kernel
theorem dL_law_1122 : decode cL_law 1122 = .ok (.aload_n 2, 1) := by decide +kernel
theorem dL_law_1123 : decode cL_law 1123 = .ok (.aload_n 0, 1) := by decide +kernel
theorem dL_law_1124 : decode cL_law 1124 = .ok (.iload_n 3, 1) := by decide +kernel
theorem dL_law_1125 : decode cL_law 1125 = .ok (.iconst 1, 1) := by decide +kernel
theorem dL_law_1126 : decode cL_law 1126 = .ok (.iadd, 1) := by decide +kernel
theorem dL_law_1127 : decode cL_law 1127 = .ok (.iaload, 1) := by decide +kernel
theorem dL_law_1128 : decode cL_law 1128 = .ok (.invokevirtual 138, 3) := by decide +kernel
theorem dL_law_1131 : decode cL_law 1131 = .ok (.if_icmp .eq 51, 3) := by decide +kernel
theorem dL_law_1134 : decode cL_law 1134 = .ok (.iconst 0, 1) := by decide +kernel
theorem dL_law_1135 : decode cL_law 1135 = .ok (.ireturn, 1) := by decide +kernel
theorem dL_law_1136 : decode cL_law 1136 = .ok (.aload_n 1, 1) := by decide +kernel
theorem dL_law_1137 : decode cL_law 1137 = .ok (.aload_n 0, 1) := by decide +kernel
theorem dL_law_1138 : decode cL_law 1138 = .ok (.iload_n 3, 1) := by decide +kernel
theorem dL_law_1139 : decode cL_law 1139 = .ok (.iconst 1, 1) := by decide +kernel
theorem dL_law_1140 : decode cL_law 1140 = .ok (.iadd, 1) := by decide +kernel
theorem dL_law_1141 : decode cL_law 1141 = .ok (.iaload, 1) := by decide +kernel
theorem dL_law_1142 : decode cL_law 1142 = .ok (.invokevirtual 139, 3) := by decide +kernel
theorem dL_law_1145 : decode cL_law 1145 = .ok (.aload_n 2, 1) := by decide +kernel
theorem dL_law_1146 : decode cL_law 1146 = .ok (.aload_n 0, 1) := by decide +kernel
theorem dL_law_1147 : decode cL_law 1147 = .ok (.iload_n 3, 1) := by decide +kernel
theorem dL_law_1148 : decode cL_law 1148 = .ok (.iconst 1, 1) := by decide +kernel
theorem dL_law_1149 : decode cL_law 1149 = .ok (.iadd, 1) := by decide +kernel
theorem dL_law_1150 : decode cL_law 1150 = .ok (.iaload, 1) := by decide +kernel
theorem dL_law_1151 : decode cL_law 1151 = .ok (.invokevirtual 142, 3) := by decide +kernel
theorem dL_law_1154 : decode cL_law 1154 = .ok (.if_icmp .eq 28, 3) := by decide +kernel
theorem dL_law_1157 : decode cL_law 1157 = .ok (.iconst 0, 1) := by decide +kernel
theorem dL_law_1158 : decode cL_law 1158 = .ok (.ireturn, 1) := by decide +kernel
theorem dL_law_1159 : decode cL_law 1159 = .ok (.aload_n 1, 1) := by decide +kernel
theorem dL_law_1160 : decode cL_law 1160 = .ok (.aload_n 0, 1) := by decide +kernel
theorem dL_law_1161 : decode cL_law 1161 = .ok (.iload_n 3, 1) := by decide +kernel
theorem dL_law_1162 : decode cL_law 1162 = .ok (.iconst 1, 1) := by decide +kernel
theorem dL_law_1163 : decode cL_law 1163 = .ok (.iadd, 1) := by decide +kernel
theorem dL_law_1164 : decode cL_law 1164 = .ok (.iaload, 1) := by decide +kernel
theorem dL_law_1165 : decode cL_law 1165 = .ok (.invokevirtual 143, 3) := by decide +kernel
theorem dL_law_1168 : decode cL_law 1168 = .ok (.aload_n 2, 1) := by decide +kernel
theorem dL_law_1169 : decode cL_law 1169 = .ok (.aload_n 0, 1) := by decide +kernel
theorem dL_law_1170 : decode cL_law 1170 = .ok (.iload_n 3, 1) := by decide +kernel
theorem dL_law_1171 : decode cL_law 1171 = .ok (.iconst 1, 1) := by decide +kernel
theorem dL_law_1172 : decode cL_law 1172 = .ok (.iadd, 1) := by decide +kernel
theorem dL_law_1173 : decode cL_law 1173 = .ok (.iaload, 1) := by decide +kernel
theorem dL_law_1174 : decode cL_law 1174 = .ok (.invokevirtual 146, 3) := by decide +kernel
theorem dL_law_1177 : decode cL_law 1177 = .ok (.if_icmp .eq 5, 3) := by decide +kernel
theorem dL_law_1180 : decode cL_law 1180 = .ok (.iconst 0, 1) := by decide +kernel
theorem dL_law_1181 : decode cL_law 1181 = .ok (.ireturn, 1) := by decide +kernel
theorem dL_law_1182 : decode cL_law 1182 = .ok (.iinc 3 6, 3) := by decide +kernel
theorem dL_law_1185 : decode cL_law 1185 = .ok (.goto (-1167), 3) := by decide +kernel
theorem dL_law_1188 : decode cL_law 1188 = .ok (.iconst 1, 1) := by decide +kernel
theorem dL_law_1189 : decode cL_law 1189 = .ok (.ireturn, 1) := by decide +kernel
