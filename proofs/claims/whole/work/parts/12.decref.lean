-- what the bytes say (written by wip/whole/mknames.py)
theorem dJA_fill_0 : decode prog_11_method_103_code 0 = .ok (.iconst 0, 1) := by decide +kernel
theorem dJA_fill_1 : decode prog_11_method_103_code 1 = .ok (.istore_n 2, 1) := by decide +kernel
theorem dJA_fill_2 : decode prog_11_method_103_code 2 = .ok (.aload_n 0, 1) := by decide +kernel
theorem dJA_fill_3 : decode prog_11_method_103_code 3 = .ok (.arraylength, 1) := by decide +kernel
theorem dJA_fill_4 : decode prog_11_method_103_code 4 = .ok (.istore_n 3, 1) := by decide +kernel
theorem dJA_fill_5 : decode prog_11_method_103_code 5 = .ok (.iload_n 2, 1) := by decide +kernel
theorem dJA_fill_6 : decode prog_11_method_103_code 6 = .ok (.iload_n 3, 1) := by decide +kernel
theorem dJA_fill_7 : decode prog_11_method_103_code 7 = .ok (.if_icmp .ge 13, 3) := by decide +kernel
theorem dJA_fill_10 : decode prog_11_method_103_code 10 = .ok (.aload_n 0, 1) := by decide +kernel
theorem dJA_fill_11 : decode prog_11_method_103_code 11 = .ok (.iload_n 2, 1) := by decide +kernel
theorem dJA_fill_12 : decode prog_11_method_103_code 12 = .ok (.iload_n 1, 1) := by decide +kernel
theorem dJA_fill_13 : decode prog_11_method_103_code 13 = .ok (.iastore, 1) := by decide +kernel
theorem dJA_fill_14 : decode prog_11_method_103_code 14 = .ok (.iinc 2 1, 3) := by decide +kernel
theorem dJA_fill_17 : decode prog_11_method_103_code 17 = .ok (.goto (-12), 3) := by decide +kernel
theorem dJA_fill_20 : decode prog_11_method_103_code 20 = .ok (.return_, 1) := by decide +kernel
theorem dJM_max_0 : decode prog_10_method_65_code 0 = .ok (.iload_n 0, 1) := by decide +kernel
theorem dJM_max_1 : decode prog_10_method_65_code 1 = .ok (.iload_n 1, 1) := by decide +kernel
theorem dJM_max_2 : decode prog_10_method_65_code 2 = .ok (.if_icmp .lt 7, 3) := by decide +kernel
theorem dJM_max_5 : decode prog_10_method_65_code 5 = .ok (.iload_n 0, 1) := by decide +kernel
theorem dJM_max_6 : decode prog_10_method_65_code 6 = .ok (.goto 4, 3) := by decide +kernel
theorem dJM_max_9 : decode prog_10_method_65_code 9 = .ok (.iload_n 1, 1) := by decide +kernel
theorem dJM_max_10 : decode prog_10_method_65_code 10 = .ok (.ireturn, 1) := by decide +kernel
theorem dJI_bitCount_0 : decode prog_9_method_49_code 0 = .ok (.iload_n 0, 1) := by decide +kernel
theorem dJI_bitCount_1 : decode prog_9_method_49_code 1 = .ok (.iload_n 0, 1) := by decide +kernel
theorem dJI_bitCount_2 : decode prog_9_method_49_code 2 = .ok (.iconst 1, 1) := by decide +kernel
theorem dJI_bitCount_3 : decode prog_9_method_49_code 3 = .ok (.iushr, 1) := by decide +kernel
theorem dJI_bitCount_4 : decode prog_9_method_49_code 4 = .ok (.ldc_w 265, 3) := by decide +kernel
theorem dJI_bitCount_7 : decode prog_9_method_49_code 7 = .ok (.iand, 1) := by decide +kernel
theorem dJI_bitCount_8 : decode prog_9_method_49_code 8 = .ok (.isub, 1) := by decide +kernel
theorem dJI_bitCount_9 : decode prog_9_method_49_code 9 = .ok (.istore_n 0, 1) := by decide +kernel
theorem dJI_bitCount_10 : decode prog_9_method_49_code 10 = .ok (.iload_n 0, 1) := by decide +kernel
theorem dJI_bitCount_11 : decode prog_9_method_49_code 11 = .ok (.ldc_w 266, 3) := by decide +kernel
theorem dJI_bitCount_14 : decode prog_9_method_49_code 14 = .ok (.iand, 1) := by decide +kernel
theorem dJI_bitCount_15 : decode prog_9_method_49_code 15 = .ok (.iload_n 0, 1) := by decide +kernel
theorem dJI_bitCount_16 : decode prog_9_method_49_code 16 = .ok (.iconst 2, 1) := by decide +kernel
theorem dJI_bitCount_17 : decode prog_9_method_49_code 17 = .ok (.iushr, 1) := by decide +kernel
theorem dJI_bitCount_18 : decode prog_9_method_49_code 18 = .ok (.ldc_w 266, 3) := by decide +kernel
theorem dJI_bitCount_21 : decode prog_9_method_49_code 21 = .ok (.iand, 1) := by decide +kernel
theorem dJI_bitCount_22 : decode prog_9_method_49_code 22 = .ok (.iadd, 1) := by decide +kernel
theorem dJI_bitCount_23 : decode prog_9_method_49_code 23 = .ok (.istore_n 0, 1) := by decide +kernel
theorem dJI_bitCount_24 : decode prog_9_method_49_code 24 = .ok (.iload_n 0, 1) := by decide +kernel
theorem dJI_bitCount_25 : decode prog_9_method_49_code 25 = .ok (.iload_n 0, 1) := by decide +kernel
theorem dJI_bitCount_26 : decode prog_9_method_49_code 26 = .ok (.iconst 4, 1) := by decide +kernel
theorem dJI_bitCount_27 : decode prog_9_method_49_code 27 = .ok (.iushr, 1) := by decide +kernel
theorem dJI_bitCount_28 : decode prog_9_method_49_code 28 = .ok (.iadd, 1) := by decide +kernel
theorem dJI_bitCount_29 : decode prog_9_method_49_code 29 = .ok (.ldc_w 267, 3) := by decide +kernel
theorem dJI_bitCount_32 : decode prog_9_method_49_code 32 = .ok (.iand, 1) := by decide +kernel
theorem dJI_bitCount_33 : decode prog_9_method_49_code 33 = .ok (.istore_n 0, 1) := by decide +kernel
theorem dJI_bitCount_34 : decode prog_9_method_49_code 34 = .ok (.iload_n 0, 1) := by decide +kernel
theorem dJI_bitCount_35 : decode prog_9_method_49_code 35 = .ok (.iload_n 0, 1) := by decide +kernel
theorem dJI_bitCount_36 : decode prog_9_method_49_code 36 = .ok (.bipush 8, 2) := by decide +kernel
theorem dJI_bitCount_38 : decode prog_9_method_49_code 38 = .ok (.iushr, 1) := by decide +kernel
theorem dJI_bitCount_39 : decode prog_9_method_49_code 39 = .ok (.iadd, 1) := by decide +kernel
theorem dJI_bitCount_40 : decode prog_9_method_49_code 40 = .ok (.istore_n 0, 1) := by decide +kernel
theorem dJI_bitCount_41 : decode prog_9_method_49_code 41 = .ok (.iload_n 0, 1) := by decide +kernel
theorem dJI_bitCount_42 : decode prog_9_method_49_code 42 = .ok (.iload_n 0, 1) := by decide +kernel
theorem dJI_bitCount_43 : decode prog_9_method_49_code 43 = .ok (.bipush 16, 2) := by decide +kernel
theorem dJI_bitCount_45 : decode prog_9_method_49_code 45 = .ok (.iushr, 1) := by decide +kernel
theorem dJI_bitCount_46 : decode prog_9_method_49_code 46 = .ok (.iadd, 1) := by decide +kernel
theorem dJI_bitCount_47 : decode prog_9_method_49_code 47 = .ok (.istore_n 0, 1) := by decide +kernel
theorem dJI_bitCount_48 : decode prog_9_method_49_code 48 = .ok (.iload_n 0, 1) := by decide +kernel
theorem dJI_bitCount_49 : decode prog_9_method_49_code 49 = .ok (.bipush 63, 2) := by decide +kernel
theorem dJI_bitCount_51 : decode prog_9_method_49_code 51 = .ok (.iand, 1) := by decide +kernel
theorem dJI_bitCount_52 : decode prog_9_method_49_code 52 = .ok (.ireturn, 1) := by decide +kernel
theorem dR_init_0 : decode prog_8_method_1_code 0 = .ok (.aload_n 0, 1) := by decide +kernel
theorem dR_init_1 : decode prog_8_method_1_code 1 = .ok (.invokespecial 1, 3) := by decide +kernel
theorem dR_init_4 : decode prog_8_method_1_code 4 = .ok (.aload_n 0, 1) := by decide +kernel
theorem dR_init_5 : decode prog_8_method_1_code 5 = .ok (.bipush 20, 2) := by decide +kernel
theorem dR_init_7 : decode prog_8_method_1_code 7 = .ok (.newarray .int, 2) := by decide +kernel
theorem dR_init_9 : decode prog_8_method_1_code 9 = .ok (.putfield 7, 3) := by decide +kernel
theorem dR_init_12 : decode prog_8_method_1_code 12 = .ok (.aload_n 0, 1) := by decide +kernel
theorem dR_init_13 : decode prog_8_method_1_code 13 = .ok (.bipush 20, 2) := by decide +kernel
theorem dR_init_15 : decode prog_8_method_1_code 15 = .ok (.newarray .int, 2) := by decide +kernel
theorem dR_init_17 : decode prog_8_method_1_code 17 = .ok (.putfield 13, 3) := by decide +kernel
theorem dR_init_20 : decode prog_8_method_1_code 20 = .ok (.aload_n 0, 1) := by decide +kernel
theorem dR_init_21 : decode prog_8_method_1_code 21 = .ok (.bipush 20, 2) := by decide +kernel
theorem dR_init_23 : decode prog_8_method_1_code 23 = .ok (.newarray .int, 2) := by decide +kernel
theorem dR_init_25 : decode prog_8_method_1_code 25 = .ok (.putfield 16, 3) := by decide +kernel
theorem dR_init_28 : decode prog_8_method_1_code 28 = .ok (.aload_n 0, 1) := by decide +kernel
theorem dR_init_29 : decode prog_8_method_1_code 29 = .ok (.bipush 20, 2) := by decide +kernel
theorem dR_init_31 : decode prog_8_method_1_code 31 = .ok (.newarray .int, 2) := by decide +kernel
theorem dR_init_33 : decode prog_8_method_1_code 33 = .ok (.putfield 19, 3) := by decide +kernel
theorem dR_init_36 : decode prog_8_method_1_code 36 = .ok (.aload_n 0, 1) := by decide +kernel
theorem dR_init_37 : decode prog_8_method_1_code 37 = .ok (.bipush 20, 2) := by decide +kernel
theorem dR_init_39 : decode prog_8_method_1_code 39 = .ok (.newarray .int, 2) := by decide +kernel
theorem dR_init_41 : decode prog_8_method_1_code 41 = .ok (.putfield 22, 3) := by decide +kernel
theorem dR_init_44 : decode prog_8_method_1_code 44 = .ok (.aload_n 0, 1) := by decide +kernel
theorem dR_init_45 : decode prog_8_method_1_code 45 = .ok (.bipush 20, 2) := by decide +kernel
theorem dR_init_47 : decode prog_8_method_1_code 47 = .ok (.newarray .boolean, 2) := by decide +kernel
theorem dR_init_49 : decode prog_8_method_1_code 49 = .ok (.putfield 25, 3) := by decide +kernel
theorem dR_init_52 : decode prog_8_method_1_code 52 = .ok (.aload_n 0, 1) := by decide +kernel
theorem dR_init_53 : decode prog_8_method_1_code 53 = .ok (.bipush 20, 2) := by decide +kernel
theorem dR_init_55 : decode prog_8_method_1_code 55 = .ok (.newarray .int, 2) := by decide +kernel
theorem dR_init_57 : decode prog_8_method_1_code 57 = .ok (.putfield 29, 3) := by decide +kernel
theorem dR_init_60 : decode prog_8_method_1_code 60 = .ok (.aload_n 0, 1) := by decide +kernel
theorem dR_init_61 : decode prog_8_method_1_code 61 = .ok (.bipush 20, 2) := by decide +kernel
theorem dR_init_63 : decode prog_8_method_1_code 63 = .ok (.newarray .int, 2) := by decide +kernel
theorem dR_init_65 : decode prog_8_method_1_code 65 = .ok (.putfield 32, 3) := by decide +kernel
theorem dR_init_68 : decode prog_8_method_1_code 68 = .ok (.aload_n 0, 1) := by decide +kernel
theorem dR_init_69 : decode prog_8_method_1_code 69 = .ok (.bipush 20, 2) := by decide +kernel
theorem dR_init_71 : decode prog_8_method_1_code 71 = .ok (.newarray .int, 2) := by decide +kernel
theorem dR_init_73 : decode prog_8_method_1_code 73 = .ok (.putfield 35, 3) := by decide +kernel
theorem dR_init_76 : decode prog_8_method_1_code 76 = .ok (.aload_n 0, 1) := by decide +kernel
theorem dR_init_77 : decode prog_8_method_1_code 77 = .ok (.bipush 20, 2) := by decide +kernel
theorem dR_init_79 : decode prog_8_method_1_code 79 = .ok (.newarray .int, 2) := by decide +kernel
theorem dR_init_81 : decode prog_8_method_1_code 81 = .ok (.putfield 38, 3) := by decide +kernel
theorem dR_init_84 : decode prog_8_method_1_code 84 = .ok (.aload_n 0, 1) := by decide +kernel
theorem dR_init_85 : decode prog_8_method_1_code 85 = .ok (.bipush 80, 2) := by decide +kernel
theorem dR_init_87 : decode prog_8_method_1_code 87 = .ok (.newarray .int, 2) := by decide +kernel
theorem dR_init_89 : decode prog_8_method_1_code 89 = .ok (.putfield 41, 3) := by decide +kernel
theorem dR_init_92 : decode prog_8_method_1_code 92 = .ok (.aload_n 0, 1) := by decide +kernel
theorem dR_init_93 : decode prog_8_method_1_code 93 = .ok (.bipush 80, 2) := by decide +kernel
theorem dR_init_95 : decode prog_8_method_1_code 95 = .ok (.newarray .int, 2) := by decide +kernel
theorem dR_init_97 : decode prog_8_method_1_code 97 = .ok (.putfield 44, 3) := by decide +kernel
theorem dR_init_100 : decode prog_8_method_1_code 100 = .ok (.aload_n 0, 1) := by decide +kernel
theorem dR_init_101 : decode prog_8_method_1_code 101 = .ok (.bipush 80, 2) := by decide +kernel
theorem dR_init_103 : decode prog_8_method_1_code 103 = .ok (.newarray .int, 2) := by decide +kernel
theorem dR_init_105 : decode prog_8_method_1_code 105 = .ok (.putfield 47, 3) := by decide +kernel
theorem dR_init_108 : decode prog_8_method_1_code 108 = .ok (.aload_n 0, 1) := by decide +kernel
theorem dR_init_109 : decode prog_8_method_1_code 109 = .ok (.bipush 80, 2) := by decide +kernel
theorem dR_init_111 : decode prog_8_method_1_code 111 = .ok (.newarray .int, 2) := by decide +kernel
theorem dR_init_113 : decode prog_8_method_1_code 113 = .ok (.putfield 50, 3) := by decide +kernel
theorem dR_init_116 : decode prog_8_method_1_code 116 = .ok (.aload_n 0, 1) := by decide +kernel
theorem dR_init_117 : decode prog_8_method_1_code 117 = .ok (.bipush 80, 2) := by decide +kernel
theorem dR_init_119 : decode prog_8_method_1_code 119 = .ok (.newarray .int, 2) := by decide +kernel
theorem dR_init_121 : decode prog_8_method_1_code 121 = .ok (.putfield 53, 3) := by decide +kernel
theorem dR_init_124 : decode prog_8_method_1_code 124 = .ok (.aload_n 0, 1) := by decide +kernel
theorem dR_init_125 : decode prog_8_method_1_code 125 = .ok (.bipush 80, 2) := by decide +kernel
theorem dR_init_127 : decode prog_8_method_1_code 127 = .ok (.newarray .int, 2) := by decide +kernel
theorem dR_init_129 : decode prog_8_method_1_code 129 = .ok (.putfield 56, 3) := by decide +kernel
theorem dR_init_132 : decode prog_8_method_1_code 132 = .ok (.aload_n 0, 1) := by decide +kernel
theorem dR_init_133 : decode prog_8_method_1_code 133 = .ok (.bipush 80, 2) := by decide +kernel
theorem dR_init_135 : decode prog_8_method_1_code 135 = .ok (.newarray .int, 2) := by decide +kernel
theorem dR_init_137 : decode prog_8_method_1_code 137 = .ok (.putfield 59, 3) := by decide +kernel
theorem dR_init_140 : decode prog_8_method_1_code 140 = .ok (.aload_n 0, 1) := by decide +kernel
theorem dR_init_141 : decode prog_8_method_1_code 141 = .ok (.bipush 80, 2) := by decide +kernel
theorem dR_init_143 : decode prog_8_method_1_code 143 = .ok (.newarray .int, 2) := by decide +kernel
theorem dR_init_145 : decode prog_8_method_1_code 145 = .ok (.putfield 62, 3) := by decide +kernel
theorem dR_init_148 : decode prog_8_method_1_code 148 = .ok (.aload_n 0, 1) := by decide +kernel
theorem dR_init_149 : decode prog_8_method_1_code 149 = .ok (.bipush 80, 2) := by decide +kernel
theorem dR_init_151 : decode prog_8_method_1_code 151 = .ok (.newarray .int, 2) := by decide +kernel
theorem dR_init_153 : decode prog_8_method_1_code 153 = .ok (.putfield 65, 3) := by decide +kernel
theorem dR_init_156 : decode prog_8_method_1_code 156 = .ok (.aload_n 0, 1) := by decide +kernel
theorem dR_init_157 : decode prog_8_method_1_code 157 = .ok (.iconst 4, 1) := by decide +kernel
theorem dR_init_158 : decode prog_8_method_1_code 158 = .ok (.newarray .int, 2) := by decide +kernel
theorem dR_init_160 : decode prog_8_method_1_code 160 = .ok (.putfield 68, 3) := by decide +kernel
theorem dR_init_163 : decode prog_8_method_1_code 163 = .ok (.aload_n 0, 1) := by decide +kernel
theorem dR_init_164 : decode prog_8_method_1_code 164 = .ok (.bipush 16, 2) := by decide +kernel
theorem dR_init_166 : decode prog_8_method_1_code 166 = .ok (.newarray .boolean, 2) := by decide +kernel
theorem dR_init_168 : decode prog_8_method_1_code 168 = .ok (.putfield 71, 3) := by decide +kernel
theorem dR_init_171 : decode prog_8_method_1_code 171 = .ok (.aload_n 0, 1) := by decide +kernel
theorem dR_init_172 : decode prog_8_method_1_code 172 = .ok (.sipush 220, 3) := by decide +kernel
theorem dR_init_175 : decode prog_8_method_1_code 175 = .ok (.newarray .int, 2) := by decide +kernel
theorem dR_init_177 : decode prog_8_method_1_code 177 = .ok (.putfield 74, 3) := by decide +kernel
theorem dR_init_180 : decode prog_8_method_1_code 180 = .ok (.aload_n 0, 1) := by decide +kernel
theorem dR_init_181 : decode prog_8_method_1_code 181 = .ok (.bipush 20, 2) := by decide +kernel
theorem dR_init_183 : decode prog_8_method_1_code 183 = .ok (.newarray .boolean, 2) := by decide +kernel
theorem dR_init_185 : decode prog_8_method_1_code 185 = .ok (.putfield 77, 3) := by decide +kernel
theorem dR_init_188 : decode prog_8_method_1_code 188 = .ok (.aload_n 0, 1) := by decide +kernel
theorem dR_init_189 : decode prog_8_method_1_code 189 = .ok (.bipush 16, 2) := by decide +kernel
theorem dR_init_191 : decode prog_8_method_1_code 191 = .ok (.newarray .int, 2) := by decide +kernel
theorem dR_init_193 : decode prog_8_method_1_code 193 = .ok (.putfield 80, 3) := by decide +kernel
theorem dR_init_196 : decode prog_8_method_1_code 196 = .ok (.return_, 1) := by decide +kernel
theorem dR_begin_0 : decode prog_8_method_5_code 0 = .ok (.aload_n 0, 1) := by decide +kernel
theorem dR_begin_1 : decode prog_8_method_5_code 1 = .ok (.iload_n 1, 1) := by decide +kernel
theorem dR_begin_2 : decode prog_8_method_5_code 2 = .ok (.invokevirtual 91, 3) := by decide +kernel
theorem dR_begin_5 : decode prog_8_method_5_code 5 = .ok (.ifCond .eq 30, 3) := by decide +kernel
theorem dR_begin_8 : decode prog_8_method_5_code 8 = .ok (.iload_n 2, 1) := by decide +kernel
theorem dR_begin_9 : decode prog_8_method_5_code 9 = .ok (.iconst 4, 1) := by decide +kernel
theorem dR_begin_10 : decode prog_8_method_5_code 10 = .ok (.if_icmp .eq 8, 3) := by decide +kernel
theorem dR_begin_13 : decode prog_8_method_5_code 13 = .ok (.iload_n 2, 1) := by decide +kernel
theorem dR_begin_14 : decode prog_8_method_5_code 14 = .ok (.iconst 5, 1) := by decide +kernel
theorem dR_begin_15 : decode prog_8_method_5_code 15 = .ok (.if_icmp .ne 20, 3) := by decide +kernel
theorem dR_begin_18 : decode prog_8_method_5_code 18 = .ok (.iload_n 3, 1) := by decide +kernel
theorem dR_begin_19 : decode prog_8_method_5_code 19 = .ok (.ifCond .lt 16, 3) := by decide +kernel
theorem dR_begin_22 : decode prog_8_method_5_code 22 = .ok (.iload 4, 2) := by decide +kernel
theorem dR_begin_24 : decode prog_8_method_5_code 24 = .ok (.iload_n 3, 1) := by decide +kernel
theorem dR_begin_25 : decode prog_8_method_5_code 25 = .ok (.if_icmp .le 10, 3) := by decide +kernel
theorem dR_begin_28 : decode prog_8_method_5_code 28 = .ok (.iload 4, 2) := by decide +kernel
theorem dR_begin_30 : decode prog_8_method_5_code 30 = .ok (.ldc 94, 2) := by decide +kernel
theorem dR_begin_32 : decode prog_8_method_5_code 32 = .ok (.if_icmp .le 5, 3) := by decide +kernel
theorem dR_begin_35 : decode prog_8_method_5_code 35 = .ok (.iconst (-1), 1) := by decide +kernel
theorem dR_begin_36 : decode prog_8_method_5_code 36 = .ok (.ireturn, 1) := by decide +kernel
theorem dR_begin_37 : decode prog_8_method_5_code 37 = .ok (.aload_n 0, 1) := by decide +kernel
theorem dR_begin_38 : decode prog_8_method_5_code 38 = .ok (.getfield 83, 3) := by decide +kernel
theorem dR_begin_41 : decode prog_8_method_5_code 41 = .ok (.bipush 20, 2) := by decide +kernel
theorem dR_begin_43 : decode prog_8_method_5_code 43 = .ok (.if_icmp .ne 6, 3) := by decide +kernel
theorem dR_begin_46 : decode prog_8_method_5_code 46 = .ok (.bipush (-6), 2) := by decide +kernel
theorem dR_begin_48 : decode prog_8_method_5_code 48 = .ok (.ireturn, 1) := by decide +kernel
theorem dR_begin_49 : decode prog_8_method_5_code 49 = .ok (.aload_n 0, 1) := by decide +kernel
theorem dR_begin_50 : decode prog_8_method_5_code 50 = .ok (.getfield 7, 3) := by decide +kernel
theorem dR_begin_53 : decode prog_8_method_5_code 53 = .ok (.aload_n 0, 1) := by decide +kernel
theorem dR_begin_54 : decode prog_8_method_5_code 54 = .ok (.getfield 83, 3) := by decide +kernel
theorem dR_begin_57 : decode prog_8_method_5_code 57 = .ok (.iload_n 1, 1) := by decide +kernel
theorem dR_begin_58 : decode prog_8_method_5_code 58 = .ok (.iastore, 1) := by decide +kernel
theorem dR_begin_59 : decode prog_8_method_5_code 59 = .ok (.aload_n 0, 1) := by decide +kernel
theorem dR_begin_60 : decode prog_8_method_5_code 60 = .ok (.getfield 13, 3) := by decide +kernel
theorem dR_begin_63 : decode prog_8_method_5_code 63 = .ok (.aload_n 0, 1) := by decide +kernel
theorem dR_begin_64 : decode prog_8_method_5_code 64 = .ok (.getfield 83, 3) := by decide +kernel
theorem dR_begin_67 : decode prog_8_method_5_code 67 = .ok (.iload_n 2, 1) := by decide +kernel
theorem dR_begin_68 : decode prog_8_method_5_code 68 = .ok (.iastore, 1) := by decide +kernel
theorem dR_begin_69 : decode prog_8_method_5_code 69 = .ok (.aload_n 0, 1) := by decide +kernel
theorem dR_begin_70 : decode prog_8_method_5_code 70 = .ok (.getfield 16, 3) := by decide +kernel
theorem dR_begin_73 : decode prog_8_method_5_code 73 = .ok (.aload_n 0, 1) := by decide +kernel
theorem dR_begin_74 : decode prog_8_method_5_code 74 = .ok (.getfield 83, 3) := by decide +kernel
theorem dR_begin_77 : decode prog_8_method_5_code 77 = .ok (.iload_n 3, 1) := by decide +kernel
theorem dR_begin_78 : decode prog_8_method_5_code 78 = .ok (.iastore, 1) := by decide +kernel
theorem dR_begin_79 : decode prog_8_method_5_code 79 = .ok (.aload_n 0, 1) := by decide +kernel
theorem dR_begin_80 : decode prog_8_method_5_code 80 = .ok (.getfield 19, 3) := by decide +kernel
theorem dR_begin_83 : decode prog_8_method_5_code 83 = .ok (.aload_n 0, 1) := by decide +kernel
theorem dR_begin_84 : decode prog_8_method_5_code 84 = .ok (.getfield 83, 3) := by decide +kernel
theorem dR_begin_87 : decode prog_8_method_5_code 87 = .ok (.iload 4, 2) := by decide +kernel
theorem dR_begin_89 : decode prog_8_method_5_code 89 = .ok (.iastore, 1) := by decide +kernel
theorem dR_begin_90 : decode prog_8_method_5_code 90 = .ok (.aload_n 0, 1) := by decide +kernel
theorem dR_begin_91 : decode prog_8_method_5_code 91 = .ok (.dup, 1) := by decide +kernel
theorem dR_begin_92 : decode prog_8_method_5_code 92 = .ok (.getfield 83, 3) := by decide +kernel
theorem dR_begin_95 : decode prog_8_method_5_code 95 = .ok (.iconst 1, 1) := by decide +kernel
theorem dR_begin_96 : decode prog_8_method_5_code 96 = .ok (.iadd, 1) := by decide +kernel
theorem dR_begin_97 : decode prog_8_method_5_code 97 = .ok (.putfield 83, 3) := by decide +kernel
theorem dR_begin_100 : decode prog_8_method_5_code 100 = .ok (.aload_n 0, 1) := by decide +kernel
theorem dR_begin_101 : decode prog_8_method_5_code 101 = .ok (.getfield 83, 3) := by decide +kernel
theorem dR_begin_104 : decode prog_8_method_5_code 104 = .ok (.iconst 1, 1) := by decide +kernel
theorem dR_begin_105 : decode prog_8_method_5_code 105 = .ok (.isub, 1) := by decide +kernel
theorem dR_begin_106 : decode prog_8_method_5_code 106 = .ok (.ireturn, 1) := by decide +kernel
theorem dR_isNode_0 : decode prog_8_method_3_code 0 = .ok (.iload_n 1, 1) := by decide +kernel
theorem dR_isNode_1 : decode prog_8_method_3_code 1 = .ok (.ifCond .lt 12, 3) := by decide +kernel
theorem dR_isNode_4 : decode prog_8_method_3_code 4 = .ok (.iload_n 1, 1) := by decide +kernel
theorem dR_isNode_5 : decode prog_8_method_3_code 5 = .ok (.iconst 3, 1) := by decide +kernel
theorem dR_isNode_6 : decode prog_8_method_3_code 6 = .ok (.if_icmp .gt 7, 3) := by decide +kernel
theorem dR_isNode_9 : decode prog_8_method_3_code 9 = .ok (.iconst 1, 1) := by decide +kernel
theorem dR_isNode_10 : decode prog_8_method_3_code 10 = .ok (.goto 4, 3) := by decide +kernel
theorem dR_isNode_13 : decode prog_8_method_3_code 13 = .ok (.iconst 0, 1) := by decide +kernel
theorem dR_isNode_14 : decode prog_8_method_3_code 14 = .ok (.ireturn, 1) := by decide +kernel
theorem dR_consume_0 : decode prog_8_method_9_code 0 = .ok (.aload_n 0, 1) := by decide +kernel
theorem dR_consume_1 : decode prog_8_method_9_code 1 = .ok (.iload_n 1, 1) := by decide +kernel
theorem dR_consume_2 : decode prog_8_method_9_code 2 = .ok (.invokevirtual 87, 3) := by decide +kernel
theorem dR_consume_5 : decode prog_8_method_9_code 5 = .ok (.ifCond .eq 12, 3) := by decide +kernel
theorem dR_consume_8 : decode prog_8_method_9_code 8 = .ok (.aload_n 0, 1) := by decide +kernel
theorem dR_consume_9 : decode prog_8_method_9_code 9 = .ok (.iload_n 2, 1) := by decide +kernel
theorem dR_consume_10 : decode prog_8_method_9_code 10 = .ok (.iload_n 3, 1) := by decide +kernel
theorem dR_consume_11 : decode prog_8_method_9_code 11 = .ok (.invokevirtual 95, 3) := by decide +kernel
theorem dR_consume_14 : decode prog_8_method_9_code 14 = .ok (.ifCond .ne 5, 3) := by decide +kernel
theorem dR_consume_17 : decode prog_8_method_9_code 17 = .ok (.iconst (-1), 1) := by decide +kernel
theorem dR_consume_18 : decode prog_8_method_9_code 18 = .ok (.ireturn, 1) := by decide +kernel
theorem dR_consume_19 : decode prog_8_method_9_code 19 = .ok (.aload_n 0, 1) := by decide +kernel
theorem dR_consume_20 : decode prog_8_method_9_code 20 = .ok (.getfield 22, 3) := by decide +kernel
theorem dR_consume_23 : decode prog_8_method_9_code 23 = .ok (.iload_n 1, 1) := by decide +kernel
theorem dR_consume_24 : decode prog_8_method_9_code 24 = .ok (.iaload, 1) := by decide +kernel
theorem dR_consume_25 : decode prog_8_method_9_code 25 = .ok (.ifCond .eq 6, 3) := by decide +kernel
theorem dR_consume_28 : decode prog_8_method_9_code 28 = .ok (.bipush (-2), 2) := by decide +kernel
theorem dR_consume_30 : decode prog_8_method_9_code 30 = .ok (.ireturn, 1) := by decide +kernel
theorem dR_consume_31 : decode prog_8_method_9_code 31 = .ok (.aload_n 0, 1) := by decide +kernel
theorem dR_consume_32 : decode prog_8_method_9_code 32 = .ok (.getfield 62, 3) := by decide +kernel
theorem dR_consume_35 : decode prog_8_method_9_code 35 = .ok (.bipush 20, 2) := by decide +kernel
theorem dR_consume_37 : decode prog_8_method_9_code 37 = .ok (.aload_n 0, 1) := by decide +kernel
theorem dR_consume_38 : decode prog_8_method_9_code 38 = .ok (.getfield 7, 3) := by decide +kernel
theorem dR_consume_41 : decode prog_8_method_9_code 41 = .ok (.iload_n 1, 1) := by decide +kernel
theorem dR_consume_42 : decode prog_8_method_9_code 42 = .ok (.iaload, 1) := by decide +kernel
theorem dR_consume_43 : decode prog_8_method_9_code 43 = .ok (.imul, 1) := by decide +kernel
theorem dR_consume_44 : decode prog_8_method_9_code 44 = .ok (.iload_n 2, 1) := by decide +kernel
theorem dR_consume_45 : decode prog_8_method_9_code 45 = .ok (.iadd, 1) := by decide +kernel
theorem dR_consume_46 : decode prog_8_method_9_code 46 = .ok (.iaload, 1) := by decide +kernel
theorem dR_consume_47 : decode prog_8_method_9_code 47 = .ok (.ifCond .ne 6, 3) := by decide +kernel
theorem dR_consume_50 : decode prog_8_method_9_code 50 = .ok (.bipush (-3), 2) := by decide +kernel
theorem dR_consume_52 : decode prog_8_method_9_code 52 = .ok (.ireturn, 1) := by decide +kernel
theorem dR_consume_53 : decode prog_8_method_9_code 53 = .ok (.aload_n 0, 1) := by decide +kernel
theorem dR_consume_54 : decode prog_8_method_9_code 54 = .ok (.getfield 13, 3) := by decide +kernel
theorem dR_consume_57 : decode prog_8_method_9_code 57 = .ok (.iload_n 2, 1) := by decide +kernel
theorem dR_consume_58 : decode prog_8_method_9_code 58 = .ok (.iaload, 1) := by decide +kernel
theorem dR_consume_59 : decode prog_8_method_9_code 59 = .ok (.aload_n 0, 1) := by decide +kernel
theorem dR_consume_60 : decode prog_8_method_9_code 60 = .ok (.getfield 13, 3) := by decide +kernel
theorem dR_consume_63 : decode prog_8_method_9_code 63 = .ok (.iload_n 1, 1) := by decide +kernel
theorem dR_consume_64 : decode prog_8_method_9_code 64 = .ok (.iaload, 1) := by decide +kernel
theorem dR_consume_65 : decode prog_8_method_9_code 65 = .ok (.if_icmp .eq 6, 3) := by decide +kernel
theorem dR_consume_68 : decode prog_8_method_9_code 68 = .ok (.bipush (-4), 2) := by decide +kernel
theorem dR_consume_70 : decode prog_8_method_9_code 70 = .ok (.ireturn, 1) := by decide +kernel
theorem dR_consume_71 : decode prog_8_method_9_code 71 = .ok (.aload_n 0, 1) := by decide +kernel
theorem dR_consume_72 : decode prog_8_method_9_code 72 = .ok (.iload_n 1, 1) := by decide +kernel
theorem dR_consume_73 : decode prog_8_method_9_code 73 = .ok (.iconst 4, 1) := by decide +kernel
theorem dR_consume_74 : decode prog_8_method_9_code 74 = .ok (.iload_n 2, 1) := by decide +kernel
theorem dR_consume_75 : decode prog_8_method_9_code 75 = .ok (.imul, 1) := by decide +kernel
theorem dR_consume_76 : decode prog_8_method_9_code 76 = .ok (.iload_n 3, 1) := by decide +kernel
theorem dR_consume_77 : decode prog_8_method_9_code 77 = .ok (.iadd, 1) := by decide +kernel
theorem dR_consume_78 : decode prog_8_method_9_code 78 = .ok (.invokevirtual 99, 3) := by decide +kernel
theorem dR_consume_81 : decode prog_8_method_9_code 81 = .ok (.ifCond .eq 6, 3) := by decide +kernel
theorem dR_consume_84 : decode prog_8_method_9_code 84 = .ok (.bipush (-5), 2) := by decide +kernel
theorem dR_consume_86 : decode prog_8_method_9_code 86 = .ok (.ireturn, 1) := by decide +kernel
theorem dR_consume_87 : decode prog_8_method_9_code 87 = .ok (.aload_n 0, 1) := by decide +kernel
theorem dR_consume_88 : decode prog_8_method_9_code 88 = .ok (.getfield 35, 3) := by decide +kernel
theorem dR_consume_91 : decode prog_8_method_9_code 91 = .ok (.iload_n 1, 1) := by decide +kernel
theorem dR_consume_92 : decode prog_8_method_9_code 92 = .ok (.iaload, 1) := by decide +kernel
theorem dR_consume_93 : decode prog_8_method_9_code 93 = .ok (.iconst 4, 1) := by decide +kernel
theorem dR_consume_94 : decode prog_8_method_9_code 94 = .ok (.if_icmp .ne 6, 3) := by decide +kernel
theorem dR_consume_97 : decode prog_8_method_9_code 97 = .ok (.bipush (-6), 2) := by decide +kernel
theorem dR_consume_99 : decode prog_8_method_9_code 99 = .ok (.ireturn, 1) := by decide +kernel
theorem dR_consume_100 : decode prog_8_method_9_code 100 = .ok (.aload_n 0, 1) := by decide +kernel
theorem dR_consume_101 : decode prog_8_method_9_code 101 = .ok (.iload_n 1, 1) := by decide +kernel
theorem dR_consume_102 : decode prog_8_method_9_code 102 = .ok (.iconst 4, 1) := by decide +kernel
theorem dR_consume_103 : decode prog_8_method_9_code 103 = .ok (.iload_n 2, 1) := by decide +kernel
theorem dR_consume_104 : decode prog_8_method_9_code 104 = .ok (.imul, 1) := by decide +kernel
theorem dR_consume_105 : decode prog_8_method_9_code 105 = .ok (.iload_n 3, 1) := by decide +kernel
theorem dR_consume_106 : decode prog_8_method_9_code 106 = .ok (.iadd, 1) := by decide +kernel
theorem dR_consume_107 : decode prog_8_method_9_code 107 = .ok (.invokevirtual 102, 3) := by decide +kernel
theorem dR_consume_110 : decode prog_8_method_9_code 110 = .ok (.aload_n 0, 1) := by decide +kernel
theorem dR_consume_111 : decode prog_8_method_9_code 111 = .ok (.getfield 35, 3) := by decide +kernel
theorem dR_consume_114 : decode prog_8_method_9_code 114 = .ok (.iload_n 1, 1) := by decide +kernel
theorem dR_consume_115 : decode prog_8_method_9_code 115 = .ok (.iaload, 1) := by decide +kernel
theorem dR_consume_116 : decode prog_8_method_9_code 116 = .ok (.iconst 1, 1) := by decide +kernel
theorem dR_consume_117 : decode prog_8_method_9_code 117 = .ok (.isub, 1) := by decide +kernel
theorem dR_consume_118 : decode prog_8_method_9_code 118 = .ok (.ireturn, 1) := by decide +kernel
theorem dR_isTx_0 : decode prog_8_method_2_code 0 = .ok (.iload_n 1, 1) := by decide +kernel
theorem dR_isTx_1 : decode prog_8_method_2_code 1 = .ok (.ifCond .lt 15, 3) := by decide +kernel
theorem dR_isTx_4 : decode prog_8_method_2_code 4 = .ok (.iload_n 1, 1) := by decide +kernel
theorem dR_isTx_5 : decode prog_8_method_2_code 5 = .ok (.aload_n 0, 1) := by decide +kernel
theorem dR_isTx_6 : decode prog_8_method_2_code 6 = .ok (.getfield 83, 3) := by decide +kernel
theorem dR_isTx_9 : decode prog_8_method_2_code 9 = .ok (.if_icmp .ge 7, 3) := by decide +kernel
theorem dR_isTx_12 : decode prog_8_method_2_code 12 = .ok (.iconst 1, 1) := by decide +kernel
theorem dR_isTx_13 : decode prog_8_method_2_code 13 = .ok (.goto 4, 3) := by decide +kernel
theorem dR_isTx_16 : decode prog_8_method_2_code 16 = .ok (.iconst 0, 1) := by decide +kernel
theorem dR_isTx_17 : decode prog_8_method_2_code 17 = .ok (.ireturn, 1) := by decide +kernel
theorem dR_isState_0 : decode prog_8_method_4_code 0 = .ok (.aload_n 0, 1) := by decide +kernel
theorem dR_isState_1 : decode prog_8_method_4_code 1 = .ok (.iload_n 1, 1) := by decide +kernel
theorem dR_isState_2 : decode prog_8_method_4_code 2 = .ok (.invokevirtual 87, 3) := by decide +kernel
theorem dR_isState_5 : decode prog_8_method_4_code 5 = .ok (.ifCond .eq 21, 3) := by decide +kernel
theorem dR_isState_8 : decode prog_8_method_4_code 8 = .ok (.iload_n 2, 1) := by decide +kernel
theorem dR_isState_9 : decode prog_8_method_4_code 9 = .ok (.ifCond .lt 17, 3) := by decide +kernel
theorem dR_isState_12 : decode prog_8_method_4_code 12 = .ok (.iload_n 2, 1) := by decide +kernel
theorem dR_isState_13 : decode prog_8_method_4_code 13 = .ok (.aload_n 0, 1) := by decide +kernel
theorem dR_isState_14 : decode prog_8_method_4_code 14 = .ok (.getfield 38, 3) := by decide +kernel
theorem dR_isState_17 : decode prog_8_method_4_code 17 = .ok (.iload_n 1, 1) := by decide +kernel
theorem dR_isState_18 : decode prog_8_method_4_code 18 = .ok (.iaload, 1) := by decide +kernel
theorem dR_isState_19 : decode prog_8_method_4_code 19 = .ok (.if_icmp .ge 7, 3) := by decide +kernel
theorem dR_isState_22 : decode prog_8_method_4_code 22 = .ok (.iconst 1, 1) := by decide +kernel
theorem dR_isState_23 : decode prog_8_method_4_code 23 = .ok (.goto 4, 3) := by decide +kernel
theorem dR_isState_26 : decode prog_8_method_4_code 26 = .ok (.iconst 0, 1) := by decide +kernel
theorem dR_isState_27 : decode prog_8_method_4_code 27 = .ok (.ireturn, 1) := by decide +kernel
theorem dR_isInput_0 : decode prog_8_method_6_code 0 = .ok (.iconst 0, 1) := by decide +kernel
theorem dR_isInput_1 : decode prog_8_method_6_code 1 = .ok (.istore_n 3, 1) := by decide +kernel
theorem dR_isInput_2 : decode prog_8_method_6_code 2 = .ok (.iload_n 3, 1) := by decide +kernel
theorem dR_isInput_3 : decode prog_8_method_6_code 3 = .ok (.aload_n 0, 1) := by decide +kernel
theorem dR_isInput_4 : decode prog_8_method_6_code 4 = .ok (.getfield 35, 3) := by decide +kernel
theorem dR_isInput_7 : decode prog_8_method_6_code 7 = .ok (.iload_n 1, 1) := by decide +kernel
theorem dR_isInput_8 : decode prog_8_method_6_code 8 = .ok (.iaload, 1) := by decide +kernel
theorem dR_isInput_9 : decode prog_8_method_6_code 9 = .ok (.if_icmp .ge 25, 3) := by decide +kernel
theorem dR_isInput_12 : decode prog_8_method_6_code 12 = .ok (.aload_n 0, 1) := by decide +kernel
theorem dR_isInput_13 : decode prog_8_method_6_code 13 = .ok (.getfield 41, 3) := by decide +kernel
theorem dR_isInput_16 : decode prog_8_method_6_code 16 = .ok (.iconst 4, 1) := by decide +kernel
theorem dR_isInput_17 : decode prog_8_method_6_code 17 = .ok (.iload_n 1, 1) := by decide +kernel
theorem dR_isInput_18 : decode prog_8_method_6_code 18 = .ok (.imul, 1) := by decide +kernel
theorem dR_isInput_19 : decode prog_8_method_6_code 19 = .ok (.iload_n 3, 1) := by decide +kernel
theorem dR_isInput_20 : decode prog_8_method_6_code 20 = .ok (.iadd, 1) := by decide +kernel
theorem dR_isInput_21 : decode prog_8_method_6_code 21 = .ok (.iaload, 1) := by decide +kernel
theorem dR_isInput_22 : decode prog_8_method_6_code 22 = .ok (.iload_n 2, 1) := by decide +kernel
theorem dR_isInput_23 : decode prog_8_method_6_code 23 = .ok (.if_icmp .ne 5, 3) := by decide +kernel
theorem dR_isInput_26 : decode prog_8_method_6_code 26 = .ok (.iconst 1, 1) := by decide +kernel
theorem dR_isInput_27 : decode prog_8_method_6_code 27 = .ok (.ireturn, 1) := by decide +kernel
theorem dR_isInput_28 : decode prog_8_method_6_code 28 = .ok (.iinc 3 1, 3) := by decide +kernel
theorem dR_isInput_31 : decode prog_8_method_6_code 31 = .ok (.goto (-29), 3) := by decide +kernel
theorem dR_isInput_34 : decode prog_8_method_6_code 34 = .ok (.iconst 0, 1) := by decide +kernel
theorem dR_isInput_35 : decode prog_8_method_6_code 35 = .ok (.ireturn, 1) := by decide +kernel
theorem dR_addInput_0 : decode prog_8_method_7_code 0 = .ok (.aload_n 0, 1) := by decide +kernel
theorem dR_addInput_1 : decode prog_8_method_7_code 1 = .ok (.getfield 41, 3) := by decide +kernel
theorem dR_addInput_4 : decode prog_8_method_7_code 4 = .ok (.iconst 4, 1) := by decide +kernel
theorem dR_addInput_5 : decode prog_8_method_7_code 5 = .ok (.iload_n 1, 1) := by decide +kernel
theorem dR_addInput_6 : decode prog_8_method_7_code 6 = .ok (.imul, 1) := by decide +kernel
theorem dR_addInput_7 : decode prog_8_method_7_code 7 = .ok (.aload_n 0, 1) := by decide +kernel
theorem dR_addInput_8 : decode prog_8_method_7_code 8 = .ok (.getfield 35, 3) := by decide +kernel
theorem dR_addInput_11 : decode prog_8_method_7_code 11 = .ok (.iload_n 1, 1) := by decide +kernel
theorem dR_addInput_12 : decode prog_8_method_7_code 12 = .ok (.iaload, 1) := by decide +kernel
theorem dR_addInput_13 : decode prog_8_method_7_code 13 = .ok (.iadd, 1) := by decide +kernel
theorem dR_addInput_14 : decode prog_8_method_7_code 14 = .ok (.iload_n 2, 1) := by decide +kernel
theorem dR_addInput_15 : decode prog_8_method_7_code 15 = .ok (.iastore, 1) := by decide +kernel
theorem dR_addInput_16 : decode prog_8_method_7_code 16 = .ok (.aload_n 0, 1) := by decide +kernel
theorem dR_addInput_17 : decode prog_8_method_7_code 17 = .ok (.getfield 35, 3) := by decide +kernel
theorem dR_addInput_20 : decode prog_8_method_7_code 20 = .ok (.iload_n 1, 1) := by decide +kernel
theorem dR_addInput_21 : decode prog_8_method_7_code 21 = .ok (.dup2, 1) := by decide +kernel
theorem dR_addInput_22 : decode prog_8_method_7_code 22 = .ok (.iaload, 1) := by decide +kernel
theorem dR_addInput_23 : decode prog_8_method_7_code 23 = .ok (.iconst 1, 1) := by decide +kernel
theorem dR_addInput_24 : decode prog_8_method_7_code 24 = .ok (.iadd, 1) := by decide +kernel
theorem dR_addInput_25 : decode prog_8_method_7_code 25 = .ok (.iastore, 1) := by decide +kernel
theorem dR_addInput_26 : decode prog_8_method_7_code 26 = .ok (.return_, 1) := by decide +kernel
theorem dR_produce_0 : decode prog_8_method_10_code 0 = .ok (.aload_n 0, 1) := by decide +kernel
theorem dR_produce_1 : decode prog_8_method_10_code 1 = .ok (.iload_n 1, 1) := by decide +kernel
theorem dR_produce_2 : decode prog_8_method_10_code 2 = .ok (.invokevirtual 87, 3) := by decide +kernel
theorem dR_produce_5 : decode prog_8_method_10_code 5 = .ok (.ifCond .eq 43, 3) := by decide +kernel
theorem dR_produce_8 : decode prog_8_method_10_code 8 = .ok (.iload_n 2, 1) := by decide +kernel
theorem dR_produce_9 : decode prog_8_method_10_code 9 = .ok (.ifCond .lt 39, 3) := by decide +kernel
theorem dR_produce_12 : decode prog_8_method_10_code 12 = .ok (.iload_n 2, 1) := by decide +kernel
theorem dR_produce_13 : decode prog_8_method_10_code 13 = .ok (.iconst 2, 1) := by decide +kernel
theorem dR_produce_14 : decode prog_8_method_10_code 14 = .ok (.if_icmp .gt 34, 3) := by decide +kernel
theorem dR_produce_17 : decode prog_8_method_10_code 17 = .ok (.aload_n 0, 1) := by decide +kernel
theorem dR_produce_18 : decode prog_8_method_10_code 18 = .ok (.iload_n 3, 1) := by decide +kernel
theorem dR_produce_19 : decode prog_8_method_10_code 19 = .ok (.invokevirtual 91, 3) := by decide +kernel
theorem dR_produce_22 : decode prog_8_method_10_code 22 = .ok (.ifCond .eq 26, 3) := by decide +kernel
theorem dR_produce_25 : decode prog_8_method_10_code 25 = .ok (.aload_n 0, 1) := by decide +kernel
theorem dR_produce_26 : decode prog_8_method_10_code 26 = .ok (.iload 4, 2) := by decide +kernel
theorem dR_produce_28 : decode prog_8_method_10_code 28 = .ok (.invokevirtual 91, 3) := by decide +kernel
theorem dR_produce_31 : decode prog_8_method_10_code 31 = .ok (.ifCond .eq 17, 3) := by decide +kernel
theorem dR_produce_34 : decode prog_8_method_10_code 34 = .ok (.iload 5, 2) := by decide +kernel
theorem dR_produce_36 : decode prog_8_method_10_code 36 = .ok (.iconst 1, 1) := by decide +kernel
theorem dR_produce_37 : decode prog_8_method_10_code 37 = .ok (.if_icmp .lt 11, 3) := by decide +kernel
theorem dR_produce_40 : decode prog_8_method_10_code 40 = .ok (.iload 5, 2) := by decide +kernel
theorem dR_produce_42 : decode prog_8_method_10_code 42 = .ok (.sipush 1000, 3) := by decide +kernel
theorem dR_produce_45 : decode prog_8_method_10_code 45 = .ok (.if_icmp .le 5, 3) := by decide +kernel
theorem dR_produce_48 : decode prog_8_method_10_code 48 = .ok (.iconst (-1), 1) := by decide +kernel
theorem dR_produce_49 : decode prog_8_method_10_code 49 = .ok (.ireturn, 1) := by decide +kernel
theorem dR_produce_50 : decode prog_8_method_10_code 50 = .ok (.iload_n 2, 1) := by decide +kernel
theorem dR_produce_51 : decode prog_8_method_10_code 51 = .ok (.iconst 1, 1) := by decide +kernel
theorem dR_produce_52 : decode prog_8_method_10_code 52 = .ok (.if_icmp .ne 9, 3) := by decide +kernel
theorem dR_produce_55 : decode prog_8_method_10_code 55 = .ok (.iload_n 3, 1) := by decide +kernel
theorem dR_produce_56 : decode prog_8_method_10_code 56 = .ok (.iload 4, 2) := by decide +kernel
theorem dR_produce_58 : decode prog_8_method_10_code 58 = .ok (.if_icmp .eq 17, 3) := by decide +kernel
theorem dR_produce_61 : decode prog_8_method_10_code 61 = .ok (.iload_n 2, 1) := by decide +kernel
theorem dR_produce_62 : decode prog_8_method_10_code 62 = .ok (.iconst 2, 1) := by decide +kernel
theorem dR_produce_63 : decode prog_8_method_10_code 63 = .ok (.if_icmp .ne 14, 3) := by decide +kernel
theorem dR_produce_66 : decode prog_8_method_10_code 66 = .ok (.iload_n 3, 1) := by decide +kernel
theorem dR_produce_67 : decode prog_8_method_10_code 67 = .ok (.ifCond .ne 8, 3) := by decide +kernel
theorem dR_produce_70 : decode prog_8_method_10_code 70 = .ok (.iload 4, 2) := by decide +kernel
theorem dR_produce_72 : decode prog_8_method_10_code 72 = .ok (.ifCond .eq 5, 3) := by decide +kernel
theorem dR_produce_75 : decode prog_8_method_10_code 75 = .ok (.iconst (-1), 1) := by decide +kernel
theorem dR_produce_76 : decode prog_8_method_10_code 76 = .ok (.ireturn, 1) := by decide +kernel
theorem dR_produce_77 : decode prog_8_method_10_code 77 = .ok (.aload_n 0, 1) := by decide +kernel
theorem dR_produce_78 : decode prog_8_method_10_code 78 = .ok (.getfield 22, 3) := by decide +kernel
theorem dR_produce_81 : decode prog_8_method_10_code 81 = .ok (.iload_n 1, 1) := by decide +kernel
theorem dR_produce_82 : decode prog_8_method_10_code 82 = .ok (.iaload, 1) := by decide +kernel
theorem dR_produce_83 : decode prog_8_method_10_code 83 = .ok (.ifCond .eq 6, 3) := by decide +kernel
theorem dR_produce_86 : decode prog_8_method_10_code 86 = .ok (.bipush (-2), 2) := by decide +kernel
theorem dR_produce_88 : decode prog_8_method_10_code 88 = .ok (.ireturn, 1) := by decide +kernel
theorem dR_produce_89 : decode prog_8_method_10_code 89 = .ok (.aload_n 0, 1) := by decide +kernel
theorem dR_produce_90 : decode prog_8_method_10_code 90 = .ok (.getfield 38, 3) := by decide +kernel
theorem dR_produce_93 : decode prog_8_method_10_code 93 = .ok (.iload_n 1, 1) := by decide +kernel
theorem dR_produce_94 : decode prog_8_method_10_code 94 = .ok (.iaload, 1) := by decide +kernel
theorem dR_produce_95 : decode prog_8_method_10_code 95 = .ok (.iconst 4, 1) := by decide +kernel
theorem dR_produce_96 : decode prog_8_method_10_code 96 = .ok (.if_icmp .ne 6, 3) := by decide +kernel
theorem dR_produce_99 : decode prog_8_method_10_code 99 = .ok (.bipush (-6), 2) := by decide +kernel
theorem dR_produce_101 : decode prog_8_method_10_code 101 = .ok (.ireturn, 1) := by decide +kernel
theorem dR_produce_102 : decode prog_8_method_10_code 102 = .ok (.aload_n 0, 1) := by decide +kernel
theorem dR_produce_103 : decode prog_8_method_10_code 103 = .ok (.iload_n 1, 1) := by decide +kernel
theorem dR_produce_104 : decode prog_8_method_10_code 104 = .ok (.iload_n 2, 1) := by decide +kernel
theorem dR_produce_105 : decode prog_8_method_10_code 105 = .ok (.iload_n 3, 1) := by decide +kernel
theorem dR_produce_106 : decode prog_8_method_10_code 106 = .ok (.iload 4, 2) := by decide +kernel
theorem dR_produce_108 : decode prog_8_method_10_code 108 = .ok (.iload 5, 2) := by decide +kernel
theorem dR_produce_110 : decode prog_8_method_10_code 110 = .ok (.invokevirtual 106, 3) := by decide +kernel
theorem dR_produce_113 : decode prog_8_method_10_code 113 = .ok (.aload_n 0, 1) := by decide +kernel
theorem dR_produce_114 : decode prog_8_method_10_code 114 = .ok (.getfield 38, 3) := by decide +kernel
theorem dR_produce_117 : decode prog_8_method_10_code 117 = .ok (.iload_n 1, 1) := by decide +kernel
theorem dR_produce_118 : decode prog_8_method_10_code 118 = .ok (.iaload, 1) := by decide +kernel
theorem dR_produce_119 : decode prog_8_method_10_code 119 = .ok (.iconst 1, 1) := by decide +kernel
theorem dR_produce_120 : decode prog_8_method_10_code 120 = .ok (.isub, 1) := by decide +kernel
theorem dR_produce_121 : decode prog_8_method_10_code 121 = .ok (.ireturn, 1) := by decide +kernel
theorem dR_addOutput_0 : decode prog_8_method_8_code 0 = .ok (.iconst 4, 1) := by decide +kernel
theorem dR_addOutput_1 : decode prog_8_method_8_code 1 = .ok (.iload_n 1, 1) := by decide +kernel
theorem dR_addOutput_2 : decode prog_8_method_8_code 2 = .ok (.imul, 1) := by decide +kernel
theorem dR_addOutput_3 : decode prog_8_method_8_code 3 = .ok (.aload_n 0, 1) := by decide +kernel
theorem dR_addOutput_4 : decode prog_8_method_8_code 4 = .ok (.getfield 38, 3) := by decide +kernel
theorem dR_addOutput_7 : decode prog_8_method_8_code 7 = .ok (.iload_n 1, 1) := by decide +kernel
theorem dR_addOutput_8 : decode prog_8_method_8_code 8 = .ok (.iaload, 1) := by decide +kernel
theorem dR_addOutput_9 : decode prog_8_method_8_code 9 = .ok (.iadd, 1) := by decide +kernel
theorem dR_addOutput_10 : decode prog_8_method_8_code 10 = .ok (.istore 6, 2) := by decide +kernel
theorem dR_addOutput_12 : decode prog_8_method_8_code 12 = .ok (.aload_n 0, 1) := by decide +kernel
theorem dR_addOutput_13 : decode prog_8_method_8_code 13 = .ok (.getfield 44, 3) := by decide +kernel
theorem dR_addOutput_16 : decode prog_8_method_8_code 16 = .ok (.iload 6, 2) := by decide +kernel
theorem dR_addOutput_18 : decode prog_8_method_8_code 18 = .ok (.iload_n 2, 1) := by decide +kernel
theorem dR_addOutput_19 : decode prog_8_method_8_code 19 = .ok (.iastore, 1) := by decide +kernel
theorem dR_addOutput_20 : decode prog_8_method_8_code 20 = .ok (.aload_n 0, 1) := by decide +kernel
theorem dR_addOutput_21 : decode prog_8_method_8_code 21 = .ok (.getfield 47, 3) := by decide +kernel
theorem dR_addOutput_24 : decode prog_8_method_8_code 24 = .ok (.iload 6, 2) := by decide +kernel
theorem dR_addOutput_26 : decode prog_8_method_8_code 26 = .ok (.iload_n 3, 1) := by decide +kernel
theorem dR_addOutput_27 : decode prog_8_method_8_code 27 = .ok (.iastore, 1) := by decide +kernel
theorem dR_addOutput_28 : decode prog_8_method_8_code 28 = .ok (.aload_n 0, 1) := by decide +kernel
theorem dR_addOutput_29 : decode prog_8_method_8_code 29 = .ok (.getfield 50, 3) := by decide +kernel
theorem dR_addOutput_32 : decode prog_8_method_8_code 32 = .ok (.iload 6, 2) := by decide +kernel
theorem dR_addOutput_34 : decode prog_8_method_8_code 34 = .ok (.iload 4, 2) := by decide +kernel
theorem dR_addOutput_36 : decode prog_8_method_8_code 36 = .ok (.iastore, 1) := by decide +kernel
theorem dR_addOutput_37 : decode prog_8_method_8_code 37 = .ok (.aload_n 0, 1) := by decide +kernel
theorem dR_addOutput_38 : decode prog_8_method_8_code 38 = .ok (.getfield 53, 3) := by decide +kernel
theorem dR_addOutput_41 : decode prog_8_method_8_code 41 = .ok (.iload 6, 2) := by decide +kernel
theorem dR_addOutput_43 : decode prog_8_method_8_code 43 = .ok (.iload 5, 2) := by decide +kernel
theorem dR_addOutput_45 : decode prog_8_method_8_code 45 = .ok (.iastore, 1) := by decide +kernel
theorem dR_addOutput_46 : decode prog_8_method_8_code 46 = .ok (.aload_n 0, 1) := by decide +kernel
theorem dR_addOutput_47 : decode prog_8_method_8_code 47 = .ok (.getfield 56, 3) := by decide +kernel
theorem dR_addOutput_50 : decode prog_8_method_8_code 50 = .ok (.iload 6, 2) := by decide +kernel
theorem dR_addOutput_52 : decode prog_8_method_8_code 52 = .ok (.iconst (-1), 1) := by decide +kernel
theorem dR_addOutput_53 : decode prog_8_method_8_code 53 = .ok (.iastore, 1) := by decide +kernel
theorem dR_addOutput_54 : decode prog_8_method_8_code 54 = .ok (.aload_n 0, 1) := by decide +kernel
theorem dR_addOutput_55 : decode prog_8_method_8_code 55 = .ok (.getfield 59, 3) := by decide +kernel
theorem dR_addOutput_58 : decode prog_8_method_8_code 58 = .ok (.iload 6, 2) := by decide +kernel
theorem dR_addOutput_60 : decode prog_8_method_8_code 60 = .ok (.iconst (-1), 1) := by decide +kernel
theorem dR_addOutput_61 : decode prog_8_method_8_code 61 = .ok (.iastore, 1) := by decide +kernel
theorem dR_addOutput_62 : decode prog_8_method_8_code 62 = .ok (.aload_n 0, 1) := by decide +kernel
theorem dR_addOutput_63 : decode prog_8_method_8_code 63 = .ok (.getfield 38, 3) := by decide +kernel
theorem dR_addOutput_66 : decode prog_8_method_8_code 66 = .ok (.iload_n 1, 1) := by decide +kernel
theorem dR_addOutput_67 : decode prog_8_method_8_code 67 = .ok (.dup2, 1) := by decide +kernel
theorem dR_addOutput_68 : decode prog_8_method_8_code 68 = .ok (.iaload, 1) := by decide +kernel
theorem dR_addOutput_69 : decode prog_8_method_8_code 69 = .ok (.iconst 1, 1) := by decide +kernel
theorem dR_addOutput_70 : decode prog_8_method_8_code 70 = .ok (.iadd, 1) := by decide +kernel
theorem dR_addOutput_71 : decode prog_8_method_8_code 71 = .ok (.iastore, 1) := by decide +kernel
theorem dR_addOutput_72 : decode prog_8_method_8_code 72 = .ok (.return_, 1) := by decide +kernel
theorem dR_bind_0 : decode prog_8_method_11_code 0 = .ok (.aload_n 0, 1) := by decide +kernel
theorem dR_bind_1 : decode prog_8_method_11_code 1 = .ok (.iload_n 1, 1) := by decide +kernel
theorem dR_bind_2 : decode prog_8_method_11_code 2 = .ok (.iload_n 2, 1) := by decide +kernel
theorem dR_bind_3 : decode prog_8_method_11_code 3 = .ok (.invokevirtual 95, 3) := by decide +kernel
theorem dR_bind_6 : decode prog_8_method_11_code 6 = .ok (.ifCond .eq 22, 3) := by decide +kernel
theorem dR_bind_9 : decode prog_8_method_11_code 9 = .ok (.iload_n 3, 1) := by decide +kernel
theorem dR_bind_10 : decode prog_8_method_11_code 10 = .ok (.iconst (-1), 1) := by decide +kernel
theorem dR_bind_11 : decode prog_8_method_11_code 11 = .ok (.if_icmp .eq 12, 3) := by decide +kernel
theorem dR_bind_14 : decode prog_8_method_11_code 14 = .ok (.aload_n 0, 1) := by decide +kernel
theorem dR_bind_15 : decode prog_8_method_11_code 15 = .ok (.iload_n 1, 1) := by decide +kernel
theorem dR_bind_16 : decode prog_8_method_11_code 16 = .ok (.iload_n 3, 1) := by decide +kernel
theorem dR_bind_17 : decode prog_8_method_11_code 17 = .ok (.invokevirtual 95, 3) := by decide +kernel
theorem dR_bind_20 : decode prog_8_method_11_code 20 = .ok (.ifCond .eq 8, 3) := by decide +kernel
theorem dR_bind_23 : decode prog_8_method_11_code 23 = .ok (.iload_n 3, 1) := by decide +kernel
theorem dR_bind_24 : decode prog_8_method_11_code 24 = .ok (.iload_n 2, 1) := by decide +kernel
theorem dR_bind_25 : decode prog_8_method_11_code 25 = .ok (.if_icmp .ne 5, 3) := by decide +kernel
theorem dR_bind_28 : decode prog_8_method_11_code 28 = .ok (.iconst (-1), 1) := by decide +kernel
theorem dR_bind_29 : decode prog_8_method_11_code 29 = .ok (.ireturn, 1) := by decide +kernel
theorem dR_bind_30 : decode prog_8_method_11_code 30 = .ok (.aload_n 0, 1) := by decide +kernel
theorem dR_bind_31 : decode prog_8_method_11_code 31 = .ok (.getfield 22, 3) := by decide +kernel
theorem dR_bind_34 : decode prog_8_method_11_code 34 = .ok (.iload_n 1, 1) := by decide +kernel
theorem dR_bind_35 : decode prog_8_method_11_code 35 = .ok (.iaload, 1) := by decide +kernel
theorem dR_bind_36 : decode prog_8_method_11_code 36 = .ok (.ifCond .eq 6, 3) := by decide +kernel
theorem dR_bind_39 : decode prog_8_method_11_code 39 = .ok (.bipush (-2), 2) := by decide +kernel
theorem dR_bind_41 : decode prog_8_method_11_code 41 = .ok (.ireturn, 1) := by decide +kernel
theorem dR_bind_42 : decode prog_8_method_11_code 42 = .ok (.aload_n 0, 1) := by decide +kernel
theorem dR_bind_43 : decode prog_8_method_11_code 43 = .ok (.getfield 56, 3) := by decide +kernel
theorem dR_bind_46 : decode prog_8_method_11_code 46 = .ok (.iconst 4, 1) := by decide +kernel
theorem dR_bind_47 : decode prog_8_method_11_code 47 = .ok (.iload_n 1, 1) := by decide +kernel
theorem dR_bind_48 : decode prog_8_method_11_code 48 = .ok (.imul, 1) := by decide +kernel
theorem dR_bind_49 : decode prog_8_method_11_code 49 = .ok (.iload_n 2, 1) := by decide +kernel
theorem dR_bind_50 : decode prog_8_method_11_code 50 = .ok (.iadd, 1) := by decide +kernel
theorem dR_bind_51 : decode prog_8_method_11_code 51 = .ok (.iload_n 3, 1) := by decide +kernel
theorem dR_bind_52 : decode prog_8_method_11_code 52 = .ok (.iastore, 1) := by decide +kernel
theorem dR_bind_53 : decode prog_8_method_11_code 53 = .ok (.iconst 0, 1) := by decide +kernel
theorem dR_bind_54 : decode prog_8_method_11_code 54 = .ok (.ireturn, 1) := by decide +kernel
theorem dR_pay_0 : decode prog_8_method_16_code 0 = .ok (.aload_n 0, 1) := by decide +kernel
theorem dR_pay_1 : decode prog_8_method_16_code 1 = .ok (.iload_n 1, 1) := by decide +kernel
theorem dR_pay_2 : decode prog_8_method_16_code 2 = .ok (.invokevirtual 87, 3) := by decide +kernel
theorem dR_pay_5 : decode prog_8_method_16_code 5 = .ok (.ifCond .eq 33, 3) := by decide +kernel
theorem dR_pay_8 : decode prog_8_method_16_code 8 = .ok (.aload_n 0, 1) := by decide +kernel
theorem dR_pay_9 : decode prog_8_method_16_code 9 = .ok (.iload_n 2, 1) := by decide +kernel
theorem dR_pay_10 : decode prog_8_method_16_code 10 = .ok (.invokevirtual 91, 3) := by decide +kernel
theorem dR_pay_13 : decode prog_8_method_16_code 13 = .ok (.ifCond .eq 25, 3) := by decide +kernel
theorem dR_pay_16 : decode prog_8_method_16_code 16 = .ok (.aload_n 0, 1) := by decide +kernel
theorem dR_pay_17 : decode prog_8_method_16_code 17 = .ok (.iload_n 3, 1) := by decide +kernel
theorem dR_pay_18 : decode prog_8_method_16_code 18 = .ok (.invokevirtual 91, 3) := by decide +kernel
theorem dR_pay_21 : decode prog_8_method_16_code 21 = .ok (.ifCond .eq 17, 3) := by decide +kernel
theorem dR_pay_24 : decode prog_8_method_16_code 24 = .ok (.iload 4, 2) := by decide +kernel
theorem dR_pay_26 : decode prog_8_method_16_code 26 = .ok (.iconst 1, 1) := by decide +kernel
theorem dR_pay_27 : decode prog_8_method_16_code 27 = .ok (.if_icmp .lt 11, 3) := by decide +kernel
theorem dR_pay_30 : decode prog_8_method_16_code 30 = .ok (.iload 4, 2) := by decide +kernel
theorem dR_pay_32 : decode prog_8_method_16_code 32 = .ok (.sipush 1000, 3) := by decide +kernel
theorem dR_pay_35 : decode prog_8_method_16_code 35 = .ok (.if_icmp .le 5, 3) := by decide +kernel
theorem dR_pay_38 : decode prog_8_method_16_code 38 = .ok (.iconst (-1), 1) := by decide +kernel
theorem dR_pay_39 : decode prog_8_method_16_code 39 = .ok (.ireturn, 1) := by decide +kernel
theorem dR_pay_40 : decode prog_8_method_16_code 40 = .ok (.aload_n 0, 1) := by decide +kernel
theorem dR_pay_41 : decode prog_8_method_16_code 41 = .ok (.getfield 22, 3) := by decide +kernel
theorem dR_pay_44 : decode prog_8_method_16_code 44 = .ok (.iload_n 1, 1) := by decide +kernel
theorem dR_pay_45 : decode prog_8_method_16_code 45 = .ok (.iaload, 1) := by decide +kernel
theorem dR_pay_46 : decode prog_8_method_16_code 46 = .ok (.ifCond .eq 6, 3) := by decide +kernel
theorem dR_pay_49 : decode prog_8_method_16_code 49 = .ok (.bipush (-2), 2) := by decide +kernel
theorem dR_pay_51 : decode prog_8_method_16_code 51 = .ok (.ireturn, 1) := by decide +kernel
theorem dR_pay_52 : decode prog_8_method_16_code 52 = .ok (.iconst 0, 1) := by decide +kernel
theorem dR_pay_53 : decode prog_8_method_16_code 53 = .ok (.istore 5, 2) := by decide +kernel
theorem dR_pay_55 : decode prog_8_method_16_code 55 = .ok (.iconst 0, 1) := by decide +kernel
theorem dR_pay_56 : decode prog_8_method_16_code 56 = .ok (.istore 6, 2) := by decide +kernel
theorem dR_pay_58 : decode prog_8_method_16_code 58 = .ok (.iconst 0, 1) := by decide +kernel
theorem dR_pay_59 : decode prog_8_method_16_code 59 = .ok (.istore 7, 2) := by decide +kernel
theorem dR_pay_61 : decode prog_8_method_16_code 61 = .ok (.iload 7, 2) := by decide +kernel
theorem dR_pay_63 : decode prog_8_method_16_code 63 = .ok (.bipush 80, 2) := by decide +kernel
theorem dR_pay_65 : decode prog_8_method_16_code 65 = .ok (.if_icmp .ge 42, 3) := by decide +kernel
theorem dR_pay_68 : decode prog_8_method_16_code 68 = .ok (.iload 5, 2) := by decide +kernel
theorem dR_pay_70 : decode prog_8_method_16_code 70 = .ok (.iload 4, 2) := by decide +kernel
theorem dR_pay_72 : decode prog_8_method_16_code 72 = .ok (.if_icmp .ge 35, 3) := by decide +kernel
theorem dR_pay_75 : decode prog_8_method_16_code 75 = .ok (.aload_n 0, 1) := by decide +kernel
theorem dR_pay_76 : decode prog_8_method_16_code 76 = .ok (.iload_n 1, 1) := by decide +kernel
theorem dR_pay_77 : decode prog_8_method_16_code 77 = .ok (.iload_n 2, 1) := by decide +kernel
theorem dR_pay_78 : decode prog_8_method_16_code 78 = .ok (.iload 7, 2) := by decide +kernel
theorem dR_pay_80 : decode prog_8_method_16_code 80 = .ok (.invokevirtual 119, 3) := by decide +kernel
theorem dR_pay_83 : decode prog_8_method_16_code 83 = .ok (.ifCond .eq 18, 3) := by decide +kernel
theorem dR_pay_86 : decode prog_8_method_16_code 86 = .ok (.iload 5, 2) := by decide +kernel
theorem dR_pay_88 : decode prog_8_method_16_code 88 = .ok (.aload_n 0, 1) := by decide +kernel
theorem dR_pay_89 : decode prog_8_method_16_code 89 = .ok (.getfield 53, 3) := by decide +kernel
theorem dR_pay_92 : decode prog_8_method_16_code 92 = .ok (.iload 7, 2) := by decide +kernel
theorem dR_pay_94 : decode prog_8_method_16_code 94 = .ok (.iaload, 1) := by decide +kernel
theorem dR_pay_95 : decode prog_8_method_16_code 95 = .ok (.iadd, 1) := by decide +kernel
theorem dR_pay_96 : decode prog_8_method_16_code 96 = .ok (.istore 5, 2) := by decide +kernel
theorem dR_pay_98 : decode prog_8_method_16_code 98 = .ok (.iinc 6 1, 3) := by decide +kernel
theorem dR_pay_101 : decode prog_8_method_16_code 101 = .ok (.iinc 7 1, 3) := by decide +kernel
theorem dR_pay_104 : decode prog_8_method_16_code 104 = .ok (.goto (-43), 3) := by decide +kernel
theorem dR_pay_107 : decode prog_8_method_16_code 107 = .ok (.iload 5, 2) := by decide +kernel
theorem dR_pay_109 : decode prog_8_method_16_code 109 = .ok (.iload 4, 2) := by decide +kernel
theorem dR_pay_111 : decode prog_8_method_16_code 111 = .ok (.if_icmp .ge 6, 3) := by decide +kernel
theorem dR_pay_114 : decode prog_8_method_16_code 114 = .ok (.bipush (-7), 2) := by decide +kernel
theorem dR_pay_116 : decode prog_8_method_16_code 116 = .ok (.ireturn, 1) := by decide +kernel
theorem dR_pay_117 : decode prog_8_method_16_code 117 = .ok (.iload 5, 2) := by decide +kernel
theorem dR_pay_119 : decode prog_8_method_16_code 119 = .ok (.iload 4, 2) := by decide +kernel
theorem dR_pay_121 : decode prog_8_method_16_code 121 = .ok (.if_icmp .le 7, 3) := by decide +kernel
theorem dR_pay_124 : decode prog_8_method_16_code 124 = .ok (.iconst 2, 1) := by decide +kernel
theorem dR_pay_125 : decode prog_8_method_16_code 125 = .ok (.goto 4, 3) := by decide +kernel
theorem dR_pay_128 : decode prog_8_method_16_code 128 = .ok (.iconst 1, 1) := by decide +kernel
theorem dR_pay_129 : decode prog_8_method_16_code 129 = .ok (.istore 8, 2) := by decide +kernel
theorem dR_pay_131 : decode prog_8_method_16_code 131 = .ok (.aload_n 0, 1) := by decide +kernel
theorem dR_pay_132 : decode prog_8_method_16_code 132 = .ok (.getfield 35, 3) := by decide +kernel
theorem dR_pay_135 : decode prog_8_method_16_code 135 = .ok (.iload_n 1, 1) := by decide +kernel
theorem dR_pay_136 : decode prog_8_method_16_code 136 = .ok (.iaload, 1) := by decide +kernel
theorem dR_pay_137 : decode prog_8_method_16_code 137 = .ok (.iload 6, 2) := by decide +kernel
theorem dR_pay_139 : decode prog_8_method_16_code 139 = .ok (.iadd, 1) := by decide +kernel
theorem dR_pay_140 : decode prog_8_method_16_code 140 = .ok (.iconst 4, 1) := by decide +kernel
theorem dR_pay_141 : decode prog_8_method_16_code 141 = .ok (.if_icmp .gt 16, 3) := by decide +kernel
theorem dR_pay_144 : decode prog_8_method_16_code 144 = .ok (.aload_n 0, 1) := by decide +kernel
theorem dR_pay_145 : decode prog_8_method_16_code 145 = .ok (.getfield 38, 3) := by decide +kernel
theorem dR_pay_148 : decode prog_8_method_16_code 148 = .ok (.iload_n 1, 1) := by decide +kernel
theorem dR_pay_149 : decode prog_8_method_16_code 149 = .ok (.iaload, 1) := by decide +kernel
theorem dR_pay_150 : decode prog_8_method_16_code 150 = .ok (.iload 8, 2) := by decide +kernel
theorem dR_pay_152 : decode prog_8_method_16_code 152 = .ok (.iadd, 1) := by decide +kernel
theorem dR_pay_153 : decode prog_8_method_16_code 153 = .ok (.iconst 4, 1) := by decide +kernel
theorem dR_pay_154 : decode prog_8_method_16_code 154 = .ok (.if_icmp .le 6, 3) := by decide +kernel
theorem dR_pay_157 : decode prog_8_method_16_code 157 = .ok (.bipush (-6), 2) := by decide +kernel
theorem dR_pay_159 : decode prog_8_method_16_code 159 = .ok (.ireturn, 1) := by decide +kernel
theorem dR_pay_160 : decode prog_8_method_16_code 160 = .ok (.iconst 0, 1) := by decide +kernel
theorem dR_pay_161 : decode prog_8_method_16_code 161 = .ok (.istore 9, 2) := by decide +kernel
theorem dR_pay_163 : decode prog_8_method_16_code 163 = .ok (.iload 9, 2) := by decide +kernel
theorem dR_pay_165 : decode prog_8_method_16_code 165 = .ok (.iload 7, 2) := by decide +kernel
theorem dR_pay_167 : decode prog_8_method_16_code 167 = .ok (.if_icmp .ge 27, 3) := by decide +kernel
theorem dR_pay_170 : decode prog_8_method_16_code 170 = .ok (.aload_n 0, 1) := by decide +kernel
theorem dR_pay_171 : decode prog_8_method_16_code 171 = .ok (.iload_n 1, 1) := by decide +kernel
theorem dR_pay_172 : decode prog_8_method_16_code 172 = .ok (.iload_n 2, 1) := by decide +kernel
theorem dR_pay_173 : decode prog_8_method_16_code 173 = .ok (.iload 9, 2) := by decide +kernel
theorem dR_pay_175 : decode prog_8_method_16_code 175 = .ok (.invokevirtual 119, 3) := by decide +kernel
theorem dR_pay_178 : decode prog_8_method_16_code 178 = .ok (.ifCond .eq 10, 3) := by decide +kernel
theorem dR_pay_181 : decode prog_8_method_16_code 181 = .ok (.aload_n 0, 1) := by decide +kernel
theorem dR_pay_182 : decode prog_8_method_16_code 182 = .ok (.iload_n 1, 1) := by decide +kernel
theorem dR_pay_183 : decode prog_8_method_16_code 183 = .ok (.iload 9, 2) := by decide +kernel
theorem dR_pay_185 : decode prog_8_method_16_code 185 = .ok (.invokevirtual 102, 3) := by decide +kernel
theorem dR_pay_188 : decode prog_8_method_16_code 188 = .ok (.iinc 9 1, 3) := by decide +kernel
theorem dR_pay_191 : decode prog_8_method_16_code 191 = .ok (.goto (-28), 3) := by decide +kernel
theorem dR_pay_194 : decode prog_8_method_16_code 194 = .ok (.aload_n 0, 1) := by decide +kernel
theorem dR_pay_195 : decode prog_8_method_16_code 195 = .ok (.iload_n 1, 1) := by decide +kernel
theorem dR_pay_196 : decode prog_8_method_16_code 196 = .ok (.iconst 0, 1) := by decide +kernel
theorem dR_pay_197 : decode prog_8_method_16_code 197 = .ok (.iload_n 2, 1) := by decide +kernel
theorem dR_pay_198 : decode prog_8_method_16_code 198 = .ok (.iload_n 3, 1) := by decide +kernel
theorem dR_pay_199 : decode prog_8_method_16_code 199 = .ok (.iload 4, 2) := by decide +kernel
theorem dR_pay_201 : decode prog_8_method_16_code 201 = .ok (.invokevirtual 106, 3) := by decide +kernel
theorem dR_pay_204 : decode prog_8_method_16_code 204 = .ok (.iload 8, 2) := by decide +kernel
theorem dR_pay_206 : decode prog_8_method_16_code 206 = .ok (.iconst 2, 1) := by decide +kernel
theorem dR_pay_207 : decode prog_8_method_16_code 207 = .ok (.if_icmp .ne 21, 3) := by decide +kernel
theorem dR_pay_210 : decode prog_8_method_16_code 210 = .ok (.aload_n 0, 1) := by decide +kernel
theorem dR_pay_211 : decode prog_8_method_16_code 211 = .ok (.iload_n 1, 1) := by decide +kernel
theorem dR_pay_212 : decode prog_8_method_16_code 212 = .ok (.iconst 0, 1) := by decide +kernel
theorem dR_pay_213 : decode prog_8_method_16_code 213 = .ok (.iload_n 2, 1) := by decide +kernel
theorem dR_pay_214 : decode prog_8_method_16_code 214 = .ok (.aload_n 0, 1) := by decide +kernel
theorem dR_pay_215 : decode prog_8_method_16_code 215 = .ok (.getfield 7, 3) := by decide +kernel
theorem dR_pay_218 : decode prog_8_method_16_code 218 = .ok (.iload_n 1, 1) := by decide +kernel
theorem dR_pay_219 : decode prog_8_method_16_code 219 = .ok (.iaload, 1) := by decide +kernel
theorem dR_pay_220 : decode prog_8_method_16_code 220 = .ok (.iload 5, 2) := by decide +kernel
theorem dR_pay_222 : decode prog_8_method_16_code 222 = .ok (.iload 4, 2) := by decide +kernel
theorem dR_pay_224 : decode prog_8_method_16_code 224 = .ok (.isub, 1) := by decide +kernel
theorem dR_pay_225 : decode prog_8_method_16_code 225 = .ok (.invokevirtual 106, 3) := by decide +kernel
theorem dR_pay_228 : decode prog_8_method_16_code 228 = .ok (.iload 6, 2) := by decide +kernel
theorem dR_pay_230 : decode prog_8_method_16_code 230 = .ok (.ireturn, 1) := by decide +kernel
theorem dR_coin_0 : decode prog_8_method_15_code 0 = .ok (.aload_n 0, 1) := by decide +kernel
theorem dR_coin_1 : decode prog_8_method_15_code 1 = .ok (.getfield 7, 3) := by decide +kernel
theorem dR_coin_4 : decode prog_8_method_15_code 4 = .ok (.iload_n 1, 1) := by decide +kernel
theorem dR_coin_5 : decode prog_8_method_15_code 5 = .ok (.iaload, 1) := by decide +kernel
theorem dR_coin_6 : decode prog_8_method_15_code 6 = .ok (.istore 4, 2) := by decide +kernel
theorem dR_coin_8 : decode prog_8_method_15_code 8 = .ok (.aload_n 0, 1) := by decide +kernel
theorem dR_coin_9 : decode prog_8_method_15_code 9 = .ok (.iload 4, 2) := by decide +kernel
theorem dR_coin_11 : decode prog_8_method_15_code 11 = .ok (.iload_n 3, 1) := by decide +kernel
theorem dR_coin_12 : decode prog_8_method_15_code 12 = .ok (.invokevirtual 113, 3) := by decide +kernel
theorem dR_coin_15 : decode prog_8_method_15_code 15 = .ok (.ifCond .eq 63, 3) := by decide +kernel
theorem dR_coin_18 : decode prog_8_method_15_code 18 = .ok (.aload_n 0, 1) := by decide +kernel
theorem dR_coin_19 : decode prog_8_method_15_code 19 = .ok (.getfield 44, 3) := by decide +kernel
theorem dR_coin_22 : decode prog_8_method_15_code 22 = .ok (.iload_n 3, 1) := by decide +kernel
theorem dR_coin_23 : decode prog_8_method_15_code 23 = .ok (.iaload, 1) := by decide +kernel
theorem dR_coin_24 : decode prog_8_method_15_code 24 = .ok (.ifCond .ne 54, 3) := by decide +kernel
theorem dR_coin_27 : decode prog_8_method_15_code 27 = .ok (.aload_n 0, 1) := by decide +kernel
theorem dR_coin_28 : decode prog_8_method_15_code 28 = .ok (.getfield 47, 3) := by decide +kernel
theorem dR_coin_31 : decode prog_8_method_15_code 31 = .ok (.iload_n 3, 1) := by decide +kernel
theorem dR_coin_32 : decode prog_8_method_15_code 32 = .ok (.iaload, 1) := by decide +kernel
theorem dR_coin_33 : decode prog_8_method_15_code 33 = .ok (.iload_n 2, 1) := by decide +kernel
theorem dR_coin_34 : decode prog_8_method_15_code 34 = .ok (.if_icmp .ne 44, 3) := by decide +kernel
theorem dR_coin_37 : decode prog_8_method_15_code 37 = .ok (.aload_n 0, 1) := by decide +kernel
theorem dR_coin_38 : decode prog_8_method_15_code 38 = .ok (.getfield 56, 3) := by decide +kernel
theorem dR_coin_41 : decode prog_8_method_15_code 41 = .ok (.iload_n 3, 1) := by decide +kernel
theorem dR_coin_42 : decode prog_8_method_15_code 42 = .ok (.iaload, 1) := by decide +kernel
theorem dR_coin_43 : decode prog_8_method_15_code 43 = .ok (.iconst (-1), 1) := by decide +kernel
theorem dR_coin_44 : decode prog_8_method_15_code 44 = .ok (.if_icmp .ne 34, 3) := by decide +kernel
theorem dR_coin_47 : decode prog_8_method_15_code 47 = .ok (.aload_n 0, 1) := by decide +kernel
theorem dR_coin_48 : decode prog_8_method_15_code 48 = .ok (.getfield 13, 3) := by decide +kernel
theorem dR_coin_51 : decode prog_8_method_15_code 51 = .ok (.iload_n 3, 1) := by decide +kernel
theorem dR_coin_52 : decode prog_8_method_15_code 52 = .ok (.iconst 4, 1) := by decide +kernel
theorem dR_coin_53 : decode prog_8_method_15_code 53 = .ok (.idiv, 1) := by decide +kernel
theorem dR_coin_54 : decode prog_8_method_15_code 54 = .ok (.iaload, 1) := by decide +kernel
theorem dR_coin_55 : decode prog_8_method_15_code 55 = .ok (.aload_n 0, 1) := by decide +kernel
theorem dR_coin_56 : decode prog_8_method_15_code 56 = .ok (.getfield 13, 3) := by decide +kernel
theorem dR_coin_59 : decode prog_8_method_15_code 59 = .ok (.iload_n 1, 1) := by decide +kernel
theorem dR_coin_60 : decode prog_8_method_15_code 60 = .ok (.iaload, 1) := by decide +kernel
theorem dR_coin_61 : decode prog_8_method_15_code 61 = .ok (.if_icmp .ne 17, 3) := by decide +kernel
theorem dR_coin_64 : decode prog_8_method_15_code 64 = .ok (.aload_n 0, 1) := by decide +kernel
theorem dR_coin_65 : decode prog_8_method_15_code 65 = .ok (.iload 4, 2) := by decide +kernel
theorem dR_coin_67 : decode prog_8_method_15_code 67 = .ok (.iload_n 3, 1) := by decide +kernel
theorem dR_coin_68 : decode prog_8_method_15_code 68 = .ok (.invokevirtual 116, 3) := by decide +kernel
theorem dR_coin_71 : decode prog_8_method_15_code 71 = .ok (.ifCond .ne 7, 3) := by decide +kernel
theorem dR_coin_74 : decode prog_8_method_15_code 74 = .ok (.iconst 1, 1) := by decide +kernel
theorem dR_coin_75 : decode prog_8_method_15_code 75 = .ok (.goto 4, 3) := by decide +kernel
theorem dR_coin_78 : decode prog_8_method_15_code 78 = .ok (.iconst 0, 1) := by decide +kernel
theorem dR_coin_79 : decode prog_8_method_15_code 79 = .ok (.ireturn, 1) := by decide +kernel
theorem dR_inVault_0 : decode prog_8_method_13_code 0 = .ok (.iload_n 2, 1) := by decide +kernel
theorem dR_inVault_1 : decode prog_8_method_13_code 1 = .ok (.iconst 4, 1) := by decide +kernel
theorem dR_inVault_2 : decode prog_8_method_13_code 2 = .ok (.idiv, 1) := by decide +kernel
theorem dR_inVault_3 : decode prog_8_method_13_code 3 = .ok (.istore_n 3, 1) := by decide +kernel
theorem dR_inVault_4 : decode prog_8_method_13_code 4 = .ok (.aload_n 0, 1) := by decide +kernel
theorem dR_inVault_5 : decode prog_8_method_13_code 5 = .ok (.iload_n 3, 1) := by decide +kernel
theorem dR_inVault_6 : decode prog_8_method_13_code 6 = .ok (.iload_n 2, 1) := by decide +kernel
theorem dR_inVault_7 : decode prog_8_method_13_code 7 = .ok (.iconst 4, 1) := by decide +kernel
theorem dR_inVault_8 : decode prog_8_method_13_code 8 = .ok (.irem, 1) := by decide +kernel
theorem dR_inVault_9 : decode prog_8_method_13_code 9 = .ok (.invokevirtual 95, 3) := by decide +kernel
theorem dR_inVault_12 : decode prog_8_method_13_code 12 = .ok (.ifCond .eq 27, 3) := by decide +kernel
theorem dR_inVault_15 : decode prog_8_method_13_code 15 = .ok (.aload_n 0, 1) := by decide +kernel
theorem dR_inVault_16 : decode prog_8_method_13_code 16 = .ok (.getfield 62, 3) := by decide +kernel
theorem dR_inVault_19 : decode prog_8_method_13_code 19 = .ok (.bipush 20, 2) := by decide +kernel
theorem dR_inVault_21 : decode prog_8_method_13_code 21 = .ok (.iload_n 1, 1) := by decide +kernel
theorem dR_inVault_22 : decode prog_8_method_13_code 22 = .ok (.imul, 1) := by decide +kernel
theorem dR_inVault_23 : decode prog_8_method_13_code 23 = .ok (.iload_n 3, 1) := by decide +kernel
theorem dR_inVault_24 : decode prog_8_method_13_code 24 = .ok (.iadd, 1) := by decide +kernel
theorem dR_inVault_25 : decode prog_8_method_13_code 25 = .ok (.iaload, 1) := by decide +kernel
theorem dR_inVault_26 : decode prog_8_method_13_code 26 = .ok (.iconst 2, 1) := by decide +kernel
theorem dR_inVault_27 : decode prog_8_method_13_code 27 = .ok (.if_icmp .ne 12, 3) := by decide +kernel
theorem dR_inVault_30 : decode prog_8_method_13_code 30 = .ok (.aload_n 0, 1) := by decide +kernel
theorem dR_inVault_31 : decode prog_8_method_13_code 31 = .ok (.iload_n 2, 1) := by decide +kernel
theorem dR_inVault_32 : decode prog_8_method_13_code 32 = .ok (.iload_n 1, 1) := by decide +kernel
theorem dR_inVault_33 : decode prog_8_method_13_code 33 = .ok (.invokevirtual 110, 3) := by decide +kernel
theorem dR_inVault_36 : decode prog_8_method_13_code 36 = .ok (.ifCond .ne 5, 3) := by decide +kernel
theorem dR_inVault_39 : decode prog_8_method_13_code 39 = .ok (.iconst 0, 1) := by decide +kernel
theorem dR_inVault_40 : decode prog_8_method_13_code 40 = .ok (.ireturn, 1) := by decide +kernel
theorem dR_inVault_41 : decode prog_8_method_13_code 41 = .ok (.iconst 0, 1) := by decide +kernel
theorem dR_inVault_42 : decode prog_8_method_13_code 42 = .ok (.istore 4, 2) := by decide +kernel
theorem dR_inVault_44 : decode prog_8_method_13_code 44 = .ok (.iload 4, 2) := by decide +kernel
theorem dR_inVault_46 : decode prog_8_method_13_code 46 = .ok (.aload_n 0, 1) := by decide +kernel
theorem dR_inVault_47 : decode prog_8_method_13_code 47 = .ok (.getfield 83, 3) := by decide +kernel
theorem dR_inVault_50 : decode prog_8_method_13_code 50 = .ok (.if_icmp .ge 36, 3) := by decide +kernel
theorem dR_inVault_53 : decode prog_8_method_13_code 53 = .ok (.aload_n 0, 1) := by decide +kernel
theorem dR_inVault_54 : decode prog_8_method_13_code 54 = .ok (.getfield 62, 3) := by decide +kernel
theorem dR_inVault_57 : decode prog_8_method_13_code 57 = .ok (.bipush 20, 2) := by decide +kernel
theorem dR_inVault_59 : decode prog_8_method_13_code 59 = .ok (.iload_n 1, 1) := by decide +kernel
theorem dR_inVault_60 : decode prog_8_method_13_code 60 = .ok (.imul, 1) := by decide +kernel
theorem dR_inVault_61 : decode prog_8_method_13_code 61 = .ok (.iload 4, 2) := by decide +kernel
theorem dR_inVault_63 : decode prog_8_method_13_code 63 = .ok (.iadd, 1) := by decide +kernel
theorem dR_inVault_64 : decode prog_8_method_13_code 64 = .ok (.iaload, 1) := by decide +kernel
theorem dR_inVault_65 : decode prog_8_method_13_code 65 = .ok (.ifCond .le 15, 3) := by decide +kernel
theorem dR_inVault_68 : decode prog_8_method_13_code 68 = .ok (.aload_n 0, 1) := by decide +kernel
theorem dR_inVault_69 : decode prog_8_method_13_code 69 = .ok (.iload 4, 2) := by decide +kernel
theorem dR_inVault_71 : decode prog_8_method_13_code 71 = .ok (.iload_n 2, 1) := by decide +kernel
theorem dR_inVault_72 : decode prog_8_method_13_code 72 = .ok (.invokevirtual 99, 3) := by decide +kernel
theorem dR_inVault_75 : decode prog_8_method_13_code 75 = .ok (.ifCond .eq 5, 3) := by decide +kernel
theorem dR_inVault_78 : decode prog_8_method_13_code 78 = .ok (.iconst 0, 1) := by decide +kernel
theorem dR_inVault_79 : decode prog_8_method_13_code 79 = .ok (.ireturn, 1) := by decide +kernel
theorem dR_inVault_80 : decode prog_8_method_13_code 80 = .ok (.iinc 4 1, 3) := by decide +kernel
theorem dR_inVault_83 : decode prog_8_method_13_code 83 = .ok (.goto (-39), 3) := by decide +kernel
theorem dR_inVault_86 : decode prog_8_method_13_code 86 = .ok (.iconst 1, 1) := by decide +kernel
theorem dR_inVault_87 : decode prog_8_method_13_code 87 = .ok (.ireturn, 1) := by decide +kernel
theorem dR_concerns_0 : decode prog_8_method_12_code 0 = .ok (.aload_n 0, 1) := by decide +kernel
theorem dR_concerns_1 : decode prog_8_method_12_code 1 = .ok (.getfield 44, 3) := by decide +kernel
theorem dR_concerns_4 : decode prog_8_method_12_code 4 = .ok (.iload_n 1, 1) := by decide +kernel
theorem dR_concerns_5 : decode prog_8_method_12_code 5 = .ok (.iaload, 1) := by decide +kernel
theorem dR_concerns_6 : decode prog_8_method_12_code 6 = .ok (.ifCond .ne 13, 3) := by decide +kernel
theorem dR_concerns_9 : decode prog_8_method_12_code 9 = .ok (.aload_n 0, 1) := by decide +kernel
theorem dR_concerns_10 : decode prog_8_method_12_code 10 = .ok (.getfield 50, 3) := by decide +kernel
theorem dR_concerns_13 : decode prog_8_method_12_code 13 = .ok (.iload_n 1, 1) := by decide +kernel
theorem dR_concerns_14 : decode prog_8_method_12_code 14 = .ok (.iaload, 1) := by decide +kernel
theorem dR_concerns_15 : decode prog_8_method_12_code 15 = .ok (.iload_n 2, 1) := by decide +kernel
theorem dR_concerns_16 : decode prog_8_method_12_code 16 = .ok (.if_icmp .eq 33, 3) := by decide +kernel
theorem dR_concerns_19 : decode prog_8_method_12_code 19 = .ok (.aload_n 0, 1) := by decide +kernel
theorem dR_concerns_20 : decode prog_8_method_12_code 20 = .ok (.getfield 44, 3) := by decide +kernel
theorem dR_concerns_23 : decode prog_8_method_12_code 23 = .ok (.iload_n 1, 1) := by decide +kernel
theorem dR_concerns_24 : decode prog_8_method_12_code 24 = .ok (.iaload, 1) := by decide +kernel
theorem dR_concerns_25 : decode prog_8_method_12_code 25 = .ok (.iconst 1, 1) := by decide +kernel
theorem dR_concerns_26 : decode prog_8_method_12_code 26 = .ok (.if_icmp .ne 27, 3) := by decide +kernel
theorem dR_concerns_29 : decode prog_8_method_12_code 29 = .ok (.aload_n 0, 1) := by decide +kernel
theorem dR_concerns_30 : decode prog_8_method_12_code 30 = .ok (.getfield 47, 3) := by decide +kernel
theorem dR_concerns_33 : decode prog_8_method_12_code 33 = .ok (.iload_n 1, 1) := by decide +kernel
theorem dR_concerns_34 : decode prog_8_method_12_code 34 = .ok (.iaload, 1) := by decide +kernel
theorem dR_concerns_35 : decode prog_8_method_12_code 35 = .ok (.iload_n 2, 1) := by decide +kernel
theorem dR_concerns_36 : decode prog_8_method_12_code 36 = .ok (.if_icmp .eq 13, 3) := by decide +kernel
theorem dR_concerns_39 : decode prog_8_method_12_code 39 = .ok (.aload_n 0, 1) := by decide +kernel
theorem dR_concerns_40 : decode prog_8_method_12_code 40 = .ok (.getfield 50, 3) := by decide +kernel
theorem dR_concerns_43 : decode prog_8_method_12_code 43 = .ok (.iload_n 1, 1) := by decide +kernel
theorem dR_concerns_44 : decode prog_8_method_12_code 44 = .ok (.iaload, 1) := by decide +kernel
theorem dR_concerns_45 : decode prog_8_method_12_code 45 = .ok (.iload_n 2, 1) := by decide +kernel
theorem dR_concerns_46 : decode prog_8_method_12_code 46 = .ok (.if_icmp .ne 7, 3) := by decide +kernel
theorem dR_concerns_49 : decode prog_8_method_12_code 49 = .ok (.iconst 1, 1) := by decide +kernel
theorem dR_concerns_50 : decode prog_8_method_12_code 50 = .ok (.goto 4, 3) := by decide +kernel
theorem dR_concerns_53 : decode prog_8_method_12_code 53 = .ok (.iconst 0, 1) := by decide +kernel
theorem dR_concerns_54 : decode prog_8_method_12_code 54 = .ok (.ireturn, 1) := by decide +kernel
theorem dR_held_0 : decode prog_8_method_14_code 0 = .ok (.iconst 0, 1) := by decide +kernel
theorem dR_held_1 : decode prog_8_method_14_code 1 = .ok (.istore_n 3, 1) := by decide +kernel
theorem dR_held_2 : decode prog_8_method_14_code 2 = .ok (.iload_n 3, 1) := by decide +kernel
theorem dR_held_3 : decode prog_8_method_14_code 3 = .ok (.aload_n 0, 1) := by decide +kernel
theorem dR_held_4 : decode prog_8_method_14_code 4 = .ok (.getfield 83, 3) := by decide +kernel
theorem dR_held_7 : decode prog_8_method_14_code 7 = .ok (.if_icmp .ge 40, 3) := by decide +kernel
theorem dR_held_10 : decode prog_8_method_14_code 10 = .ok (.aload_n 0, 1) := by decide +kernel
theorem dR_held_11 : decode prog_8_method_14_code 11 = .ok (.getfield 7, 3) := by decide +kernel
theorem dR_held_14 : decode prog_8_method_14_code 14 = .ok (.iload_n 3, 1) := by decide +kernel
theorem dR_held_15 : decode prog_8_method_14_code 15 = .ok (.iaload, 1) := by decide +kernel
theorem dR_held_16 : decode prog_8_method_14_code 16 = .ok (.iload_n 1, 1) := by decide +kernel
theorem dR_held_17 : decode prog_8_method_14_code 17 = .ok (.if_icmp .ne 24, 3) := by decide +kernel
theorem dR_held_20 : decode prog_8_method_14_code 20 = .ok (.aload_n 0, 1) := by decide +kernel
theorem dR_held_21 : decode prog_8_method_14_code 21 = .ok (.getfield 22, 3) := by decide +kernel
theorem dR_held_24 : decode prog_8_method_14_code 24 = .ok (.iload_n 3, 1) := by decide +kernel
theorem dR_held_25 : decode prog_8_method_14_code 25 = .ok (.iaload, 1) := by decide +kernel
theorem dR_held_26 : decode prog_8_method_14_code 26 = .ok (.iconst 2, 1) := by decide +kernel
theorem dR_held_27 : decode prog_8_method_14_code 27 = .ok (.if_icmp .gt 14, 3) := by decide +kernel
theorem dR_held_30 : decode prog_8_method_14_code 30 = .ok (.aload_n 0, 1) := by decide +kernel
theorem dR_held_31 : decode prog_8_method_14_code 31 = .ok (.iload_n 3, 1) := by decide +kernel
theorem dR_held_32 : decode prog_8_method_14_code 32 = .ok (.iload_n 2, 1) := by decide +kernel
theorem dR_held_33 : decode prog_8_method_14_code 33 = .ok (.invokevirtual 99, 3) := by decide +kernel
theorem dR_held_36 : decode prog_8_method_14_code 36 = .ok (.ifCond .eq 5, 3) := by decide +kernel
theorem dR_held_39 : decode prog_8_method_14_code 39 = .ok (.iconst 1, 1) := by decide +kernel
theorem dR_held_40 : decode prog_8_method_14_code 40 = .ok (.ireturn, 1) := by decide +kernel
theorem dR_held_41 : decode prog_8_method_14_code 41 = .ok (.iinc 3 1, 3) := by decide +kernel
theorem dR_held_44 : decode prog_8_method_14_code 44 = .ok (.goto (-42), 3) := by decide +kernel
theorem dR_held_47 : decode prog_8_method_14_code 47 = .ok (.iconst 0, 1) := by decide +kernel
theorem dR_held_48 : decode prog_8_method_14_code 48 = .ok (.ireturn, 1) := by decide +kernel
theorem dR_drop_0 : decode prog_8_method_17_code 0 = .ok (.aload_n 0, 1) := by decide +kernel
theorem dR_drop_1 : decode prog_8_method_17_code 1 = .ok (.iload_n 1, 1) := by decide +kernel
theorem dR_drop_2 : decode prog_8_method_17_code 2 = .ok (.invokevirtual 87, 3) := by decide +kernel
theorem dR_drop_5 : decode prog_8_method_17_code 5 = .ok (.ifCond .eq 12, 3) := by decide +kernel
theorem dR_drop_8 : decode prog_8_method_17_code 8 = .ok (.aload_n 0, 1) := by decide +kernel
theorem dR_drop_9 : decode prog_8_method_17_code 9 = .ok (.getfield 22, 3) := by decide +kernel
theorem dR_drop_12 : decode prog_8_method_17_code 12 = .ok (.iload_n 1, 1) := by decide +kernel
theorem dR_drop_13 : decode prog_8_method_17_code 13 = .ok (.iaload, 1) := by decide +kernel
theorem dR_drop_14 : decode prog_8_method_17_code 14 = .ok (.ifCond .eq 5, 3) := by decide +kernel
theorem dR_drop_17 : decode prog_8_method_17_code 17 = .ok (.iconst 0, 1) := by decide +kernel
theorem dR_drop_18 : decode prog_8_method_17_code 18 = .ok (.ireturn, 1) := by decide +kernel
theorem dR_drop_19 : decode prog_8_method_17_code 19 = .ok (.aload_n 0, 1) := by decide +kernel
theorem dR_drop_20 : decode prog_8_method_17_code 20 = .ok (.getfield 22, 3) := by decide +kernel
theorem dR_drop_23 : decode prog_8_method_17_code 23 = .ok (.iload_n 1, 1) := by decide +kernel
theorem dR_drop_24 : decode prog_8_method_17_code 24 = .ok (.bipush 9, 2) := by decide +kernel
theorem dR_drop_26 : decode prog_8_method_17_code 26 = .ok (.iastore, 1) := by decide +kernel
theorem dR_drop_27 : decode prog_8_method_17_code 27 = .ok (.iconst 1, 1) := by decide +kernel
theorem dR_drop_28 : decode prog_8_method_17_code 28 = .ok (.ireturn, 1) := by decide +kernel
theorem dR_propose_0 : decode prog_8_method_26_code 0 = .ok (.aload_n 0, 1) := by decide +kernel
theorem dR_propose_1 : decode prog_8_method_26_code 1 = .ok (.iload_n 1, 1) := by decide +kernel
theorem dR_propose_2 : decode prog_8_method_26_code 2 = .ok (.invokevirtual 87, 3) := by decide +kernel
theorem dR_propose_5 : decode prog_8_method_26_code 5 = .ok (.ifCond .ne 5, 3) := by decide +kernel
theorem dR_propose_8 : decode prog_8_method_26_code 8 = .ok (.iconst (-1), 1) := by decide +kernel
theorem dR_propose_9 : decode prog_8_method_26_code 9 = .ok (.ireturn, 1) := by decide +kernel
theorem dR_propose_10 : decode prog_8_method_26_code 10 = .ok (.aload_n 0, 1) := by decide +kernel
theorem dR_propose_11 : decode prog_8_method_26_code 11 = .ok (.getfield 22, 3) := by decide +kernel
theorem dR_propose_14 : decode prog_8_method_26_code 14 = .ok (.iload_n 1, 1) := by decide +kernel
theorem dR_propose_15 : decode prog_8_method_26_code 15 = .ok (.iaload, 1) := by decide +kernel
theorem dR_propose_16 : decode prog_8_method_26_code 16 = .ok (.ifCond .eq 6, 3) := by decide +kernel
theorem dR_propose_19 : decode prog_8_method_26_code 19 = .ok (.bipush (-2), 2) := by decide +kernel
theorem dR_propose_21 : decode prog_8_method_26_code 21 = .ok (.ireturn, 1) := by decide +kernel
theorem dR_propose_22 : decode prog_8_method_26_code 22 = .ok (.iload_n 2, 1) := by decide +kernel
theorem dR_propose_23 : decode prog_8_method_26_code 23 = .ok (.ifCond .ne 14, 3) := by decide +kernel
theorem dR_propose_26 : decode prog_8_method_26_code 26 = .ok (.aload_n 0, 1) := by decide +kernel
theorem dR_propose_27 : decode prog_8_method_26_code 27 = .ok (.iload_n 1, 1) := by decide +kernel
theorem dR_propose_28 : decode prog_8_method_26_code 28 = .ok (.invokevirtual 137, 3) := by decide +kernel
theorem dR_propose_31 : decode prog_8_method_26_code 31 = .ok (.ifCond .ne 6, 3) := by decide +kernel
theorem dR_propose_34 : decode prog_8_method_26_code 34 = .ok (.bipush (-8), 2) := by decide +kernel
theorem dR_propose_36 : decode prog_8_method_26_code 36 = .ok (.ireturn, 1) := by decide +kernel
theorem dR_propose_37 : decode prog_8_method_26_code 37 = .ok (.aload_n 0, 1) := by decide +kernel
theorem dR_propose_38 : decode prog_8_method_26_code 38 = .ok (.getfield 7, 3) := by decide +kernel
theorem dR_propose_41 : decode prog_8_method_26_code 41 = .ok (.iload_n 1, 1) := by decide +kernel
theorem dR_propose_42 : decode prog_8_method_26_code 42 = .ok (.iaload, 1) := by decide +kernel
theorem dR_propose_43 : decode prog_8_method_26_code 43 = .ok (.istore_n 3, 1) := by decide +kernel
theorem dR_propose_44 : decode prog_8_method_26_code 44 = .ok (.aload_n 0, 1) := by decide +kernel
theorem dR_propose_45 : decode prog_8_method_26_code 45 = .ok (.getfield 25, 3) := by decide +kernel
theorem dR_propose_48 : decode prog_8_method_26_code 48 = .ok (.iload_n 1, 1) := by decide +kernel
theorem dR_propose_49 : decode prog_8_method_26_code 49 = .ok (.iload_n 2, 1) := by decide +kernel
theorem dR_propose_50 : decode prog_8_method_26_code 50 = .ok (.bastore, 1) := by decide +kernel
theorem dR_propose_51 : decode prog_8_method_26_code 51 = .ok (.aload_n 0, 1) := by decide +kernel
theorem dR_propose_52 : decode prog_8_method_26_code 52 = .ok (.getfield 29, 3) := by decide +kernel
theorem dR_propose_55 : decode prog_8_method_26_code 55 = .ok (.iload_n 1, 1) := by decide +kernel
theorem dR_propose_56 : decode prog_8_method_26_code 56 = .ok (.iconst 1, 1) := by decide +kernel
theorem dR_propose_57 : decode prog_8_method_26_code 57 = .ok (.iload_n 3, 1) := by decide +kernel
theorem dR_propose_58 : decode prog_8_method_26_code 58 = .ok (.ishl, 1) := by decide +kernel
theorem dR_propose_59 : decode prog_8_method_26_code 59 = .ok (.iastore, 1) := by decide +kernel
theorem dR_propose_60 : decode prog_8_method_26_code 60 = .ok (.iload_n 2, 1) := by decide +kernel
theorem dR_propose_61 : decode prog_8_method_26_code 61 = .ok (.ifCond .ne 11, 3) := by decide +kernel
theorem dR_propose_64 : decode prog_8_method_26_code 64 = .ok (.aload_n 0, 1) := by decide +kernel
theorem dR_propose_65 : decode prog_8_method_26_code 65 = .ok (.iload_n 1, 1) := by decide +kernel
theorem dR_propose_66 : decode prog_8_method_26_code 66 = .ok (.invokevirtual 140, 3) := by decide +kernel
theorem dR_propose_69 : decode prog_8_method_26_code 69 = .ok (.ifCond .eq 25, 3) := by decide +kernel
theorem dR_propose_72 : decode prog_8_method_26_code 72 = .ok (.aload_n 0, 1) := by decide +kernel
theorem dR_propose_73 : decode prog_8_method_26_code 73 = .ok (.getfield 22, 3) := by decide +kernel
theorem dR_propose_76 : decode prog_8_method_26_code 76 = .ok (.iload_n 1, 1) := by decide +kernel
theorem dR_propose_77 : decode prog_8_method_26_code 77 = .ok (.iconst 2, 1) := by decide +kernel
theorem dR_propose_78 : decode prog_8_method_26_code 78 = .ok (.iastore, 1) := by decide +kernel
theorem dR_propose_79 : decode prog_8_method_26_code 79 = .ok (.aload_n 0, 1) := by decide +kernel
theorem dR_propose_80 : decode prog_8_method_26_code 80 = .ok (.iconst 2, 1) := by decide +kernel
theorem dR_propose_81 : decode prog_8_method_26_code 81 = .ok (.iload_n 3, 1) := by decide +kernel
theorem dR_propose_82 : decode prog_8_method_26_code 82 = .ok (.aload_n 0, 1) := by decide +kernel
theorem dR_propose_83 : decode prog_8_method_26_code 83 = .ok (.getfield 13, 3) := by decide +kernel
theorem dR_propose_86 : decode prog_8_method_26_code 86 = .ok (.iload_n 1, 1) := by decide +kernel
theorem dR_propose_87 : decode prog_8_method_26_code 87 = .ok (.iaload, 1) := by decide +kernel
theorem dR_propose_88 : decode prog_8_method_26_code 88 = .ok (.iload_n 1, 1) := by decide +kernel
theorem dR_propose_89 : decode prog_8_method_26_code 89 = .ok (.iconst 0, 1) := by decide +kernel
theorem dR_propose_90 : decode prog_8_method_26_code 90 = .ok (.invokevirtual 146, 3) := by decide +kernel
theorem dR_propose_93 : decode prog_8_method_26_code 93 = .ok (.ireturn, 1) := by decide +kernel
theorem dR_propose_94 : decode prog_8_method_26_code 94 = .ok (.aload_n 0, 1) := by decide +kernel
theorem dR_propose_95 : decode prog_8_method_26_code 95 = .ok (.getfield 22, 3) := by decide +kernel
theorem dR_propose_98 : decode prog_8_method_26_code 98 = .ok (.iload_n 1, 1) := by decide +kernel
theorem dR_propose_99 : decode prog_8_method_26_code 99 = .ok (.iconst 1, 1) := by decide +kernel
theorem dR_propose_100 : decode prog_8_method_26_code 100 = .ok (.iastore, 1) := by decide +kernel
theorem dR_propose_101 : decode prog_8_method_26_code 101 = .ok (.iconst 0, 1) := by decide +kernel
theorem dR_propose_102 : decode prog_8_method_26_code 102 = .ok (.istore 4, 2) := by decide +kernel
theorem dR_propose_104 : decode prog_8_method_26_code 104 = .ok (.iconst 0, 1) := by decide +kernel
theorem dR_propose_105 : decode prog_8_method_26_code 105 = .ok (.istore 5, 2) := by decide +kernel
theorem dR_propose_107 : decode prog_8_method_26_code 107 = .ok (.iload 5, 2) := by decide +kernel
theorem dR_propose_109 : decode prog_8_method_26_code 109 = .ok (.iconst 4, 1) := by decide +kernel
theorem dR_propose_110 : decode prog_8_method_26_code 110 = .ok (.if_icmp .ge 40, 3) := by decide +kernel
theorem dR_propose_113 : decode prog_8_method_26_code 113 = .ok (.iload 5, 2) := by decide +kernel
theorem dR_propose_115 : decode prog_8_method_26_code 115 = .ok (.iload_n 3, 1) := by decide +kernel
theorem dR_propose_116 : decode prog_8_method_26_code 116 = .ok (.if_icmp .eq 28, 3) := by decide +kernel
theorem dR_propose_119 : decode prog_8_method_26_code 119 = .ok (.aload_n 0, 1) := by decide +kernel
theorem dR_propose_120 : decode prog_8_method_26_code 120 = .ok (.iload_n 1, 1) := by decide +kernel
theorem dR_propose_121 : decode prog_8_method_26_code 121 = .ok (.iload 5, 2) := by decide +kernel
theorem dR_propose_123 : decode prog_8_method_26_code 123 = .ok (.invokevirtual 130, 3) := by decide +kernel
theorem dR_propose_126 : decode prog_8_method_26_code 126 = .ok (.ifCond .eq 18, 3) := by decide +kernel
theorem dR_propose_129 : decode prog_8_method_26_code 129 = .ok (.iload 4, 2) := by decide +kernel
theorem dR_propose_131 : decode prog_8_method_26_code 131 = .ok (.aload_n 0, 1) := by decide +kernel
theorem dR_propose_132 : decode prog_8_method_26_code 132 = .ok (.iconst 0, 1) := by decide +kernel
theorem dR_propose_133 : decode prog_8_method_26_code 133 = .ok (.iload_n 3, 1) := by decide +kernel
theorem dR_propose_134 : decode prog_8_method_26_code 134 = .ok (.iload 5, 2) := by decide +kernel
theorem dR_propose_136 : decode prog_8_method_26_code 136 = .ok (.iload_n 1, 1) := by decide +kernel
theorem dR_propose_137 : decode prog_8_method_26_code 137 = .ok (.iconst 0, 1) := by decide +kernel
theorem dR_propose_138 : decode prog_8_method_26_code 138 = .ok (.invokevirtual 146, 3) := by decide +kernel
theorem dR_propose_141 : decode prog_8_method_26_code 141 = .ok (.iadd, 1) := by decide +kernel
theorem dR_propose_142 : decode prog_8_method_26_code 142 = .ok (.istore 4, 2) := by decide +kernel
theorem dR_propose_144 : decode prog_8_method_26_code 144 = .ok (.iinc 5 1, 3) := by decide +kernel
theorem dR_propose_147 : decode prog_8_method_26_code 147 = .ok (.goto (-40), 3) := by decide +kernel
theorem dR_propose_150 : decode prog_8_method_26_code 150 = .ok (.iload 4, 2) := by decide +kernel
theorem dR_propose_152 : decode prog_8_method_26_code 152 = .ok (.ireturn, 1) := by decide +kernel
theorem dR_valid_0 : decode prog_8_method_23_code 0 = .ok (.aload_n 0, 1) := by decide +kernel
theorem dR_valid_1 : decode prog_8_method_23_code 1 = .ok (.getfield 35, 3) := by decide +kernel
theorem dR_valid_4 : decode prog_8_method_23_code 4 = .ok (.iload_n 1, 1) := by decide +kernel
theorem dR_valid_5 : decode prog_8_method_23_code 5 = .ok (.iaload, 1) := by decide +kernel
theorem dR_valid_6 : decode prog_8_method_23_code 6 = .ok (.aload_n 0, 1) := by decide +kernel
theorem dR_valid_7 : decode prog_8_method_23_code 7 = .ok (.getfield 38, 3) := by decide +kernel
theorem dR_valid_10 : decode prog_8_method_23_code 10 = .ok (.iload_n 1, 1) := by decide +kernel
theorem dR_valid_11 : decode prog_8_method_23_code 11 = .ok (.iaload, 1) := by decide +kernel
theorem dR_valid_12 : decode prog_8_method_23_code 12 = .ok (.iadd, 1) := by decide +kernel
theorem dR_valid_13 : decode prog_8_method_23_code 13 = .ok (.ifCond .ne 5, 3) := by decide +kernel
theorem dR_valid_16 : decode prog_8_method_23_code 16 = .ok (.iconst 0, 1) := by decide +kernel
theorem dR_valid_17 : decode prog_8_method_23_code 17 = .ok (.ireturn, 1) := by decide +kernel
theorem dR_valid_18 : decode prog_8_method_23_code 18 = .ok (.iconst 0, 1) := by decide +kernel
theorem dR_valid_19 : decode prog_8_method_23_code 19 = .ok (.istore_n 2, 1) := by decide +kernel
theorem dR_valid_20 : decode prog_8_method_23_code 20 = .ok (.iload_n 2, 1) := by decide +kernel
theorem dR_valid_21 : decode prog_8_method_23_code 21 = .ok (.aload_n 0, 1) := by decide +kernel
theorem dR_valid_22 : decode prog_8_method_23_code 22 = .ok (.getfield 35, 3) := by decide +kernel
theorem dR_valid_25 : decode prog_8_method_23_code 25 = .ok (.iload_n 1, 1) := by decide +kernel
theorem dR_valid_26 : decode prog_8_method_23_code 26 = .ok (.iaload, 1) := by decide +kernel
theorem dR_valid_27 : decode prog_8_method_23_code 27 = .ok (.if_icmp .ge 82, 3) := by decide +kernel
theorem dR_valid_30 : decode prog_8_method_23_code 30 = .ok (.aload_n 0, 1) := by decide +kernel
theorem dR_valid_31 : decode prog_8_method_23_code 31 = .ok (.getfield 41, 3) := by decide +kernel
theorem dR_valid_34 : decode prog_8_method_23_code 34 = .ok (.iconst 4, 1) := by decide +kernel
theorem dR_valid_35 : decode prog_8_method_23_code 35 = .ok (.iload_n 1, 1) := by decide +kernel
theorem dR_valid_36 : decode prog_8_method_23_code 36 = .ok (.imul, 1) := by decide +kernel
theorem dR_valid_37 : decode prog_8_method_23_code 37 = .ok (.iload_n 2, 1) := by decide +kernel
theorem dR_valid_38 : decode prog_8_method_23_code 38 = .ok (.iadd, 1) := by decide +kernel
theorem dR_valid_39 : decode prog_8_method_23_code 39 = .ok (.iaload, 1) := by decide +kernel
theorem dR_valid_40 : decode prog_8_method_23_code 40 = .ok (.istore_n 3, 1) := by decide +kernel
theorem dR_valid_41 : decode prog_8_method_23_code 41 = .ok (.iload_n 3, 1) := by decide +kernel
theorem dR_valid_42 : decode prog_8_method_23_code 42 = .ok (.iconst 4, 1) := by decide +kernel
theorem dR_valid_43 : decode prog_8_method_23_code 43 = .ok (.idiv, 1) := by decide +kernel
theorem dR_valid_44 : decode prog_8_method_23_code 44 = .ok (.iconst 4, 1) := by decide +kernel
theorem dR_valid_45 : decode prog_8_method_23_code 45 = .ok (.imul, 1) := by decide +kernel
theorem dR_valid_46 : decode prog_8_method_23_code 46 = .ok (.aload_n 0, 1) := by decide +kernel
theorem dR_valid_47 : decode prog_8_method_23_code 47 = .ok (.getfield 56, 3) := by decide +kernel
theorem dR_valid_50 : decode prog_8_method_23_code 50 = .ok (.iload_n 3, 1) := by decide +kernel
theorem dR_valid_51 : decode prog_8_method_23_code 51 = .ok (.iaload, 1) := by decide +kernel
theorem dR_valid_52 : decode prog_8_method_23_code 52 = .ok (.iadd, 1) := by decide +kernel
theorem dR_valid_53 : decode prog_8_method_23_code 53 = .ok (.istore 4, 2) := by decide +kernel
theorem dR_valid_55 : decode prog_8_method_23_code 55 = .ok (.aload_n 0, 1) := by decide +kernel
theorem dR_valid_56 : decode prog_8_method_23_code 56 = .ok (.getfield 56, 3) := by decide +kernel
theorem dR_valid_59 : decode prog_8_method_23_code 59 = .ok (.iload_n 3, 1) := by decide +kernel
theorem dR_valid_60 : decode prog_8_method_23_code 60 = .ok (.iaload, 1) := by decide +kernel
theorem dR_valid_61 : decode prog_8_method_23_code 61 = .ok (.ifCond .lt 15, 3) := by decide +kernel
theorem dR_valid_64 : decode prog_8_method_23_code 64 = .ok (.aload_n 0, 1) := by decide +kernel
theorem dR_valid_65 : decode prog_8_method_23_code 65 = .ok (.iload_n 1, 1) := by decide +kernel
theorem dR_valid_66 : decode prog_8_method_23_code 66 = .ok (.iload 4, 2) := by decide +kernel
theorem dR_valid_68 : decode prog_8_method_23_code 68 = .ok (.invokevirtual 99, 3) := by decide +kernel
theorem dR_valid_71 : decode prog_8_method_23_code 71 = .ok (.ifCond .ne 5, 3) := by decide +kernel
theorem dR_valid_74 : decode prog_8_method_23_code 74 = .ok (.iconst 0, 1) := by decide +kernel
theorem dR_valid_75 : decode prog_8_method_23_code 75 = .ok (.ireturn, 1) := by decide +kernel
theorem dR_valid_76 : decode prog_8_method_23_code 76 = .ok (.aload_n 0, 1) := by decide +kernel
theorem dR_valid_77 : decode prog_8_method_23_code 77 = .ok (.getfield 44, 3) := by decide +kernel
theorem dR_valid_80 : decode prog_8_method_23_code 80 = .ok (.iload_n 3, 1) := by decide +kernel
theorem dR_valid_81 : decode prog_8_method_23_code 81 = .ok (.iaload, 1) := by decide +kernel
theorem dR_valid_82 : decode prog_8_method_23_code 82 = .ok (.iconst 2, 1) := by decide +kernel
theorem dR_valid_83 : decode prog_8_method_23_code 83 = .ok (.if_icmp .ne 20, 3) := by decide +kernel
theorem dR_valid_86 : decode prog_8_method_23_code 86 = .ok (.aload_n 0, 1) := by decide +kernel
theorem dR_valid_87 : decode prog_8_method_23_code 87 = .ok (.getfield 53, 3) := by decide +kernel
theorem dR_valid_90 : decode prog_8_method_23_code 90 = .ok (.iload_n 3, 1) := by decide +kernel
theorem dR_valid_91 : decode prog_8_method_23_code 91 = .ok (.iaload, 1) := by decide +kernel
theorem dR_valid_92 : decode prog_8_method_23_code 92 = .ok (.aload_n 0, 1) := by decide +kernel
theorem dR_valid_93 : decode prog_8_method_23_code 93 = .ok (.getfield 16, 3) := by decide +kernel
theorem dR_valid_96 : decode prog_8_method_23_code 96 = .ok (.iload_n 1, 1) := by decide +kernel
theorem dR_valid_97 : decode prog_8_method_23_code 97 = .ok (.iaload, 1) := by decide +kernel
theorem dR_valid_98 : decode prog_8_method_23_code 98 = .ok (.if_icmp .le 5, 3) := by decide +kernel
theorem dR_valid_101 : decode prog_8_method_23_code 101 = .ok (.iconst 0, 1) := by decide +kernel
theorem dR_valid_102 : decode prog_8_method_23_code 102 = .ok (.ireturn, 1) := by decide +kernel
theorem dR_valid_103 : decode prog_8_method_23_code 103 = .ok (.iinc 2 1, 3) := by decide +kernel
theorem dR_valid_106 : decode prog_8_method_23_code 106 = .ok (.goto (-86), 3) := by decide +kernel
theorem dR_valid_109 : decode prog_8_method_23_code 109 = .ok (.iconst 1, 1) := by decide +kernel
theorem dR_valid_110 : decode prog_8_method_23_code 110 = .ok (.ireturn, 1) := by decide +kernel
theorem dR_alone_0 : decode prog_8_method_22_code 0 = .ok (.aload_n 0, 1) := by decide +kernel
theorem dR_alone_1 : decode prog_8_method_22_code 1 = .ok (.iload_n 1, 1) := by decide +kernel
theorem dR_alone_2 : decode prog_8_method_22_code 2 = .ok (.invokevirtual 133, 3) := by decide +kernel
theorem dR_alone_5 : decode prog_8_method_22_code 5 = .ok (.iconst 1, 1) := by decide +kernel
theorem dR_alone_6 : decode prog_8_method_22_code 6 = .ok (.aload_n 0, 1) := by decide +kernel
theorem dR_alone_7 : decode prog_8_method_22_code 7 = .ok (.getfield 7, 3) := by decide +kernel
theorem dR_alone_10 : decode prog_8_method_22_code 10 = .ok (.iload_n 1, 1) := by decide +kernel
theorem dR_alone_11 : decode prog_8_method_22_code 11 = .ok (.iaload, 1) := by decide +kernel
theorem dR_alone_12 : decode prog_8_method_22_code 12 = .ok (.ishl, 1) := by decide +kernel
theorem dR_alone_13 : decode prog_8_method_22_code 13 = .ok (.if_icmp .ne 7, 3) := by decide +kernel
theorem dR_alone_16 : decode prog_8_method_22_code 16 = .ok (.iconst 1, 1) := by decide +kernel
theorem dR_alone_17 : decode prog_8_method_22_code 17 = .ok (.goto 4, 3) := by decide +kernel
theorem dR_alone_20 : decode prog_8_method_22_code 20 = .ok (.iconst 0, 1) := by decide +kernel
theorem dR_alone_21 : decode prog_8_method_22_code 21 = .ok (.ireturn, 1) := by decide +kernel
theorem dR_needs_0 : decode prog_8_method_21_code 0 = .ok (.iconst 0, 1) := by decide +kernel
theorem dR_needs_1 : decode prog_8_method_21_code 1 = .ok (.istore_n 2, 1) := by decide +kernel
theorem dR_needs_2 : decode prog_8_method_21_code 2 = .ok (.iconst 3, 1) := by decide +kernel
theorem dR_needs_3 : decode prog_8_method_21_code 3 = .ok (.istore_n 3, 1) := by decide +kernel
theorem dR_needs_4 : decode prog_8_method_21_code 4 = .ok (.iload_n 3, 1) := by decide +kernel
theorem dR_needs_5 : decode prog_8_method_21_code 5 = .ok (.ifCond .lt 28, 3) := by decide +kernel
theorem dR_needs_8 : decode prog_8_method_21_code 8 = .ok (.iconst 2, 1) := by decide +kernel
theorem dR_needs_9 : decode prog_8_method_21_code 9 = .ok (.iload_n 2, 1) := by decide +kernel
theorem dR_needs_10 : decode prog_8_method_21_code 10 = .ok (.imul, 1) := by decide +kernel
theorem dR_needs_11 : decode prog_8_method_21_code 11 = .ok (.aload_n 0, 1) := by decide +kernel
theorem dR_needs_12 : decode prog_8_method_21_code 12 = .ok (.iload_n 1, 1) := by decide +kernel
theorem dR_needs_13 : decode prog_8_method_21_code 13 = .ok (.iload_n 3, 1) := by decide +kernel
theorem dR_needs_14 : decode prog_8_method_21_code 14 = .ok (.invokevirtual 130, 3) := by decide +kernel
theorem dR_needs_17 : decode prog_8_method_21_code 17 = .ok (.ifCond .eq 7, 3) := by decide +kernel
theorem dR_needs_20 : decode prog_8_method_21_code 20 = .ok (.iconst 1, 1) := by decide +kernel
theorem dR_needs_21 : decode prog_8_method_21_code 21 = .ok (.goto 4, 3) := by decide +kernel
theorem dR_needs_24 : decode prog_8_method_21_code 24 = .ok (.iconst 0, 1) := by decide +kernel
theorem dR_needs_25 : decode prog_8_method_21_code 25 = .ok (.iadd, 1) := by decide +kernel
theorem dR_needs_26 : decode prog_8_method_21_code 26 = .ok (.istore_n 2, 1) := by decide +kernel
theorem dR_needs_27 : decode prog_8_method_21_code 27 = .ok (.iinc 3 (-1), 3) := by decide +kernel
theorem dR_needs_30 : decode prog_8_method_21_code 30 = .ok (.goto (-26), 3) := by decide +kernel
theorem dR_needs_33 : decode prog_8_method_21_code 33 = .ok (.iload_n 2, 1) := by decide +kernel
theorem dR_needs_34 : decode prog_8_method_21_code 34 = .ok (.ireturn, 1) := by decide +kernel
theorem dR_mustSign_0 : decode prog_8_method_20_code 0 = .ok (.aload_n 0, 1) := by decide +kernel
theorem dR_mustSign_1 : decode prog_8_method_20_code 1 = .ok (.getfield 7, 3) := by decide +kernel
theorem dR_mustSign_4 : decode prog_8_method_20_code 4 = .ok (.iload_n 1, 1) := by decide +kernel
theorem dR_mustSign_5 : decode prog_8_method_20_code 5 = .ok (.iaload, 1) := by decide +kernel
theorem dR_mustSign_6 : decode prog_8_method_20_code 6 = .ok (.iload_n 2, 1) := by decide +kernel
theorem dR_mustSign_7 : decode prog_8_method_20_code 7 = .ok (.if_icmp .eq 23, 3) := by decide +kernel
theorem dR_mustSign_10 : decode prog_8_method_20_code 10 = .ok (.aload_n 0, 1) := by decide +kernel
theorem dR_mustSign_11 : decode prog_8_method_20_code 11 = .ok (.iload_n 1, 1) := by decide +kernel
theorem dR_mustSign_12 : decode prog_8_method_20_code 12 = .ok (.iconst 0, 1) := by decide +kernel
theorem dR_mustSign_13 : decode prog_8_method_20_code 13 = .ok (.iload_n 2, 1) := by decide +kernel
theorem dR_mustSign_14 : decode prog_8_method_20_code 14 = .ok (.iconst (-1), 1) := by decide +kernel
theorem dR_mustSign_15 : decode prog_8_method_20_code 15 = .ok (.invokevirtual 123, 3) := by decide +kernel
theorem dR_mustSign_18 : decode prog_8_method_20_code 18 = .ok (.ifCond .ne 12, 3) := by decide +kernel
theorem dR_mustSign_21 : decode prog_8_method_20_code 21 = .ok (.aload_n 0, 1) := by decide +kernel
theorem dR_mustSign_22 : decode prog_8_method_20_code 22 = .ok (.iload_n 1, 1) := by decide +kernel
theorem dR_mustSign_23 : decode prog_8_method_20_code 23 = .ok (.iload_n 2, 1) := by decide +kernel
theorem dR_mustSign_24 : decode prog_8_method_20_code 24 = .ok (.invokevirtual 127, 3) := by decide +kernel
theorem dR_mustSign_27 : decode prog_8_method_20_code 27 = .ok (.ifCond .eq 5, 3) := by decide +kernel
theorem dR_mustSign_30 : decode prog_8_method_20_code 30 = .ok (.iconst 1, 1) := by decide +kernel
theorem dR_mustSign_31 : decode prog_8_method_20_code 31 = .ok (.ireturn, 1) := by decide +kernel
theorem dR_mustSign_32 : decode prog_8_method_20_code 32 = .ok (.iconst 0, 1) := by decide +kernel
theorem dR_mustSign_33 : decode prog_8_method_20_code 33 = .ok (.istore_n 3, 1) := by decide +kernel
theorem dR_mustSign_34 : decode prog_8_method_20_code 34 = .ok (.iload_n 3, 1) := by decide +kernel
theorem dR_mustSign_35 : decode prog_8_method_20_code 35 = .ok (.aload_n 0, 1) := by decide +kernel
theorem dR_mustSign_36 : decode prog_8_method_20_code 36 = .ok (.getfield 35, 3) := by decide +kernel
theorem dR_mustSign_39 : decode prog_8_method_20_code 39 = .ok (.iload_n 1, 1) := by decide +kernel
theorem dR_mustSign_40 : decode prog_8_method_20_code 40 = .ok (.iaload, 1) := by decide +kernel
theorem dR_mustSign_41 : decode prog_8_method_20_code 41 = .ok (.if_icmp .ge 44, 3) := by decide +kernel
theorem dR_mustSign_44 : decode prog_8_method_20_code 44 = .ok (.aload_n 0, 1) := by decide +kernel
theorem dR_mustSign_45 : decode prog_8_method_20_code 45 = .ok (.getfield 41, 3) := by decide +kernel
theorem dR_mustSign_48 : decode prog_8_method_20_code 48 = .ok (.iconst 4, 1) := by decide +kernel
theorem dR_mustSign_49 : decode prog_8_method_20_code 49 = .ok (.iload_n 1, 1) := by decide +kernel
theorem dR_mustSign_50 : decode prog_8_method_20_code 50 = .ok (.imul, 1) := by decide +kernel
theorem dR_mustSign_51 : decode prog_8_method_20_code 51 = .ok (.iload_n 3, 1) := by decide +kernel
theorem dR_mustSign_52 : decode prog_8_method_20_code 52 = .ok (.iadd, 1) := by decide +kernel
theorem dR_mustSign_53 : decode prog_8_method_20_code 53 = .ok (.iaload, 1) := by decide +kernel
theorem dR_mustSign_54 : decode prog_8_method_20_code 54 = .ok (.istore 4, 2) := by decide +kernel
theorem dR_mustSign_56 : decode prog_8_method_20_code 56 = .ok (.aload_n 0, 1) := by decide +kernel
theorem dR_mustSign_57 : decode prog_8_method_20_code 57 = .ok (.getfield 44, 3) := by decide +kernel
theorem dR_mustSign_60 : decode prog_8_method_20_code 60 = .ok (.iload 4, 2) := by decide +kernel
theorem dR_mustSign_62 : decode prog_8_method_20_code 62 = .ok (.iaload, 1) := by decide +kernel
theorem dR_mustSign_63 : decode prog_8_method_20_code 63 = .ok (.ifCond .ne 16, 3) := by decide +kernel
theorem dR_mustSign_66 : decode prog_8_method_20_code 66 = .ok (.aload_n 0, 1) := by decide +kernel
theorem dR_mustSign_67 : decode prog_8_method_20_code 67 = .ok (.getfield 50, 3) := by decide +kernel
theorem dR_mustSign_70 : decode prog_8_method_20_code 70 = .ok (.iload 4, 2) := by decide +kernel
theorem dR_mustSign_72 : decode prog_8_method_20_code 72 = .ok (.iaload, 1) := by decide +kernel
theorem dR_mustSign_73 : decode prog_8_method_20_code 73 = .ok (.iload_n 2, 1) := by decide +kernel
theorem dR_mustSign_74 : decode prog_8_method_20_code 74 = .ok (.if_icmp .ne 5, 3) := by decide +kernel
theorem dR_mustSign_77 : decode prog_8_method_20_code 77 = .ok (.iconst 1, 1) := by decide +kernel
theorem dR_mustSign_78 : decode prog_8_method_20_code 78 = .ok (.ireturn, 1) := by decide +kernel
theorem dR_mustSign_79 : decode prog_8_method_20_code 79 = .ok (.iinc 3 1, 3) := by decide +kernel
theorem dR_mustSign_82 : decode prog_8_method_20_code 82 = .ok (.goto (-48), 3) := by decide +kernel
theorem dR_mustSign_85 : decode prog_8_method_20_code 85 = .ok (.iconst 0, 1) := by decide +kernel
theorem dR_mustSign_86 : decode prog_8_method_20_code 86 = .ok (.istore_n 3, 1) := by decide +kernel
theorem dR_mustSign_87 : decode prog_8_method_20_code 87 = .ok (.iload_n 3, 1) := by decide +kernel
theorem dR_mustSign_88 : decode prog_8_method_20_code 88 = .ok (.iconst 4, 1) := by decide +kernel
theorem dR_mustSign_89 : decode prog_8_method_20_code 89 = .ok (.if_icmp .ge 22, 3) := by decide +kernel
theorem dR_mustSign_92 : decode prog_8_method_20_code 92 = .ok (.aload_n 0, 1) := by decide +kernel
theorem dR_mustSign_93 : decode prog_8_method_20_code 93 = .ok (.iload_n 1, 1) := by decide +kernel
theorem dR_mustSign_94 : decode prog_8_method_20_code 94 = .ok (.iconst 1, 1) := by decide +kernel
theorem dR_mustSign_95 : decode prog_8_method_20_code 95 = .ok (.iload_n 2, 1) := by decide +kernel
theorem dR_mustSign_96 : decode prog_8_method_20_code 96 = .ok (.iload_n 3, 1) := by decide +kernel
theorem dR_mustSign_97 : decode prog_8_method_20_code 97 = .ok (.invokevirtual 123, 3) := by decide +kernel
theorem dR_mustSign_100 : decode prog_8_method_20_code 100 = .ok (.ifCond .le 5, 3) := by decide +kernel
theorem dR_mustSign_103 : decode prog_8_method_20_code 103 = .ok (.iconst 1, 1) := by decide +kernel
theorem dR_mustSign_104 : decode prog_8_method_20_code 104 = .ok (.ireturn, 1) := by decide +kernel
theorem dR_mustSign_105 : decode prog_8_method_20_code 105 = .ok (.iinc 3 1, 3) := by decide +kernel
theorem dR_mustSign_108 : decode prog_8_method_20_code 108 = .ok (.goto (-21), 3) := by decide +kernel
theorem dR_mustSign_111 : decode prog_8_method_20_code 111 = .ok (.iconst 0, 1) := by decide +kernel
theorem dR_mustSign_112 : decode prog_8_method_20_code 112 = .ok (.ireturn, 1) := by decide +kernel
theorem dR_gain_0 : decode prog_8_method_18_code 0 = .ok (.iconst 0, 1) := by decide +kernel
theorem dR_gain_1 : decode prog_8_method_18_code 1 = .ok (.istore 5, 2) := by decide +kernel
theorem dR_gain_3 : decode prog_8_method_18_code 3 = .ok (.iconst 0, 1) := by decide +kernel
theorem dR_gain_4 : decode prog_8_method_18_code 4 = .ok (.istore 6, 2) := by decide +kernel
theorem dR_gain_6 : decode prog_8_method_18_code 6 = .ok (.iload 6, 2) := by decide +kernel
theorem dR_gain_8 : decode prog_8_method_18_code 8 = .ok (.bipush 8, 2) := by decide +kernel
theorem dR_gain_10 : decode prog_8_method_18_code 10 = .ok (.if_icmp .ge 194, 3) := by decide +kernel
theorem dR_gain_13 : decode prog_8_method_18_code 13 = .ok (.iload 6, 2) := by decide +kernel
theorem dR_gain_15 : decode prog_8_method_18_code 15 = .ok (.iconst 4, 1) := by decide +kernel
theorem dR_gain_16 : decode prog_8_method_18_code 16 = .ok (.if_icmp .ge 7, 3) := by decide +kernel
theorem dR_gain_19 : decode prog_8_method_18_code 19 = .ok (.iconst 1, 1) := by decide +kernel
theorem dR_gain_20 : decode prog_8_method_18_code 20 = .ok (.goto 4, 3) := by decide +kernel
theorem dR_gain_23 : decode prog_8_method_18_code 23 = .ok (.iconst 0, 1) := by decide +kernel
theorem dR_gain_24 : decode prog_8_method_18_code 24 = .ok (.istore 7, 2) := by decide +kernel
theorem dR_gain_26 : decode prog_8_method_18_code 26 = .ok (.iload 7, 2) := by decide +kernel
theorem dR_gain_28 : decode prog_8_method_18_code 28 = .ok (.ifCond .eq 22, 3) := by decide +kernel
theorem dR_gain_31 : decode prog_8_method_18_code 31 = .ok (.iload 6, 2) := by decide +kernel
theorem dR_gain_33 : decode prog_8_method_18_code 33 = .ok (.aload_n 0, 1) := by decide +kernel
theorem dR_gain_34 : decode prog_8_method_18_code 34 = .ok (.getfield 38, 3) := by decide +kernel
theorem dR_gain_37 : decode prog_8_method_18_code 37 = .ok (.iload_n 1, 1) := by decide +kernel
theorem dR_gain_38 : decode prog_8_method_18_code 38 = .ok (.iaload, 1) := by decide +kernel
theorem dR_gain_39 : decode prog_8_method_18_code 39 = .ok (.if_icmp .ge 7, 3) := by decide +kernel
theorem dR_gain_42 : decode prog_8_method_18_code 42 = .ok (.iconst 1, 1) := by decide +kernel
theorem dR_gain_43 : decode prog_8_method_18_code 43 = .ok (.goto 25, 3) := by decide +kernel
theorem dR_gain_46 : decode prog_8_method_18_code 46 = .ok (.iconst 0, 1) := by decide +kernel
theorem dR_gain_47 : decode prog_8_method_18_code 47 = .ok (.goto 21, 3) := by decide +kernel
theorem dR_gain_50 : decode prog_8_method_18_code 50 = .ok (.iload 6, 2) := by decide +kernel
theorem dR_gain_52 : decode prog_8_method_18_code 52 = .ok (.iconst 4, 1) := by decide +kernel
theorem dR_gain_53 : decode prog_8_method_18_code 53 = .ok (.isub, 1) := by decide +kernel
theorem dR_gain_54 : decode prog_8_method_18_code 54 = .ok (.aload_n 0, 1) := by decide +kernel
theorem dR_gain_55 : decode prog_8_method_18_code 55 = .ok (.getfield 35, 3) := by decide +kernel
theorem dR_gain_58 : decode prog_8_method_18_code 58 = .ok (.iload_n 1, 1) := by decide +kernel
theorem dR_gain_59 : decode prog_8_method_18_code 59 = .ok (.iaload, 1) := by decide +kernel
theorem dR_gain_60 : decode prog_8_method_18_code 60 = .ok (.if_icmp .ge 7, 3) := by decide +kernel
theorem dR_gain_63 : decode prog_8_method_18_code 63 = .ok (.iconst 1, 1) := by decide +kernel
theorem dR_gain_64 : decode prog_8_method_18_code 64 = .ok (.goto 4, 3) := by decide +kernel
theorem dR_gain_67 : decode prog_8_method_18_code 67 = .ok (.iconst 0, 1) := by decide +kernel
theorem dR_gain_68 : decode prog_8_method_18_code 68 = .ok (.istore 8, 2) := by decide +kernel
theorem dR_gain_70 : decode prog_8_method_18_code 70 = .ok (.iload 8, 2) := by decide +kernel
theorem dR_gain_72 : decode prog_8_method_18_code 72 = .ok (.ifCond .ne 7, 3) := by decide +kernel
theorem dR_gain_75 : decode prog_8_method_18_code 75 = .ok (.iconst 0, 1) := by decide +kernel
theorem dR_gain_76 : decode prog_8_method_18_code 76 = .ok (.goto 30, 3) := by decide +kernel
theorem dR_gain_79 : decode prog_8_method_18_code 79 = .ok (.iload 7, 2) := by decide +kernel
theorem dR_gain_81 : decode prog_8_method_18_code 81 = .ok (.ifCond .eq 12, 3) := by decide +kernel
theorem dR_gain_84 : decode prog_8_method_18_code 84 = .ok (.iconst 4, 1) := by decide +kernel
theorem dR_gain_85 : decode prog_8_method_18_code 85 = .ok (.iload_n 1, 1) := by decide +kernel
theorem dR_gain_86 : decode prog_8_method_18_code 86 = .ok (.imul, 1) := by decide +kernel
theorem dR_gain_87 : decode prog_8_method_18_code 87 = .ok (.iload 6, 2) := by decide +kernel
theorem dR_gain_89 : decode prog_8_method_18_code 89 = .ok (.iadd, 1) := by decide +kernel
theorem dR_gain_90 : decode prog_8_method_18_code 90 = .ok (.goto 16, 3) := by decide +kernel
theorem dR_gain_93 : decode prog_8_method_18_code 93 = .ok (.aload_n 0, 1) := by decide +kernel
theorem dR_gain_94 : decode prog_8_method_18_code 94 = .ok (.getfield 41, 3) := by decide +kernel
theorem dR_gain_97 : decode prog_8_method_18_code 97 = .ok (.iconst 4, 1) := by decide +kernel
theorem dR_gain_98 : decode prog_8_method_18_code 98 = .ok (.iload_n 1, 1) := by decide +kernel
theorem dR_gain_99 : decode prog_8_method_18_code 99 = .ok (.imul, 1) := by decide +kernel
theorem dR_gain_100 : decode prog_8_method_18_code 100 = .ok (.iload 6, 2) := by decide +kernel
theorem dR_gain_102 : decode prog_8_method_18_code 102 = .ok (.iadd, 1) := by decide +kernel
theorem dR_gain_103 : decode prog_8_method_18_code 103 = .ok (.iconst 4, 1) := by decide +kernel
theorem dR_gain_104 : decode prog_8_method_18_code 104 = .ok (.isub, 1) := by decide +kernel
theorem dR_gain_105 : decode prog_8_method_18_code 105 = .ok (.iaload, 1) := by decide +kernel
theorem dR_gain_106 : decode prog_8_method_18_code 106 = .ok (.istore 9, 2) := by decide +kernel
theorem dR_gain_108 : decode prog_8_method_18_code 108 = .ok (.iload 8, 2) := by decide +kernel
theorem dR_gain_110 : decode prog_8_method_18_code 110 = .ok (.ifCond .eq 52, 3) := by decide +kernel
theorem dR_gain_113 : decode prog_8_method_18_code 113 = .ok (.aload_n 0, 1) := by decide +kernel
theorem dR_gain_114 : decode prog_8_method_18_code 114 = .ok (.getfield 44, 3) := by decide +kernel
theorem dR_gain_117 : decode prog_8_method_18_code 117 = .ok (.iload 9, 2) := by decide +kernel
theorem dR_gain_119 : decode prog_8_method_18_code 119 = .ok (.iaload, 1) := by decide +kernel
theorem dR_gain_120 : decode prog_8_method_18_code 120 = .ok (.iload_n 2, 1) := by decide +kernel
theorem dR_gain_121 : decode prog_8_method_18_code 121 = .ok (.if_icmp .ne 41, 3) := by decide +kernel
theorem dR_gain_124 : decode prog_8_method_18_code 124 = .ok (.iload_n 3, 1) := by decide +kernel
theorem dR_gain_125 : decode prog_8_method_18_code 125 = .ok (.iconst (-1), 1) := by decide +kernel
theorem dR_gain_126 : decode prog_8_method_18_code 126 = .ok (.if_icmp .eq 14, 3) := by decide +kernel
theorem dR_gain_129 : decode prog_8_method_18_code 129 = .ok (.aload_n 0, 1) := by decide +kernel
theorem dR_gain_130 : decode prog_8_method_18_code 130 = .ok (.getfield 47, 3) := by decide +kernel
theorem dR_gain_133 : decode prog_8_method_18_code 133 = .ok (.iload 9, 2) := by decide +kernel
theorem dR_gain_135 : decode prog_8_method_18_code 135 = .ok (.iaload, 1) := by decide +kernel
theorem dR_gain_136 : decode prog_8_method_18_code 136 = .ok (.iload_n 3, 1) := by decide +kernel
theorem dR_gain_137 : decode prog_8_method_18_code 137 = .ok (.if_icmp .ne 25, 3) := by decide +kernel
theorem dR_gain_140 : decode prog_8_method_18_code 140 = .ok (.iload 4, 2) := by decide +kernel
theorem dR_gain_142 : decode prog_8_method_18_code 142 = .ok (.iconst (-1), 1) := by decide +kernel
theorem dR_gain_143 : decode prog_8_method_18_code 143 = .ok (.if_icmp .eq 15, 3) := by decide +kernel
theorem dR_gain_146 : decode prog_8_method_18_code 146 = .ok (.aload_n 0, 1) := by decide +kernel
theorem dR_gain_147 : decode prog_8_method_18_code 147 = .ok (.getfield 50, 3) := by decide +kernel
theorem dR_gain_150 : decode prog_8_method_18_code 150 = .ok (.iload 9, 2) := by decide +kernel
theorem dR_gain_152 : decode prog_8_method_18_code 152 = .ok (.iaload, 1) := by decide +kernel
theorem dR_gain_153 : decode prog_8_method_18_code 153 = .ok (.iload 4, 2) := by decide +kernel
theorem dR_gain_155 : decode prog_8_method_18_code 155 = .ok (.if_icmp .ne 7, 3) := by decide +kernel
theorem dR_gain_158 : decode prog_8_method_18_code 158 = .ok (.iconst 1, 1) := by decide +kernel
theorem dR_gain_159 : decode prog_8_method_18_code 159 = .ok (.goto 4, 3) := by decide +kernel
theorem dR_gain_162 : decode prog_8_method_18_code 162 = .ok (.iconst 0, 1) := by decide +kernel
theorem dR_gain_163 : decode prog_8_method_18_code 163 = .ok (.istore 10, 2) := by decide +kernel
theorem dR_gain_165 : decode prog_8_method_18_code 165 = .ok (.iload 10, 2) := by decide +kernel
theorem dR_gain_167 : decode prog_8_method_18_code 167 = .ok (.ifCond .eq 31, 3) := by decide +kernel
theorem dR_gain_170 : decode prog_8_method_18_code 170 = .ok (.iload 5, 2) := by decide +kernel
theorem dR_gain_172 : decode prog_8_method_18_code 172 = .ok (.iload 7, 2) := by decide +kernel
theorem dR_gain_174 : decode prog_8_method_18_code 174 = .ok (.ifCond .eq 13, 3) := by decide +kernel
theorem dR_gain_177 : decode prog_8_method_18_code 177 = .ok (.aload_n 0, 1) := by decide +kernel
theorem dR_gain_178 : decode prog_8_method_18_code 178 = .ok (.getfield 53, 3) := by decide +kernel
theorem dR_gain_181 : decode prog_8_method_18_code 181 = .ok (.iload 9, 2) := by decide +kernel
theorem dR_gain_183 : decode prog_8_method_18_code 183 = .ok (.iaload, 1) := by decide +kernel
theorem dR_gain_184 : decode prog_8_method_18_code 184 = .ok (.goto 11, 3) := by decide +kernel
theorem dR_gain_187 : decode prog_8_method_18_code 187 = .ok (.aload_n 0, 1) := by decide +kernel
theorem dR_gain_188 : decode prog_8_method_18_code 188 = .ok (.getfield 53, 3) := by decide +kernel
theorem dR_gain_191 : decode prog_8_method_18_code 191 = .ok (.iload 9, 2) := by decide +kernel
theorem dR_gain_193 : decode prog_8_method_18_code 193 = .ok (.iaload, 1) := by decide +kernel
theorem dR_gain_194 : decode prog_8_method_18_code 194 = .ok (.ineg, 1) := by decide +kernel
theorem dR_gain_195 : decode prog_8_method_18_code 195 = .ok (.iadd, 1) := by decide +kernel
theorem dR_gain_196 : decode prog_8_method_18_code 196 = .ok (.istore 5, 2) := by decide +kernel
theorem dR_gain_198 : decode prog_8_method_18_code 198 = .ok (.iinc 6 1, 3) := by decide +kernel
theorem dR_gain_201 : decode prog_8_method_18_code 201 = .ok (.goto (-195), 3) := by decide +kernel
theorem dR_gain_204 : decode prog_8_method_18_code 204 = .ok (.iload 5, 2) := by decide +kernel
theorem dR_gain_206 : decode prog_8_method_18_code 206 = .ok (.ireturn, 1) := by decide +kernel
theorem dR_letDown_0 : decode prog_8_method_19_code 0 = .ok (.iconst 0, 1) := by decide +kernel
theorem dR_letDown_1 : decode prog_8_method_19_code 1 = .ok (.istore_n 3, 1) := by decide +kernel
theorem dR_letDown_2 : decode prog_8_method_19_code 2 = .ok (.iconst 0, 1) := by decide +kernel
theorem dR_letDown_3 : decode prog_8_method_19_code 3 = .ok (.istore 4, 2) := by decide +kernel
theorem dR_letDown_5 : decode prog_8_method_19_code 5 = .ok (.iload 4, 2) := by decide +kernel
theorem dR_letDown_7 : decode prog_8_method_19_code 7 = .ok (.iconst 4, 1) := by decide +kernel
theorem dR_letDown_8 : decode prog_8_method_19_code 8 = .ok (.if_icmp .ge 30, 3) := by decide +kernel
theorem dR_letDown_11 : decode prog_8_method_19_code 11 = .ok (.aload_n 0, 1) := by decide +kernel
theorem dR_letDown_12 : decode prog_8_method_19_code 12 = .ok (.iload_n 1, 1) := by decide +kernel
theorem dR_letDown_13 : decode prog_8_method_19_code 13 = .ok (.iconst 1, 1) := by decide +kernel
theorem dR_letDown_14 : decode prog_8_method_19_code 14 = .ok (.iload 4, 2) := by decide +kernel
theorem dR_letDown_16 : decode prog_8_method_19_code 16 = .ok (.iload_n 2, 1) := by decide +kernel
theorem dR_letDown_17 : decode prog_8_method_19_code 17 = .ok (.invokevirtual 123, 3) := by decide +kernel
theorem dR_letDown_20 : decode prog_8_method_19_code 20 = .ok (.istore 5, 2) := by decide +kernel
theorem dR_letDown_22 : decode prog_8_method_19_code 22 = .ok (.iload 5, 2) := by decide +kernel
theorem dR_letDown_24 : decode prog_8_method_19_code 24 = .ok (.ifCond .ge 8, 3) := by decide +kernel
theorem dR_letDown_27 : decode prog_8_method_19_code 27 = .ok (.iload_n 3, 1) := by decide +kernel
theorem dR_letDown_28 : decode prog_8_method_19_code 28 = .ok (.iload 5, 2) := by decide +kernel
theorem dR_letDown_30 : decode prog_8_method_19_code 30 = .ok (.isub, 1) := by decide +kernel
theorem dR_letDown_31 : decode prog_8_method_19_code 31 = .ok (.istore_n 3, 1) := by decide +kernel
theorem dR_letDown_32 : decode prog_8_method_19_code 32 = .ok (.iinc 4 1, 3) := by decide +kernel
theorem dR_letDown_35 : decode prog_8_method_19_code 35 = .ok (.goto (-30), 3) := by decide +kernel
theorem dR_letDown_38 : decode prog_8_method_19_code 38 = .ok (.iload_n 3, 1) := by decide +kernel
theorem dR_letDown_39 : decode prog_8_method_19_code 39 = .ok (.ifCond .le 19, 3) := by decide +kernel
theorem dR_letDown_42 : decode prog_8_method_19_code 42 = .ok (.iload_n 3, 1) := by decide +kernel
theorem dR_letDown_43 : decode prog_8_method_19_code 43 = .ok (.aload_n 0, 1) := by decide +kernel
theorem dR_letDown_44 : decode prog_8_method_19_code 44 = .ok (.iload_n 1, 1) := by decide +kernel
theorem dR_letDown_45 : decode prog_8_method_19_code 45 = .ok (.iconst 0, 1) := by decide +kernel
theorem dR_letDown_46 : decode prog_8_method_19_code 46 = .ok (.iconst (-1), 1) := by decide +kernel
theorem dR_letDown_47 : decode prog_8_method_19_code 47 = .ok (.iload_n 2, 1) := by decide +kernel
theorem dR_letDown_48 : decode prog_8_method_19_code 48 = .ok (.invokevirtual 123, 3) := by decide +kernel
theorem dR_letDown_51 : decode prog_8_method_19_code 51 = .ok (.if_icmp .le 7, 3) := by decide +kernel
theorem dR_letDown_54 : decode prog_8_method_19_code 54 = .ok (.iconst 1, 1) := by decide +kernel
theorem dR_letDown_55 : decode prog_8_method_19_code 55 = .ok (.goto 4, 3) := by decide +kernel
theorem dR_letDown_58 : decode prog_8_method_19_code 58 = .ok (.iconst 0, 1) := by decide +kernel
theorem dR_letDown_59 : decode prog_8_method_19_code 59 = .ok (.ireturn, 1) := by decide +kernel
theorem dR_send_0 : decode prog_8_method_25_code 0 = .ok (.iload_n 1, 1) := by decide +kernel
theorem dR_send_1 : decode prog_8_method_25_code 1 = .ok (.bipush 8, 2) := by decide +kernel
theorem dR_send_3 : decode prog_8_method_25_code 3 = .ok (.iload_n 2, 1) := by decide +kernel
theorem dR_send_4 : decode prog_8_method_25_code 4 = .ok (.imul, 1) := by decide +kernel
theorem dR_send_5 : decode prog_8_method_25_code 5 = .ok (.iadd, 1) := by decide +kernel
theorem dR_send_6 : decode prog_8_method_25_code 6 = .ok (.bipush 64, 2) := by decide +kernel
theorem dR_send_8 : decode prog_8_method_25_code 8 = .ok (.iload_n 3, 1) := by decide +kernel
theorem dR_send_9 : decode prog_8_method_25_code 9 = .ok (.imul, 1) := by decide +kernel
theorem dR_send_10 : decode prog_8_method_25_code 10 = .ok (.iadd, 1) := by decide +kernel
theorem dR_send_11 : decode prog_8_method_25_code 11 = .ok (.sipush 512, 3) := by decide +kernel
theorem dR_send_14 : decode prog_8_method_25_code 14 = .ok (.iload 4, 2) := by decide +kernel
theorem dR_send_16 : decode prog_8_method_25_code 16 = .ok (.imul, 1) := by decide +kernel
theorem dR_send_17 : decode prog_8_method_25_code 17 = .ok (.iadd, 1) := by decide +kernel
theorem dR_send_18 : decode prog_8_method_25_code 18 = .ok (.sipush 16384, 3) := by decide +kernel
theorem dR_send_21 : decode prog_8_method_25_code 21 = .ok (.iload 5, 2) := by decide +kernel
theorem dR_send_23 : decode prog_8_method_25_code 23 = .ok (.imul, 1) := by decide +kernel
theorem dR_send_24 : decode prog_8_method_25_code 24 = .ok (.iadd, 1) := by decide +kernel
theorem dR_send_25 : decode prog_8_method_25_code 25 = .ok (.istore 6, 2) := by decide +kernel
theorem dR_send_27 : decode prog_8_method_25_code 27 = .ok (.iconst 0, 1) := by decide +kernel
theorem dR_send_28 : decode prog_8_method_25_code 28 = .ok (.istore 7, 2) := by decide +kernel
theorem dR_send_30 : decode prog_8_method_25_code 30 = .ok (.iload 7, 2) := by decide +kernel
theorem dR_send_32 : decode prog_8_method_25_code 32 = .ok (.aload_n 0, 1) := by decide +kernel
theorem dR_send_33 : decode prog_8_method_25_code 33 = .ok (.getfield 143, 3) := by decide +kernel
theorem dR_send_36 : decode prog_8_method_25_code 36 = .ok (.if_icmp .ge 23, 3) := by decide +kernel
theorem dR_send_39 : decode prog_8_method_25_code 39 = .ok (.aload_n 0, 1) := by decide +kernel
theorem dR_send_40 : decode prog_8_method_25_code 40 = .ok (.getfield 74, 3) := by decide +kernel
theorem dR_send_43 : decode prog_8_method_25_code 43 = .ok (.iload 7, 2) := by decide +kernel
theorem dR_send_45 : decode prog_8_method_25_code 45 = .ok (.iaload, 1) := by decide +kernel
theorem dR_send_46 : decode prog_8_method_25_code 46 = .ok (.iload 6, 2) := by decide +kernel
theorem dR_send_48 : decode prog_8_method_25_code 48 = .ok (.if_icmp .ne 5, 3) := by decide +kernel
theorem dR_send_51 : decode prog_8_method_25_code 51 = .ok (.iconst 0, 1) := by decide +kernel
theorem dR_send_52 : decode prog_8_method_25_code 52 = .ok (.ireturn, 1) := by decide +kernel
theorem dR_send_53 : decode prog_8_method_25_code 53 = .ok (.iinc 7 1, 3) := by decide +kernel
theorem dR_send_56 : decode prog_8_method_25_code 56 = .ok (.goto (-26), 3) := by decide +kernel
theorem dR_send_59 : decode prog_8_method_25_code 59 = .ok (.aload_n 0, 1) := by decide +kernel
theorem dR_send_60 : decode prog_8_method_25_code 60 = .ok (.getfield 74, 3) := by decide +kernel
theorem dR_send_63 : decode prog_8_method_25_code 63 = .ok (.aload_n 0, 1) := by decide +kernel
theorem dR_send_64 : decode prog_8_method_25_code 64 = .ok (.getfield 143, 3) := by decide +kernel
theorem dR_send_67 : decode prog_8_method_25_code 67 = .ok (.iload 6, 2) := by decide +kernel
theorem dR_send_69 : decode prog_8_method_25_code 69 = .ok (.iastore, 1) := by decide +kernel
theorem dR_send_70 : decode prog_8_method_25_code 70 = .ok (.aload_n 0, 1) := by decide +kernel
theorem dR_send_71 : decode prog_8_method_25_code 71 = .ok (.dup, 1) := by decide +kernel
theorem dR_send_72 : decode prog_8_method_25_code 72 = .ok (.getfield 143, 3) := by decide +kernel
theorem dR_send_75 : decode prog_8_method_25_code 75 = .ok (.iconst 1, 1) := by decide +kernel
theorem dR_send_76 : decode prog_8_method_25_code 76 = .ok (.iadd, 1) := by decide +kernel
theorem dR_send_77 : decode prog_8_method_25_code 77 = .ok (.putfield 143, 3) := by decide +kernel
theorem dR_send_80 : decode prog_8_method_25_code 80 = .ok (.iconst 1, 1) := by decide +kernel
theorem dR_send_81 : decode prog_8_method_25_code 81 = .ok (.ireturn, 1) := by decide +kernel
theorem dR_deliver_0 : decode prog_8_method_28_code 0 = .ok (.iload_n 1, 1) := by decide +kernel
theorem dR_deliver_1 : decode prog_8_method_28_code 1 = .ok (.ifCond .lt 11, 3) := by decide +kernel
theorem dR_deliver_4 : decode prog_8_method_28_code 4 = .ok (.iload_n 1, 1) := by decide +kernel
theorem dR_deliver_5 : decode prog_8_method_28_code 5 = .ok (.aload_n 0, 1) := by decide +kernel
theorem dR_deliver_6 : decode prog_8_method_28_code 6 = .ok (.getfield 143, 3) := by decide +kernel
theorem dR_deliver_9 : decode prog_8_method_28_code 9 = .ok (.if_icmp .lt 5, 3) := by decide +kernel
theorem dR_deliver_12 : decode prog_8_method_28_code 12 = .ok (.iconst (-1), 1) := by decide +kernel
theorem dR_deliver_13 : decode prog_8_method_28_code 13 = .ok (.ireturn, 1) := by decide +kernel
theorem dR_deliver_14 : decode prog_8_method_28_code 14 = .ok (.aload_n 0, 1) := by decide +kernel
theorem dR_deliver_15 : decode prog_8_method_28_code 15 = .ok (.getfield 74, 3) := by decide +kernel
theorem dR_deliver_18 : decode prog_8_method_28_code 18 = .ok (.iload_n 1, 1) := by decide +kernel
theorem dR_deliver_19 : decode prog_8_method_28_code 19 = .ok (.iaload, 1) := by decide +kernel
theorem dR_deliver_20 : decode prog_8_method_28_code 20 = .ok (.istore_n 3, 1) := by decide +kernel
theorem dR_deliver_21 : decode prog_8_method_28_code 21 = .ok (.iload_n 3, 1) := by decide +kernel
theorem dR_deliver_22 : decode prog_8_method_28_code 22 = .ok (.bipush 7, 2) := by decide +kernel
theorem dR_deliver_24 : decode prog_8_method_28_code 24 = .ok (.iand, 1) := by decide +kernel
theorem dR_deliver_25 : decode prog_8_method_28_code 25 = .ok (.istore 4, 2) := by decide +kernel
theorem dR_deliver_27 : decode prog_8_method_28_code 27 = .ok (.iload_n 3, 1) := by decide +kernel
theorem dR_deliver_28 : decode prog_8_method_28_code 28 = .ok (.iconst 3, 1) := by decide +kernel
theorem dR_deliver_29 : decode prog_8_method_28_code 29 = .ok (.ishr, 1) := by decide +kernel
theorem dR_deliver_30 : decode prog_8_method_28_code 30 = .ok (.bipush 7, 2) := by decide +kernel
theorem dR_deliver_32 : decode prog_8_method_28_code 32 = .ok (.iand, 1) := by decide +kernel
theorem dR_deliver_33 : decode prog_8_method_28_code 33 = .ok (.istore 5, 2) := by decide +kernel
theorem dR_deliver_35 : decode prog_8_method_28_code 35 = .ok (.iload_n 3, 1) := by decide +kernel
theorem dR_deliver_36 : decode prog_8_method_28_code 36 = .ok (.bipush 6, 2) := by decide +kernel
theorem dR_deliver_38 : decode prog_8_method_28_code 38 = .ok (.ishr, 1) := by decide +kernel
theorem dR_deliver_39 : decode prog_8_method_28_code 39 = .ok (.bipush 7, 2) := by decide +kernel
theorem dR_deliver_41 : decode prog_8_method_28_code 41 = .ok (.iand, 1) := by decide +kernel
theorem dR_deliver_42 : decode prog_8_method_28_code 42 = .ok (.istore 6, 2) := by decide +kernel
theorem dR_deliver_44 : decode prog_8_method_28_code 44 = .ok (.iload_n 3, 1) := by decide +kernel
theorem dR_deliver_45 : decode prog_8_method_28_code 45 = .ok (.bipush 9, 2) := by decide +kernel
theorem dR_deliver_47 : decode prog_8_method_28_code 47 = .ok (.ishr, 1) := by decide +kernel
theorem dR_deliver_48 : decode prog_8_method_28_code 48 = .ok (.bipush 31, 2) := by decide +kernel
theorem dR_deliver_50 : decode prog_8_method_28_code 50 = .ok (.iand, 1) := by decide +kernel
theorem dR_deliver_51 : decode prog_8_method_28_code 51 = .ok (.istore 7, 2) := by decide +kernel
theorem dR_deliver_53 : decode prog_8_method_28_code 53 = .ok (.iload_n 3, 1) := by decide +kernel
theorem dR_deliver_54 : decode prog_8_method_28_code 54 = .ok (.bipush 14, 2) := by decide +kernel
theorem dR_deliver_56 : decode prog_8_method_28_code 56 = .ok (.ishr, 1) := by decide +kernel
theorem dR_deliver_57 : decode prog_8_method_28_code 57 = .ok (.istore 8, 2) := by decide +kernel
theorem dR_deliver_59 : decode prog_8_method_28_code 59 = .ok (.iconst 2, 1) := by decide +kernel
theorem dR_deliver_60 : decode prog_8_method_28_code 60 = .ok (.istore 9, 2) := by decide +kernel
theorem dR_deliver_62 : decode prog_8_method_28_code 62 = .ok (.iload 4, 2) := by decide +kernel
theorem dR_deliver_64 : decode prog_8_method_28_code 64 = .ok (.ifCond .ne 15, 3) := by decide +kernel
theorem dR_deliver_67 : decode prog_8_method_28_code 67 = .ok (.aload_n 0, 1) := by decide +kernel
theorem dR_deliver_68 : decode prog_8_method_28_code 68 = .ok (.iload 6, 2) := by decide +kernel
theorem dR_deliver_70 : decode prog_8_method_28_code 70 = .ok (.iload 7, 2) := by decide +kernel
theorem dR_deliver_72 : decode prog_8_method_28_code 72 = .ok (.iload_n 2, 1) := by decide +kernel
theorem dR_deliver_73 : decode prog_8_method_28_code 73 = .ok (.invokevirtual 150, 3) := by decide +kernel
theorem dR_deliver_76 : decode prog_8_method_28_code 76 = .ok (.goto 71, 3) := by decide +kernel
theorem dR_deliver_79 : decode prog_8_method_28_code 79 = .ok (.iload 4, 2) := by decide +kernel
theorem dR_deliver_81 : decode prog_8_method_28_code 81 = .ok (.iconst 1, 1) := by decide +kernel
theorem dR_deliver_82 : decode prog_8_method_28_code 82 = .ok (.if_icmp .ne 19, 3) := by decide +kernel
theorem dR_deliver_85 : decode prog_8_method_28_code 85 = .ok (.aload_n 0, 1) := by decide +kernel
theorem dR_deliver_86 : decode prog_8_method_28_code 86 = .ok (.iload 5, 2) := by decide +kernel
theorem dR_deliver_88 : decode prog_8_method_28_code 88 = .ok (.iload 7, 2) := by decide +kernel
theorem dR_deliver_90 : decode prog_8_method_28_code 90 = .ok (.iload 8, 2) := by decide +kernel
theorem dR_deliver_92 : decode prog_8_method_28_code 92 = .ok (.iload_n 2, 1) := by decide +kernel
theorem dR_deliver_93 : decode prog_8_method_28_code 93 = .ok (.invokevirtual 154, 3) := by decide +kernel
theorem dR_deliver_96 : decode prog_8_method_28_code 96 = .ok (.istore 9, 2) := by decide +kernel
theorem dR_deliver_98 : decode prog_8_method_28_code 98 = .ok (.goto 49, 3) := by decide +kernel
theorem dR_deliver_101 : decode prog_8_method_28_code 101 = .ok (.iload 4, 2) := by decide +kernel
theorem dR_deliver_103 : decode prog_8_method_28_code 103 = .ok (.iconst 2, 1) := by decide +kernel
theorem dR_deliver_104 : decode prog_8_method_28_code 104 = .ok (.if_icmp .ne 12, 3) := by decide +kernel
theorem dR_deliver_107 : decode prog_8_method_28_code 107 = .ok (.aload_n 0, 1) := by decide +kernel
theorem dR_deliver_108 : decode prog_8_method_28_code 108 = .ok (.iload 7, 2) := by decide +kernel
theorem dR_deliver_110 : decode prog_8_method_28_code 110 = .ok (.invokevirtual 158, 3) := by decide +kernel
theorem dR_deliver_113 : decode prog_8_method_28_code 113 = .ok (.goto 34, 3) := by decide +kernel
theorem dR_deliver_116 : decode prog_8_method_28_code 116 = .ok (.iload 4, 2) := by decide +kernel
theorem dR_deliver_118 : decode prog_8_method_28_code 118 = .ok (.iconst 3, 1) := by decide +kernel
theorem dR_deliver_119 : decode prog_8_method_28_code 119 = .ok (.if_icmp .ne 17, 3) := by decide +kernel
theorem dR_deliver_122 : decode prog_8_method_28_code 122 = .ok (.aload_n 0, 1) := by decide +kernel
theorem dR_deliver_123 : decode prog_8_method_28_code 123 = .ok (.iload 7, 2) := by decide +kernel
theorem dR_deliver_125 : decode prog_8_method_28_code 125 = .ok (.iload 8, 2) := by decide +kernel
theorem dR_deliver_127 : decode prog_8_method_28_code 127 = .ok (.iload_n 2, 1) := by decide +kernel
theorem dR_deliver_128 : decode prog_8_method_28_code 128 = .ok (.invokevirtual 162, 3) := by decide +kernel
theorem dR_deliver_131 : decode prog_8_method_28_code 131 = .ok (.istore 9, 2) := by decide +kernel
theorem dR_deliver_133 : decode prog_8_method_28_code 133 = .ok (.goto 14, 3) := by decide +kernel
theorem dR_deliver_136 : decode prog_8_method_28_code 136 = .ok (.aload_n 0, 1) := by decide +kernel
theorem dR_deliver_137 : decode prog_8_method_28_code 137 = .ok (.iload 6, 2) := by decide +kernel
theorem dR_deliver_139 : decode prog_8_method_28_code 139 = .ok (.iload 7, 2) := by decide +kernel
theorem dR_deliver_141 : decode prog_8_method_28_code 141 = .ok (.iload_n 2, 1) := by decide +kernel
theorem dR_deliver_142 : decode prog_8_method_28_code 142 = .ok (.invokevirtual 166, 3) := by decide +kernel
theorem dR_deliver_145 : decode prog_8_method_28_code 145 = .ok (.istore 9, 2) := by decide +kernel
theorem dR_deliver_147 : decode prog_8_method_28_code 147 = .ok (.iload_n 2, 1) := by decide +kernel
theorem dR_deliver_148 : decode prog_8_method_28_code 148 = .ok (.ifCond .ne 54, 3) := by decide +kernel
theorem dR_deliver_151 : decode prog_8_method_28_code 151 = .ok (.iload 9, 2) := by decide +kernel
theorem dR_deliver_153 : decode prog_8_method_28_code 153 = .ok (.ifCond .eq 49, 3) := by decide +kernel
theorem dR_deliver_156 : decode prog_8_method_28_code 156 = .ok (.iload_n 1, 1) := by decide +kernel
theorem dR_deliver_157 : decode prog_8_method_28_code 157 = .ok (.istore 10, 2) := by decide +kernel
theorem dR_deliver_159 : decode prog_8_method_28_code 159 = .ok (.iload 10, 2) := by decide +kernel
theorem dR_deliver_161 : decode prog_8_method_28_code 161 = .ok (.iconst 1, 1) := by decide +kernel
theorem dR_deliver_162 : decode prog_8_method_28_code 162 = .ok (.iadd, 1) := by decide +kernel
theorem dR_deliver_163 : decode prog_8_method_28_code 163 = .ok (.aload_n 0, 1) := by decide +kernel
theorem dR_deliver_164 : decode prog_8_method_28_code 164 = .ok (.getfield 143, 3) := by decide +kernel
theorem dR_deliver_167 : decode prog_8_method_28_code 167 = .ok (.if_icmp .ge 25, 3) := by decide +kernel
theorem dR_deliver_170 : decode prog_8_method_28_code 170 = .ok (.aload_n 0, 1) := by decide +kernel
theorem dR_deliver_171 : decode prog_8_method_28_code 171 = .ok (.getfield 74, 3) := by decide +kernel
theorem dR_deliver_174 : decode prog_8_method_28_code 174 = .ok (.iload 10, 2) := by decide +kernel
theorem dR_deliver_176 : decode prog_8_method_28_code 176 = .ok (.aload_n 0, 1) := by decide +kernel
theorem dR_deliver_177 : decode prog_8_method_28_code 177 = .ok (.getfield 74, 3) := by decide +kernel
theorem dR_deliver_180 : decode prog_8_method_28_code 180 = .ok (.iload 10, 2) := by decide +kernel
theorem dR_deliver_182 : decode prog_8_method_28_code 182 = .ok (.iconst 1, 1) := by decide +kernel
theorem dR_deliver_183 : decode prog_8_method_28_code 183 = .ok (.iadd, 1) := by decide +kernel
theorem dR_deliver_184 : decode prog_8_method_28_code 184 = .ok (.iaload, 1) := by decide +kernel
theorem dR_deliver_185 : decode prog_8_method_28_code 185 = .ok (.iastore, 1) := by decide +kernel
theorem dR_deliver_186 : decode prog_8_method_28_code 186 = .ok (.iinc 10 1, 3) := by decide +kernel
theorem dR_deliver_189 : decode prog_8_method_28_code 189 = .ok (.goto (-30), 3) := by decide +kernel
theorem dR_deliver_192 : decode prog_8_method_28_code 192 = .ok (.aload_n 0, 1) := by decide +kernel
theorem dR_deliver_193 : decode prog_8_method_28_code 193 = .ok (.dup, 1) := by decide +kernel
theorem dR_deliver_194 : decode prog_8_method_28_code 194 = .ok (.getfield 143, 3) := by decide +kernel
theorem dR_deliver_197 : decode prog_8_method_28_code 197 = .ok (.iconst 1, 1) := by decide +kernel
theorem dR_deliver_198 : decode prog_8_method_28_code 198 = .ok (.isub, 1) := by decide +kernel
theorem dR_deliver_199 : decode prog_8_method_28_code 199 = .ok (.putfield 143, 3) := by decide +kernel
theorem dR_deliver_202 : decode prog_8_method_28_code 202 = .ok (.iload 9, 2) := by decide +kernel
theorem dR_deliver_204 : decode prog_8_method_28_code 204 = .ok (.ireturn, 1) := by decide +kernel
theorem dR_ask_0 : decode prog_8_method_29_code 0 = .ok (.bipush 20, 2) := by decide +kernel
theorem dR_ask_2 : decode prog_8_method_29_code 2 = .ok (.iload_n 1, 1) := by decide +kernel
theorem dR_ask_3 : decode prog_8_method_29_code 3 = .ok (.imul, 1) := by decide +kernel
theorem dR_ask_4 : decode prog_8_method_29_code 4 = .ok (.iload_n 2, 1) := by decide +kernel
theorem dR_ask_5 : decode prog_8_method_29_code 5 = .ok (.iadd, 1) := by decide +kernel
theorem dR_ask_6 : decode prog_8_method_29_code 6 = .ok (.istore 4, 2) := by decide +kernel
theorem dR_ask_8 : decode prog_8_method_29_code 8 = .ok (.aload_n 0, 1) := by decide +kernel
theorem dR_ask_9 : decode prog_8_method_29_code 9 = .ok (.getfield 65, 3) := by decide +kernel
theorem dR_ask_12 : decode prog_8_method_29_code 12 = .ok (.iload 4, 2) := by decide +kernel
theorem dR_ask_14 : decode prog_8_method_29_code 14 = .ok (.iaload, 1) := by decide +kernel
theorem dR_ask_15 : decode prog_8_method_29_code 15 = .ok (.ifCond .ne 33, 3) := by decide +kernel
theorem dR_ask_18 : decode prog_8_method_29_code 18 = .ok (.aload_n 0, 1) := by decide +kernel
theorem dR_ask_19 : decode prog_8_method_29_code 19 = .ok (.getfield 65, 3) := by decide +kernel
theorem dR_ask_22 : decode prog_8_method_29_code 22 = .ok (.iload 4, 2) := by decide +kernel
theorem dR_ask_24 : decode prog_8_method_29_code 24 = .ok (.aload_n 0, 1) := by decide +kernel
theorem dR_ask_25 : decode prog_8_method_29_code 25 = .ok (.getfield 71, 3) := by decide +kernel
theorem dR_ask_28 : decode prog_8_method_29_code 28 = .ok (.iconst 4, 1) := by decide +kernel
theorem dR_ask_29 : decode prog_8_method_29_code 29 = .ok (.iload_n 1, 1) := by decide +kernel
theorem dR_ask_30 : decode prog_8_method_29_code 30 = .ok (.imul, 1) := by decide +kernel
theorem dR_ask_31 : decode prog_8_method_29_code 31 = .ok (.aload_n 0, 1) := by decide +kernel
theorem dR_ask_32 : decode prog_8_method_29_code 32 = .ok (.getfield 7, 3) := by decide +kernel
theorem dR_ask_35 : decode prog_8_method_29_code 35 = .ok (.iload_n 2, 1) := by decide +kernel
theorem dR_ask_36 : decode prog_8_method_29_code 36 = .ok (.iaload, 1) := by decide +kernel
theorem dR_ask_37 : decode prog_8_method_29_code 37 = .ok (.iadd, 1) := by decide +kernel
theorem dR_ask_38 : decode prog_8_method_29_code 38 = .ok (.baload, 1) := by decide +kernel
theorem dR_ask_39 : decode prog_8_method_29_code 39 = .ok (.ifCond .eq 7, 3) := by decide +kernel
theorem dR_ask_42 : decode prog_8_method_29_code 42 = .ok (.iconst 2, 1) := by decide +kernel
theorem dR_ask_43 : decode prog_8_method_29_code 43 = .ok (.goto 4, 3) := by decide +kernel
theorem dR_ask_46 : decode prog_8_method_29_code 46 = .ok (.iconst 1, 1) := by decide +kernel
theorem dR_ask_47 : decode prog_8_method_29_code 47 = .ok (.iastore, 1) := by decide +kernel
theorem dR_ask_48 : decode prog_8_method_29_code 48 = .ok (.aload_n 0, 1) := by decide +kernel
theorem dR_ask_49 : decode prog_8_method_29_code 49 = .ok (.getfield 65, 3) := by decide +kernel
theorem dR_ask_52 : decode prog_8_method_29_code 52 = .ok (.iload 4, 2) := by decide +kernel
theorem dR_ask_54 : decode prog_8_method_29_code 54 = .ok (.iaload, 1) := by decide +kernel
theorem dR_ask_55 : decode prog_8_method_29_code 55 = .ok (.iconst 1, 1) := by decide +kernel
theorem dR_ask_56 : decode prog_8_method_29_code 56 = .ok (.if_icmp .ne 13, 3) := by decide +kernel
theorem dR_ask_59 : decode prog_8_method_29_code 59 = .ok (.iload_n 3, 1) := by decide +kernel
theorem dR_ask_60 : decode prog_8_method_29_code 60 = .ok (.ifCond .ne 9, 3) := by decide +kernel
theorem dR_ask_63 : decode prog_8_method_29_code 63 = .ok (.aload_n 0, 1) := by decide +kernel
theorem dR_ask_64 : decode prog_8_method_29_code 64 = .ok (.iload_n 1, 1) := by decide +kernel
theorem dR_ask_65 : decode prog_8_method_29_code 65 = .ok (.iload_n 2, 1) := by decide +kernel
theorem dR_ask_66 : decode prog_8_method_29_code 66 = .ok (.invokevirtual 169, 3) := by decide +kernel
theorem dR_ask_69 : decode prog_8_method_29_code 69 = .ok (.aload_n 0, 1) := by decide +kernel
theorem dR_ask_70 : decode prog_8_method_29_code 70 = .ok (.iconst 1, 1) := by decide +kernel
theorem dR_ask_71 : decode prog_8_method_29_code 71 = .ok (.iload_n 1, 1) := by decide +kernel
theorem dR_ask_72 : decode prog_8_method_29_code 72 = .ok (.aload_n 0, 1) := by decide +kernel
theorem dR_ask_73 : decode prog_8_method_29_code 73 = .ok (.getfield 7, 3) := by decide +kernel
theorem dR_ask_76 : decode prog_8_method_29_code 76 = .ok (.iload_n 2, 1) := by decide +kernel
theorem dR_ask_77 : decode prog_8_method_29_code 77 = .ok (.iaload, 1) := by decide +kernel
theorem dR_ask_78 : decode prog_8_method_29_code 78 = .ok (.iload_n 2, 1) := by decide +kernel
theorem dR_ask_79 : decode prog_8_method_29_code 79 = .ok (.aload_n 0, 1) := by decide +kernel
theorem dR_ask_80 : decode prog_8_method_29_code 80 = .ok (.getfield 65, 3) := by decide +kernel
theorem dR_ask_83 : decode prog_8_method_29_code 83 = .ok (.iload 4, 2) := by decide +kernel
theorem dR_ask_85 : decode prog_8_method_29_code 85 = .ok (.iaload, 1) := by decide +kernel
theorem dR_ask_86 : decode prog_8_method_29_code 86 = .ok (.iconst 1, 1) := by decide +kernel
theorem dR_ask_87 : decode prog_8_method_29_code 87 = .ok (.if_icmp .ne 7, 3) := by decide +kernel
theorem dR_ask_90 : decode prog_8_method_29_code 90 = .ok (.iconst 1, 1) := by decide +kernel
theorem dR_ask_91 : decode prog_8_method_29_code 91 = .ok (.goto 4, 3) := by decide +kernel
theorem dR_ask_94 : decode prog_8_method_29_code 94 = .ok (.iconst 0, 1) := by decide +kernel
theorem dR_ask_95 : decode prog_8_method_29_code 95 = .ok (.invokevirtual 146, 3) := by decide +kernel
theorem dR_ask_98 : decode prog_8_method_29_code 98 = .ok (.pop, 1) := by decide +kernel
theorem dR_ask_99 : decode prog_8_method_29_code 99 = .ok (.return_, 1) := by decide +kernel
theorem dR_fetch_0 : decode prog_8_method_27_code 0 = .ok (.iconst 0, 1) := by decide +kernel
theorem dR_fetch_1 : decode prog_8_method_27_code 1 = .ok (.istore_n 3, 1) := by decide +kernel
theorem dR_fetch_2 : decode prog_8_method_27_code 2 = .ok (.iload_n 3, 1) := by decide +kernel
theorem dR_fetch_3 : decode prog_8_method_27_code 3 = .ok (.bipush 20, 2) := by decide +kernel
theorem dR_fetch_5 : decode prog_8_method_27_code 5 = .ok (.if_icmp .ge 16, 3) := by decide +kernel
theorem dR_fetch_8 : decode prog_8_method_27_code 8 = .ok (.aload_n 0, 1) := by decide +kernel
theorem dR_fetch_9 : decode prog_8_method_27_code 9 = .ok (.getfield 77, 3) := by decide +kernel
theorem dR_fetch_12 : decode prog_8_method_27_code 12 = .ok (.iload_n 3, 1) := by decide +kernel
theorem dR_fetch_13 : decode prog_8_method_27_code 13 = .ok (.iconst 0, 1) := by decide +kernel
theorem dR_fetch_14 : decode prog_8_method_27_code 14 = .ok (.bastore, 1) := by decide +kernel
theorem dR_fetch_15 : decode prog_8_method_27_code 15 = .ok (.iinc 3 1, 3) := by decide +kernel
theorem dR_fetch_18 : decode prog_8_method_27_code 18 = .ok (.goto (-16), 3) := by decide +kernel
theorem dR_fetch_21 : decode prog_8_method_27_code 21 = .ok (.iconst 0, 1) := by decide +kernel
theorem dR_fetch_22 : decode prog_8_method_27_code 22 = .ok (.istore_n 3, 1) := by decide +kernel
theorem dR_fetch_23 : decode prog_8_method_27_code 23 = .ok (.iload_n 3, 1) := by decide +kernel
theorem dR_fetch_24 : decode prog_8_method_27_code 24 = .ok (.aload_n 0, 1) := by decide +kernel
theorem dR_fetch_25 : decode prog_8_method_27_code 25 = .ok (.getfield 35, 3) := by decide +kernel
theorem dR_fetch_28 : decode prog_8_method_27_code 28 = .ok (.iload_n 2, 1) := by decide +kernel
theorem dR_fetch_29 : decode prog_8_method_27_code 29 = .ok (.iaload, 1) := by decide +kernel
theorem dR_fetch_30 : decode prog_8_method_27_code 30 = .ok (.if_icmp .ge 27, 3) := by decide +kernel
theorem dR_fetch_33 : decode prog_8_method_27_code 33 = .ok (.aload_n 0, 1) := by decide +kernel
theorem dR_fetch_34 : decode prog_8_method_27_code 34 = .ok (.getfield 77, 3) := by decide +kernel
theorem dR_fetch_37 : decode prog_8_method_27_code 37 = .ok (.aload_n 0, 1) := by decide +kernel
theorem dR_fetch_38 : decode prog_8_method_27_code 38 = .ok (.getfield 41, 3) := by decide +kernel
theorem dR_fetch_41 : decode prog_8_method_27_code 41 = .ok (.iconst 4, 1) := by decide +kernel
theorem dR_fetch_42 : decode prog_8_method_27_code 42 = .ok (.iload_n 2, 1) := by decide +kernel
theorem dR_fetch_43 : decode prog_8_method_27_code 43 = .ok (.imul, 1) := by decide +kernel
theorem dR_fetch_44 : decode prog_8_method_27_code 44 = .ok (.iload_n 3, 1) := by decide +kernel
theorem dR_fetch_45 : decode prog_8_method_27_code 45 = .ok (.iadd, 1) := by decide +kernel
theorem dR_fetch_46 : decode prog_8_method_27_code 46 = .ok (.iaload, 1) := by decide +kernel
theorem dR_fetch_47 : decode prog_8_method_27_code 47 = .ok (.iconst 4, 1) := by decide +kernel
theorem dR_fetch_48 : decode prog_8_method_27_code 48 = .ok (.idiv, 1) := by decide +kernel
theorem dR_fetch_49 : decode prog_8_method_27_code 49 = .ok (.iconst 1, 1) := by decide +kernel
theorem dR_fetch_50 : decode prog_8_method_27_code 50 = .ok (.bastore, 1) := by decide +kernel
theorem dR_fetch_51 : decode prog_8_method_27_code 51 = .ok (.iinc 3 1, 3) := by decide +kernel
theorem dR_fetch_54 : decode prog_8_method_27_code 54 = .ok (.goto (-31), 3) := by decide +kernel
theorem dR_fetch_57 : decode prog_8_method_27_code 57 = .ok (.iconst 1, 1) := by decide +kernel
theorem dR_fetch_58 : decode prog_8_method_27_code 58 = .ok (.istore_n 3, 1) := by decide +kernel
theorem dR_fetch_59 : decode prog_8_method_27_code 59 = .ok (.iconst 0, 1) := by decide +kernel
theorem dR_fetch_60 : decode prog_8_method_27_code 60 = .ok (.istore 4, 2) := by decide +kernel
theorem dR_fetch_62 : decode prog_8_method_27_code 62 = .ok (.iload 4, 2) := by decide +kernel
theorem dR_fetch_64 : decode prog_8_method_27_code 64 = .ok (.bipush 21, 2) := by decide +kernel
theorem dR_fetch_66 : decode prog_8_method_27_code 66 = .ok (.if_icmp .ge 114, 3) := by decide +kernel
theorem dR_fetch_69 : decode prog_8_method_27_code 69 = .ok (.iload_n 3, 1) := by decide +kernel
theorem dR_fetch_70 : decode prog_8_method_27_code 70 = .ok (.ifCond .eq 110, 3) := by decide +kernel
theorem dR_fetch_73 : decode prog_8_method_27_code 73 = .ok (.iconst 0, 1) := by decide +kernel
theorem dR_fetch_74 : decode prog_8_method_27_code 74 = .ok (.istore_n 3, 1) := by decide +kernel
theorem dR_fetch_75 : decode prog_8_method_27_code 75 = .ok (.iconst 0, 1) := by decide +kernel
theorem dR_fetch_76 : decode prog_8_method_27_code 76 = .ok (.istore 5, 2) := by decide +kernel
theorem dR_fetch_78 : decode prog_8_method_27_code 78 = .ok (.iload 5, 2) := by decide +kernel
theorem dR_fetch_80 : decode prog_8_method_27_code 80 = .ok (.bipush 80, 2) := by decide +kernel
theorem dR_fetch_82 : decode prog_8_method_27_code 82 = .ok (.if_icmp .ge 92, 3) := by decide +kernel
theorem dR_fetch_85 : decode prog_8_method_27_code 85 = .ok (.iload 5, 2) := by decide +kernel
theorem dR_fetch_87 : decode prog_8_method_27_code 87 = .ok (.iconst 4, 1) := by decide +kernel
theorem dR_fetch_88 : decode prog_8_method_27_code 88 = .ok (.idiv, 1) := by decide +kernel
theorem dR_fetch_89 : decode prog_8_method_27_code 89 = .ok (.istore 6, 2) := by decide +kernel
theorem dR_fetch_91 : decode prog_8_method_27_code 91 = .ok (.aload_n 0, 1) := by decide +kernel
theorem dR_fetch_92 : decode prog_8_method_27_code 92 = .ok (.getfield 77, 3) := by decide +kernel
theorem dR_fetch_95 : decode prog_8_method_27_code 95 = .ok (.iload 6, 2) := by decide +kernel
theorem dR_fetch_97 : decode prog_8_method_27_code 97 = .ok (.baload, 1) := by decide +kernel
theorem dR_fetch_98 : decode prog_8_method_27_code 98 = .ok (.ifCond .eq 21, 3) := by decide +kernel
theorem dR_fetch_101 : decode prog_8_method_27_code 101 = .ok (.iload 5, 2) := by decide +kernel
theorem dR_fetch_103 : decode prog_8_method_27_code 103 = .ok (.iconst 4, 1) := by decide +kernel
theorem dR_fetch_104 : decode prog_8_method_27_code 104 = .ok (.irem, 1) := by decide +kernel
theorem dR_fetch_105 : decode prog_8_method_27_code 105 = .ok (.aload_n 0, 1) := by decide +kernel
theorem dR_fetch_106 : decode prog_8_method_27_code 106 = .ok (.getfield 35, 3) := by decide +kernel
theorem dR_fetch_109 : decode prog_8_method_27_code 109 = .ok (.iload 6, 2) := by decide +kernel
theorem dR_fetch_111 : decode prog_8_method_27_code 111 = .ok (.iaload, 1) := by decide +kernel
theorem dR_fetch_112 : decode prog_8_method_27_code 112 = .ok (.if_icmp .ge 7, 3) := by decide +kernel
theorem dR_fetch_115 : decode prog_8_method_27_code 115 = .ok (.iconst 1, 1) := by decide +kernel
theorem dR_fetch_116 : decode prog_8_method_27_code 116 = .ok (.goto 4, 3) := by decide +kernel
theorem dR_fetch_119 : decode prog_8_method_27_code 119 = .ok (.iconst 0, 1) := by decide +kernel
theorem dR_fetch_120 : decode prog_8_method_27_code 120 = .ok (.istore 7, 2) := by decide +kernel
theorem dR_fetch_122 : decode prog_8_method_27_code 122 = .ok (.iload 7, 2) := by decide +kernel
theorem dR_fetch_124 : decode prog_8_method_27_code 124 = .ok (.ifCond .eq 15, 3) := by decide +kernel
theorem dR_fetch_127 : decode prog_8_method_27_code 127 = .ok (.aload_n 0, 1) := by decide +kernel
theorem dR_fetch_128 : decode prog_8_method_27_code 128 = .ok (.getfield 41, 3) := by decide +kernel
theorem dR_fetch_131 : decode prog_8_method_27_code 131 = .ok (.iload 5, 2) := by decide +kernel
theorem dR_fetch_133 : decode prog_8_method_27_code 133 = .ok (.iaload, 1) := by decide +kernel
theorem dR_fetch_134 : decode prog_8_method_27_code 134 = .ok (.iconst 4, 1) := by decide +kernel
theorem dR_fetch_135 : decode prog_8_method_27_code 135 = .ok (.idiv, 1) := by decide +kernel
theorem dR_fetch_136 : decode prog_8_method_27_code 136 = .ok (.goto 5, 3) := by decide +kernel
theorem dR_fetch_139 : decode prog_8_method_27_code 139 = .ok (.iload 6, 2) := by decide +kernel
theorem dR_fetch_141 : decode prog_8_method_27_code 141 = .ok (.istore 8, 2) := by decide +kernel
theorem dR_fetch_143 : decode prog_8_method_27_code 143 = .ok (.iload 7, 2) := by decide +kernel
theorem dR_fetch_145 : decode prog_8_method_27_code 145 = .ok (.ifCond .eq 23, 3) := by decide +kernel
theorem dR_fetch_148 : decode prog_8_method_27_code 148 = .ok (.aload_n 0, 1) := by decide +kernel
theorem dR_fetch_149 : decode prog_8_method_27_code 149 = .ok (.getfield 77, 3) := by decide +kernel
theorem dR_fetch_152 : decode prog_8_method_27_code 152 = .ok (.iload 8, 2) := by decide +kernel
theorem dR_fetch_154 : decode prog_8_method_27_code 154 = .ok (.baload, 1) := by decide +kernel
theorem dR_fetch_155 : decode prog_8_method_27_code 155 = .ok (.ifCond .ne 13, 3) := by decide +kernel
theorem dR_fetch_158 : decode prog_8_method_27_code 158 = .ok (.aload_n 0, 1) := by decide +kernel
theorem dR_fetch_159 : decode prog_8_method_27_code 159 = .ok (.getfield 77, 3) := by decide +kernel
theorem dR_fetch_162 : decode prog_8_method_27_code 162 = .ok (.iload 8, 2) := by decide +kernel
theorem dR_fetch_164 : decode prog_8_method_27_code 164 = .ok (.iconst 1, 1) := by decide +kernel
theorem dR_fetch_165 : decode prog_8_method_27_code 165 = .ok (.bastore, 1) := by decide +kernel
theorem dR_fetch_166 : decode prog_8_method_27_code 166 = .ok (.iconst 1, 1) := by decide +kernel
theorem dR_fetch_167 : decode prog_8_method_27_code 167 = .ok (.istore_n 3, 1) := by decide +kernel
theorem dR_fetch_168 : decode prog_8_method_27_code 168 = .ok (.iinc 5 1, 3) := by decide +kernel
theorem dR_fetch_171 : decode prog_8_method_27_code 171 = .ok (.goto (-93), 3) := by decide +kernel
theorem dR_fetch_174 : decode prog_8_method_27_code 174 = .ok (.iinc 4 1, 3) := by decide +kernel
theorem dR_fetch_177 : decode prog_8_method_27_code 177 = .ok (.goto (-115), 3) := by decide +kernel
theorem dR_fetch_180 : decode prog_8_method_27_code 180 = .ok (.iconst 0, 1) := by decide +kernel
theorem dR_fetch_181 : decode prog_8_method_27_code 181 = .ok (.istore 4, 2) := by decide +kernel
theorem dR_fetch_183 : decode prog_8_method_27_code 183 = .ok (.iload 4, 2) := by decide +kernel
theorem dR_fetch_185 : decode prog_8_method_27_code 185 = .ok (.bipush 20, 2) := by decide +kernel
theorem dR_fetch_187 : decode prog_8_method_27_code 187 = .ok (.if_icmp .ge 57, 3) := by decide +kernel
theorem dR_fetch_190 : decode prog_8_method_27_code 190 = .ok (.aload_n 0, 1) := by decide +kernel
theorem dR_fetch_191 : decode prog_8_method_27_code 191 = .ok (.getfield 77, 3) := by decide +kernel
theorem dR_fetch_194 : decode prog_8_method_27_code 194 = .ok (.iload 4, 2) := by decide +kernel
theorem dR_fetch_196 : decode prog_8_method_27_code 196 = .ok (.baload, 1) := by decide +kernel
theorem dR_fetch_197 : decode prog_8_method_27_code 197 = .ok (.ifCond .eq 41, 3) := by decide +kernel
theorem dR_fetch_200 : decode prog_8_method_27_code 200 = .ok (.aload_n 0, 1) := by decide +kernel
theorem dR_fetch_201 : decode prog_8_method_27_code 201 = .ok (.getfield 62, 3) := by decide +kernel
theorem dR_fetch_204 : decode prog_8_method_27_code 204 = .ok (.bipush 20, 2) := by decide +kernel
theorem dR_fetch_206 : decode prog_8_method_27_code 206 = .ok (.iload_n 1, 1) := by decide +kernel
theorem dR_fetch_207 : decode prog_8_method_27_code 207 = .ok (.imul, 1) := by decide +kernel
theorem dR_fetch_208 : decode prog_8_method_27_code 208 = .ok (.iload 4, 2) := by decide +kernel
theorem dR_fetch_210 : decode prog_8_method_27_code 210 = .ok (.iadd, 1) := by decide +kernel
theorem dR_fetch_211 : decode prog_8_method_27_code 211 = .ok (.iaload, 1) := by decide +kernel
theorem dR_fetch_212 : decode prog_8_method_27_code 212 = .ok (.ifCond .ne 26, 3) := by decide +kernel
theorem dR_fetch_215 : decode prog_8_method_27_code 215 = .ok (.aload_n 0, 1) := by decide +kernel
theorem dR_fetch_216 : decode prog_8_method_27_code 216 = .ok (.getfield 62, 3) := by decide +kernel
theorem dR_fetch_219 : decode prog_8_method_27_code 219 = .ok (.bipush 20, 2) := by decide +kernel
theorem dR_fetch_221 : decode prog_8_method_27_code 221 = .ok (.iload_n 1, 1) := by decide +kernel
theorem dR_fetch_222 : decode prog_8_method_27_code 222 = .ok (.imul, 1) := by decide +kernel
theorem dR_fetch_223 : decode prog_8_method_27_code 223 = .ok (.iload 4, 2) := by decide +kernel
theorem dR_fetch_225 : decode prog_8_method_27_code 225 = .ok (.iadd, 1) := by decide +kernel
theorem dR_fetch_226 : decode prog_8_method_27_code 226 = .ok (.iconst 1, 1) := by decide +kernel
theorem dR_fetch_227 : decode prog_8_method_27_code 227 = .ok (.iastore, 1) := by decide +kernel
theorem dR_fetch_228 : decode prog_8_method_27_code 228 = .ok (.aload_n 0, 1) := by decide +kernel
theorem dR_fetch_229 : decode prog_8_method_27_code 229 = .ok (.getfield 68, 3) := by decide +kernel
theorem dR_fetch_232 : decode prog_8_method_27_code 232 = .ok (.iload_n 1, 1) := by decide +kernel
theorem dR_fetch_233 : decode prog_8_method_27_code 233 = .ok (.dup2, 1) := by decide +kernel
theorem dR_fetch_234 : decode prog_8_method_27_code 234 = .ok (.iaload, 1) := by decide +kernel
theorem dR_fetch_235 : decode prog_8_method_27_code 235 = .ok (.iconst 1, 1) := by decide +kernel
theorem dR_fetch_236 : decode prog_8_method_27_code 236 = .ok (.iadd, 1) := by decide +kernel
theorem dR_fetch_237 : decode prog_8_method_27_code 237 = .ok (.iastore, 1) := by decide +kernel
theorem dR_fetch_238 : decode prog_8_method_27_code 238 = .ok (.iinc 4 1, 3) := by decide +kernel
theorem dR_fetch_241 : decode prog_8_method_27_code 241 = .ok (.goto (-58), 3) := by decide +kernel
theorem dR_fetch_244 : decode prog_8_method_27_code 244 = .ok (.return_, 1) := by decide +kernel
theorem dR_reply_0 : decode prog_8_method_30_code 0 = .ok (.aload_n 0, 1) := by decide +kernel
theorem dR_reply_1 : decode prog_8_method_30_code 1 = .ok (.getfield 22, 3) := by decide +kernel
theorem dR_reply_4 : decode prog_8_method_30_code 4 = .ok (.iload_n 2, 1) := by decide +kernel
theorem dR_reply_5 : decode prog_8_method_30_code 5 = .ok (.iaload, 1) := by decide +kernel
theorem dR_reply_6 : decode prog_8_method_30_code 6 = .ok (.iconst 1, 1) := by decide +kernel
theorem dR_reply_7 : decode prog_8_method_30_code 7 = .ok (.if_icmp .ne 17, 3) := by decide +kernel
theorem dR_reply_10 : decode prog_8_method_30_code 10 = .ok (.aload_n 0, 1) := by decide +kernel
theorem dR_reply_11 : decode prog_8_method_30_code 11 = .ok (.getfield 29, 3) := by decide +kernel
theorem dR_reply_14 : decode prog_8_method_30_code 14 = .ok (.iload_n 2, 1) := by decide +kernel
theorem dR_reply_15 : decode prog_8_method_30_code 15 = .ok (.iaload, 1) := by decide +kernel
theorem dR_reply_16 : decode prog_8_method_30_code 16 = .ok (.iload_n 1, 1) := by decide +kernel
theorem dR_reply_17 : decode prog_8_method_30_code 17 = .ok (.ishr, 1) := by decide +kernel
theorem dR_reply_18 : decode prog_8_method_30_code 18 = .ok (.iconst 1, 1) := by decide +kernel
theorem dR_reply_19 : decode prog_8_method_30_code 19 = .ok (.iand, 1) := by decide +kernel
theorem dR_reply_20 : decode prog_8_method_30_code 20 = .ok (.iconst 1, 1) := by decide +kernel
theorem dR_reply_21 : decode prog_8_method_30_code 21 = .ok (.if_icmp .ne 5, 3) := by decide +kernel
theorem dR_reply_24 : decode prog_8_method_30_code 24 = .ok (.iconst 1, 1) := by decide +kernel
theorem dR_reply_25 : decode prog_8_method_30_code 25 = .ok (.ireturn, 1) := by decide +kernel
theorem dR_reply_26 : decode prog_8_method_30_code 26 = .ok (.iload_n 3, 1) := by decide +kernel
theorem dR_reply_27 : decode prog_8_method_30_code 27 = .ok (.ifCond .ne 17, 3) := by decide +kernel
theorem dR_reply_30 : decode prog_8_method_30_code 30 = .ok (.iload 4, 2) := by decide +kernel
theorem dR_reply_32 : decode prog_8_method_30_code 32 = .ok (.ifCond .ne 10, 3) := by decide +kernel
theorem dR_reply_35 : decode prog_8_method_30_code 35 = .ok (.aload_n 0, 1) := by decide +kernel
theorem dR_reply_36 : decode prog_8_method_30_code 36 = .ok (.getfield 22, 3) := by decide +kernel
theorem dR_reply_39 : decode prog_8_method_30_code 39 = .ok (.iload_n 2, 1) := by decide +kernel
theorem dR_reply_40 : decode prog_8_method_30_code 40 = .ok (.iconst 4, 1) := by decide +kernel
theorem dR_reply_41 : decode prog_8_method_30_code 41 = .ok (.iastore, 1) := by decide +kernel
theorem dR_reply_42 : decode prog_8_method_30_code 42 = .ok (.iconst 2, 1) := by decide +kernel
theorem dR_reply_43 : decode prog_8_method_30_code 43 = .ok (.ireturn, 1) := by decide +kernel
theorem dR_reply_44 : decode prog_8_method_30_code 44 = .ok (.aload_n 0, 1) := by decide +kernel
theorem dR_reply_45 : decode prog_8_method_30_code 45 = .ok (.getfield 29, 3) := by decide +kernel
theorem dR_reply_48 : decode prog_8_method_30_code 48 = .ok (.iload_n 2, 1) := by decide +kernel
theorem dR_reply_49 : decode prog_8_method_30_code 49 = .ok (.iaload, 1) := by decide +kernel
theorem dR_reply_50 : decode prog_8_method_30_code 50 = .ok (.iconst 1, 1) := by decide +kernel
theorem dR_reply_51 : decode prog_8_method_30_code 51 = .ok (.iload_n 1, 1) := by decide +kernel
theorem dR_reply_52 : decode prog_8_method_30_code 52 = .ok (.ishl, 1) := by decide +kernel
theorem dR_reply_53 : decode prog_8_method_30_code 53 = .ok (.ior, 1) := by decide +kernel
theorem dR_reply_54 : decode prog_8_method_30_code 54 = .ok (.istore 5, 2) := by decide +kernel
theorem dR_reply_56 : decode prog_8_method_30_code 56 = .ok (.aload_n 0, 1) := by decide +kernel
theorem dR_reply_57 : decode prog_8_method_30_code 57 = .ok (.iload_n 2, 1) := by decide +kernel
theorem dR_reply_58 : decode prog_8_method_30_code 58 = .ok (.invokevirtual 133, 3) := by decide +kernel
theorem dR_reply_61 : decode prog_8_method_30_code 61 = .ok (.iload 5, 2) := by decide +kernel
theorem dR_reply_63 : decode prog_8_method_30_code 63 = .ok (.iconst (-1), 1) := by decide +kernel
theorem dR_reply_64 : decode prog_8_method_30_code 64 = .ok (.ixor, 1) := by decide +kernel
theorem dR_reply_65 : decode prog_8_method_30_code 65 = .ok (.iand, 1) := by decide +kernel
theorem dR_reply_66 : decode prog_8_method_30_code 66 = .ok (.ifCond .ne 7, 3) := by decide +kernel
theorem dR_reply_69 : decode prog_8_method_30_code 69 = .ok (.iconst 1, 1) := by decide +kernel
theorem dR_reply_70 : decode prog_8_method_30_code 70 = .ok (.goto 4, 3) := by decide +kernel
theorem dR_reply_73 : decode prog_8_method_30_code 73 = .ok (.iconst 0, 1) := by decide +kernel
theorem dR_reply_74 : decode prog_8_method_30_code 74 = .ok (.istore 6, 2) := by decide +kernel
theorem dR_reply_76 : decode prog_8_method_30_code 76 = .ok (.iload 6, 2) := by decide +kernel
theorem dR_reply_78 : decode prog_8_method_30_code 78 = .ok (.ifCond .eq 23, 3) := by decide +kernel
theorem dR_reply_81 : decode prog_8_method_30_code 81 = .ok (.aload_n 0, 1) := by decide +kernel
theorem dR_reply_82 : decode prog_8_method_30_code 82 = .ok (.iconst 2, 1) := by decide +kernel
theorem dR_reply_83 : decode prog_8_method_30_code 83 = .ok (.aload_n 0, 1) := by decide +kernel
theorem dR_reply_84 : decode prog_8_method_30_code 84 = .ok (.getfield 7, 3) := by decide +kernel
theorem dR_reply_87 : decode prog_8_method_30_code 87 = .ok (.iload_n 2, 1) := by decide +kernel
theorem dR_reply_88 : decode prog_8_method_30_code 88 = .ok (.iaload, 1) := by decide +kernel
theorem dR_reply_89 : decode prog_8_method_30_code 89 = .ok (.aload_n 0, 1) := by decide +kernel
theorem dR_reply_90 : decode prog_8_method_30_code 90 = .ok (.getfield 13, 3) := by decide +kernel
theorem dR_reply_93 : decode prog_8_method_30_code 93 = .ok (.iload_n 2, 1) := by decide +kernel
theorem dR_reply_94 : decode prog_8_method_30_code 94 = .ok (.iaload, 1) := by decide +kernel
theorem dR_reply_95 : decode prog_8_method_30_code 95 = .ok (.iload_n 2, 1) := by decide +kernel
theorem dR_reply_96 : decode prog_8_method_30_code 96 = .ok (.iconst 0, 1) := by decide +kernel
theorem dR_reply_97 : decode prog_8_method_30_code 97 = .ok (.invokevirtual 146, 3) := by decide +kernel
theorem dR_reply_100 : decode prog_8_method_30_code 100 = .ok (.pop, 1) := by decide +kernel
theorem dR_reply_101 : decode prog_8_method_30_code 101 = .ok (.iload 4, 2) := by decide +kernel
theorem dR_reply_103 : decode prog_8_method_30_code 103 = .ok (.ifCond .ne 27, 3) := by decide +kernel
theorem dR_reply_106 : decode prog_8_method_30_code 106 = .ok (.aload_n 0, 1) := by decide +kernel
theorem dR_reply_107 : decode prog_8_method_30_code 107 = .ok (.getfield 29, 3) := by decide +kernel
theorem dR_reply_110 : decode prog_8_method_30_code 110 = .ok (.iload_n 2, 1) := by decide +kernel
theorem dR_reply_111 : decode prog_8_method_30_code 111 = .ok (.iload 5, 2) := by decide +kernel
theorem dR_reply_113 : decode prog_8_method_30_code 113 = .ok (.iastore, 1) := by decide +kernel
theorem dR_reply_114 : decode prog_8_method_30_code 114 = .ok (.aload_n 0, 1) := by decide +kernel
theorem dR_reply_115 : decode prog_8_method_30_code 115 = .ok (.getfield 22, 3) := by decide +kernel
theorem dR_reply_118 : decode prog_8_method_30_code 118 = .ok (.iload_n 2, 1) := by decide +kernel
theorem dR_reply_119 : decode prog_8_method_30_code 119 = .ok (.iload 6, 2) := by decide +kernel
theorem dR_reply_121 : decode prog_8_method_30_code 121 = .ok (.ifCond .eq 7, 3) := by decide +kernel
theorem dR_reply_124 : decode prog_8_method_30_code 124 = .ok (.iconst 2, 1) := by decide +kernel
theorem dR_reply_125 : decode prog_8_method_30_code 125 = .ok (.goto 4, 3) := by decide +kernel
theorem dR_reply_128 : decode prog_8_method_30_code 128 = .ok (.iconst 1, 1) := by decide +kernel
theorem dR_reply_129 : decode prog_8_method_30_code 129 = .ok (.iastore, 1) := by decide +kernel
theorem dR_reply_130 : decode prog_8_method_30_code 130 = .ok (.iconst 2, 1) := by decide +kernel
theorem dR_reply_131 : decode prog_8_method_30_code 131 = .ok (.ireturn, 1) := by decide +kernel
theorem dR_notarise_0 : decode prog_8_method_32_code 0 = .ok (.aload_n 0, 1) := by decide +kernel
theorem dR_notarise_1 : decode prog_8_method_32_code 1 = .ok (.getfield 32, 3) := by decide +kernel
theorem dR_notarise_4 : decode prog_8_method_32_code 4 = .ok (.iload_n 1, 1) := by decide +kernel
theorem dR_notarise_5 : decode prog_8_method_32_code 5 = .ok (.iaload, 1) := by decide +kernel
theorem dR_notarise_6 : decode prog_8_method_32_code 6 = .ok (.ifCond .ne 58, 3) := by decide +kernel
theorem dR_notarise_9 : decode prog_8_method_32_code 9 = .ok (.aload_n 0, 1) := by decide +kernel
theorem dR_notarise_10 : decode prog_8_method_32_code 10 = .ok (.getfield 32, 3) := by decide +kernel
theorem dR_notarise_13 : decode prog_8_method_32_code 13 = .ok (.iload_n 1, 1) := by decide +kernel
theorem dR_notarise_14 : decode prog_8_method_32_code 14 = .ok (.aload_n 0, 1) := by decide +kernel
theorem dR_notarise_15 : decode prog_8_method_32_code 15 = .ok (.iload_n 1, 1) := by decide +kernel
theorem dR_notarise_16 : decode prog_8_method_32_code 16 = .ok (.invokevirtual 178, 3) := by decide +kernel
theorem dR_notarise_19 : decode prog_8_method_32_code 19 = .ok (.iastore, 1) := by decide +kernel
theorem dR_notarise_20 : decode prog_8_method_32_code 20 = .ok (.iconst 0, 1) := by decide +kernel
theorem dR_notarise_21 : decode prog_8_method_32_code 21 = .ok (.istore_n 2, 1) := by decide +kernel
theorem dR_notarise_22 : decode prog_8_method_32_code 22 = .ok (.iload_n 2, 1) := by decide +kernel
theorem dR_notarise_23 : decode prog_8_method_32_code 23 = .ok (.aload_n 0, 1) := by decide +kernel
theorem dR_notarise_24 : decode prog_8_method_32_code 24 = .ok (.getfield 35, 3) := by decide +kernel
theorem dR_notarise_27 : decode prog_8_method_32_code 27 = .ok (.iload_n 1, 1) := by decide +kernel
theorem dR_notarise_28 : decode prog_8_method_32_code 28 = .ok (.iaload, 1) := by decide +kernel
theorem dR_notarise_29 : decode prog_8_method_32_code 29 = .ok (.if_icmp .ge 35, 3) := by decide +kernel
theorem dR_notarise_32 : decode prog_8_method_32_code 32 = .ok (.aload_n 0, 1) := by decide +kernel
theorem dR_notarise_33 : decode prog_8_method_32_code 33 = .ok (.getfield 32, 3) := by decide +kernel
theorem dR_notarise_36 : decode prog_8_method_32_code 36 = .ok (.iload_n 1, 1) := by decide +kernel
theorem dR_notarise_37 : decode prog_8_method_32_code 37 = .ok (.iaload, 1) := by decide +kernel
theorem dR_notarise_38 : decode prog_8_method_32_code 38 = .ok (.iconst 1, 1) := by decide +kernel
theorem dR_notarise_39 : decode prog_8_method_32_code 39 = .ok (.if_icmp .ne 25, 3) := by decide +kernel
theorem dR_notarise_42 : decode prog_8_method_32_code 42 = .ok (.aload_n 0, 1) := by decide +kernel
theorem dR_notarise_43 : decode prog_8_method_32_code 43 = .ok (.getfield 59, 3) := by decide +kernel
theorem dR_notarise_46 : decode prog_8_method_32_code 46 = .ok (.aload_n 0, 1) := by decide +kernel
theorem dR_notarise_47 : decode prog_8_method_32_code 47 = .ok (.getfield 41, 3) := by decide +kernel
theorem dR_notarise_50 : decode prog_8_method_32_code 50 = .ok (.iconst 4, 1) := by decide +kernel
theorem dR_notarise_51 : decode prog_8_method_32_code 51 = .ok (.iload_n 1, 1) := by decide +kernel
theorem dR_notarise_52 : decode prog_8_method_32_code 52 = .ok (.imul, 1) := by decide +kernel
theorem dR_notarise_53 : decode prog_8_method_32_code 53 = .ok (.iload_n 2, 1) := by decide +kernel
theorem dR_notarise_54 : decode prog_8_method_32_code 54 = .ok (.iadd, 1) := by decide +kernel
theorem dR_notarise_55 : decode prog_8_method_32_code 55 = .ok (.iaload, 1) := by decide +kernel
theorem dR_notarise_56 : decode prog_8_method_32_code 56 = .ok (.iload_n 1, 1) := by decide +kernel
theorem dR_notarise_57 : decode prog_8_method_32_code 57 = .ok (.iastore, 1) := by decide +kernel
theorem dR_notarise_58 : decode prog_8_method_32_code 58 = .ok (.iinc 2 1, 3) := by decide +kernel
theorem dR_notarise_61 : decode prog_8_method_32_code 61 = .ok (.goto (-39), 3) := by decide +kernel
theorem dR_notarise_64 : decode prog_8_method_32_code 64 = .ok (.aload_n 0, 1) := by decide +kernel
theorem dR_notarise_65 : decode prog_8_method_32_code 65 = .ok (.iconst 3, 1) := by decide +kernel
theorem dR_notarise_66 : decode prog_8_method_32_code 66 = .ok (.aload_n 0, 1) := by decide +kernel
theorem dR_notarise_67 : decode prog_8_method_32_code 67 = .ok (.getfield 13, 3) := by decide +kernel
theorem dR_notarise_70 : decode prog_8_method_32_code 70 = .ok (.iload_n 1, 1) := by decide +kernel
theorem dR_notarise_71 : decode prog_8_method_32_code 71 = .ok (.iaload, 1) := by decide +kernel
theorem dR_notarise_72 : decode prog_8_method_32_code 72 = .ok (.aload_n 0, 1) := by decide +kernel
theorem dR_notarise_73 : decode prog_8_method_32_code 73 = .ok (.getfield 7, 3) := by decide +kernel
theorem dR_notarise_76 : decode prog_8_method_32_code 76 = .ok (.iload_n 1, 1) := by decide +kernel
theorem dR_notarise_77 : decode prog_8_method_32_code 77 = .ok (.iaload, 1) := by decide +kernel
theorem dR_notarise_78 : decode prog_8_method_32_code 78 = .ok (.iload_n 1, 1) := by decide +kernel
theorem dR_notarise_79 : decode prog_8_method_32_code 79 = .ok (.aload_n 0, 1) := by decide +kernel
theorem dR_notarise_80 : decode prog_8_method_32_code 80 = .ok (.getfield 32, 3) := by decide +kernel
theorem dR_notarise_83 : decode prog_8_method_32_code 83 = .ok (.iload_n 1, 1) := by decide +kernel
theorem dR_notarise_84 : decode prog_8_method_32_code 84 = .ok (.iaload, 1) := by decide +kernel
theorem dR_notarise_85 : decode prog_8_method_32_code 85 = .ok (.invokevirtual 146, 3) := by decide +kernel
theorem dR_notarise_88 : decode prog_8_method_32_code 88 = .ok (.pop, 1) := by decide +kernel
theorem dR_notarise_89 : decode prog_8_method_32_code 89 = .ok (.return_, 1) := by decide +kernel
theorem dR_judge_0 : decode prog_8_method_31_code 0 = .ok (.aload_n 0, 1) := by decide +kernel
theorem dR_judge_1 : decode prog_8_method_31_code 1 = .ok (.getfield 172, 3) := by decide +kernel
theorem dR_judge_4 : decode prog_8_method_31_code 4 = .ok (.aload_n 0, 1) := by decide +kernel
theorem dR_judge_5 : decode prog_8_method_31_code 5 = .ok (.getfield 16, 3) := by decide +kernel
theorem dR_judge_8 : decode prog_8_method_31_code 8 = .ok (.iload_n 1, 1) := by decide +kernel
theorem dR_judge_9 : decode prog_8_method_31_code 9 = .ok (.iaload, 1) := by decide +kernel
theorem dR_judge_10 : decode prog_8_method_31_code 10 = .ok (.if_icmp .lt 16, 3) := by decide +kernel
theorem dR_judge_13 : decode prog_8_method_31_code 13 = .ok (.aload_n 0, 1) := by decide +kernel
theorem dR_judge_14 : decode prog_8_method_31_code 14 = .ok (.getfield 172, 3) := by decide +kernel
theorem dR_judge_17 : decode prog_8_method_31_code 17 = .ok (.aload_n 0, 1) := by decide +kernel
theorem dR_judge_18 : decode prog_8_method_31_code 18 = .ok (.getfield 19, 3) := by decide +kernel
theorem dR_judge_21 : decode prog_8_method_31_code 21 = .ok (.iload_n 1, 1) := by decide +kernel
theorem dR_judge_22 : decode prog_8_method_31_code 22 = .ok (.iaload, 1) := by decide +kernel
theorem dR_judge_23 : decode prog_8_method_31_code 23 = .ok (.if_icmp .lt 5, 3) := by decide +kernel
theorem dR_judge_26 : decode prog_8_method_31_code 26 = .ok (.iconst 2, 1) := by decide +kernel
theorem dR_judge_27 : decode prog_8_method_31_code 27 = .ok (.ireturn, 1) := by decide +kernel
theorem dR_judge_28 : decode prog_8_method_31_code 28 = .ok (.aload_n 0, 1) := by decide +kernel
theorem dR_judge_29 : decode prog_8_method_31_code 29 = .ok (.getfield 13, 3) := by decide +kernel
theorem dR_judge_32 : decode prog_8_method_31_code 32 = .ok (.iload_n 1, 1) := by decide +kernel
theorem dR_judge_33 : decode prog_8_method_31_code 33 = .ok (.iaload, 1) := by decide +kernel
theorem dR_judge_34 : decode prog_8_method_31_code 34 = .ok (.iconst 4, 1) := by decide +kernel
theorem dR_judge_35 : decode prog_8_method_31_code 35 = .ok (.if_icmp .ne 13, 3) := by decide +kernel
theorem dR_judge_38 : decode prog_8_method_31_code 38 = .ok (.aload_n 0, 1) := by decide +kernel
theorem dR_judge_39 : decode prog_8_method_31_code 39 = .ok (.iload_n 1, 1) := by decide +kernel
theorem dR_judge_40 : decode prog_8_method_31_code 40 = .ok (.invokevirtual 175, 3) := by decide +kernel
theorem dR_judge_43 : decode prog_8_method_31_code 43 = .ok (.ifCond .ne 5, 3) := by decide +kernel
theorem dR_judge_46 : decode prog_8_method_31_code 46 = .ok (.iconst 3, 1) := by decide +kernel
theorem dR_judge_47 : decode prog_8_method_31_code 47 = .ok (.ireturn, 1) := by decide +kernel
theorem dR_judge_48 : decode prog_8_method_31_code 48 = .ok (.iconst 0, 1) := by decide +kernel
theorem dR_judge_49 : decode prog_8_method_31_code 49 = .ok (.istore_n 2, 1) := by decide +kernel
theorem dR_judge_50 : decode prog_8_method_31_code 50 = .ok (.iload_n 2, 1) := by decide +kernel
theorem dR_judge_51 : decode prog_8_method_31_code 51 = .ok (.aload_n 0, 1) := by decide +kernel
theorem dR_judge_52 : decode prog_8_method_31_code 52 = .ok (.getfield 35, 3) := by decide +kernel
theorem dR_judge_55 : decode prog_8_method_31_code 55 = .ok (.iload_n 1, 1) := by decide +kernel
theorem dR_judge_56 : decode prog_8_method_31_code 56 = .ok (.iaload, 1) := by decide +kernel
theorem dR_judge_57 : decode prog_8_method_31_code 57 = .ok (.if_icmp .ge 29, 3) := by decide +kernel
theorem dR_judge_60 : decode prog_8_method_31_code 60 = .ok (.aload_n 0, 1) := by decide +kernel
theorem dR_judge_61 : decode prog_8_method_31_code 61 = .ok (.getfield 59, 3) := by decide +kernel
theorem dR_judge_64 : decode prog_8_method_31_code 64 = .ok (.aload_n 0, 1) := by decide +kernel
theorem dR_judge_65 : decode prog_8_method_31_code 65 = .ok (.getfield 41, 3) := by decide +kernel
theorem dR_judge_68 : decode prog_8_method_31_code 68 = .ok (.iconst 4, 1) := by decide +kernel
theorem dR_judge_69 : decode prog_8_method_31_code 69 = .ok (.iload_n 1, 1) := by decide +kernel
theorem dR_judge_70 : decode prog_8_method_31_code 70 = .ok (.imul, 1) := by decide +kernel
theorem dR_judge_71 : decode prog_8_method_31_code 71 = .ok (.iload_n 2, 1) := by decide +kernel
theorem dR_judge_72 : decode prog_8_method_31_code 72 = .ok (.iadd, 1) := by decide +kernel
theorem dR_judge_73 : decode prog_8_method_31_code 73 = .ok (.iaload, 1) := by decide +kernel
theorem dR_judge_74 : decode prog_8_method_31_code 74 = .ok (.iaload, 1) := by decide +kernel
theorem dR_judge_75 : decode prog_8_method_31_code 75 = .ok (.ifCond .lt 5, 3) := by decide +kernel
theorem dR_judge_78 : decode prog_8_method_31_code 78 = .ok (.iconst 4, 1) := by decide +kernel
theorem dR_judge_79 : decode prog_8_method_31_code 79 = .ok (.ireturn, 1) := by decide +kernel
theorem dR_judge_80 : decode prog_8_method_31_code 80 = .ok (.iinc 2 1, 3) := by decide +kernel
theorem dR_judge_83 : decode prog_8_method_31_code 83 = .ok (.goto (-33), 3) := by decide +kernel
theorem dR_judge_86 : decode prog_8_method_31_code 86 = .ok (.iconst 1, 1) := by decide +kernel
theorem dR_judge_87 : decode prog_8_method_31_code 87 = .ok (.ireturn, 1) := by decide +kernel
theorem dR_sound_0 : decode prog_8_method_24_code 0 = .ok (.aload_n 0, 1) := by decide +kernel
theorem dR_sound_1 : decode prog_8_method_24_code 1 = .ok (.iload_n 1, 1) := by decide +kernel
theorem dR_sound_2 : decode prog_8_method_24_code 2 = .ok (.invokevirtual 137, 3) := by decide +kernel
theorem dR_sound_5 : decode prog_8_method_24_code 5 = .ok (.ifCond .eq 24, 3) := by decide +kernel
theorem dR_sound_8 : decode prog_8_method_24_code 8 = .ok (.aload_n 0, 1) := by decide +kernel
theorem dR_sound_9 : decode prog_8_method_24_code 9 = .ok (.getfield 25, 3) := by decide +kernel
theorem dR_sound_12 : decode prog_8_method_24_code 12 = .ok (.iload_n 1, 1) := by decide +kernel
theorem dR_sound_13 : decode prog_8_method_24_code 13 = .ok (.baload, 1) := by decide +kernel
theorem dR_sound_14 : decode prog_8_method_24_code 14 = .ok (.ifCond .eq 11, 3) := by decide +kernel
theorem dR_sound_17 : decode prog_8_method_24_code 17 = .ok (.aload_n 0, 1) := by decide +kernel
theorem dR_sound_18 : decode prog_8_method_24_code 18 = .ok (.iload_n 1, 1) := by decide +kernel
theorem dR_sound_19 : decode prog_8_method_24_code 19 = .ok (.invokevirtual 140, 3) := by decide +kernel
theorem dR_sound_22 : decode prog_8_method_24_code 22 = .ok (.ifCond .eq 7, 3) := by decide +kernel
theorem dR_sound_25 : decode prog_8_method_24_code 25 = .ok (.iconst 1, 1) := by decide +kernel
theorem dR_sound_26 : decode prog_8_method_24_code 26 = .ok (.goto 4, 3) := by decide +kernel
theorem dR_sound_29 : decode prog_8_method_24_code 29 = .ok (.iconst 0, 1) := by decide +kernel
theorem dR_sound_30 : decode prog_8_method_24_code 30 = .ok (.ireturn, 1) := by decide +kernel
theorem dR_hear_0 : decode prog_8_method_34_code 0 = .ok (.aload_n 0, 1) := by decide +kernel
theorem dR_hear_1 : decode prog_8_method_34_code 1 = .ok (.getfield 22, 3) := by decide +kernel
theorem dR_hear_4 : decode prog_8_method_34_code 4 = .ok (.iload_n 1, 1) := by decide +kernel
theorem dR_hear_5 : decode prog_8_method_34_code 5 = .ok (.iaload, 1) := by decide +kernel
theorem dR_hear_6 : decode prog_8_method_34_code 6 = .ok (.iconst 1, 1) := by decide +kernel
theorem dR_hear_7 : decode prog_8_method_34_code 7 = .ok (.if_icmp .ne 5, 3) := by decide +kernel
theorem dR_hear_10 : decode prog_8_method_34_code 10 = .ok (.iconst 0, 1) := by decide +kernel
theorem dR_hear_11 : decode prog_8_method_34_code 11 = .ok (.ireturn, 1) := by decide +kernel
theorem dR_hear_12 : decode prog_8_method_34_code 12 = .ok (.aload_n 0, 1) := by decide +kernel
theorem dR_hear_13 : decode prog_8_method_34_code 13 = .ok (.getfield 22, 3) := by decide +kernel
theorem dR_hear_16 : decode prog_8_method_34_code 16 = .ok (.iload_n 1, 1) := by decide +kernel
theorem dR_hear_17 : decode prog_8_method_34_code 17 = .ok (.iaload, 1) := by decide +kernel
theorem dR_hear_18 : decode prog_8_method_34_code 18 = .ok (.iconst 2, 1) := by decide +kernel
theorem dR_hear_19 : decode prog_8_method_34_code 19 = .ok (.if_icmp .eq 5, 3) := by decide +kernel
theorem dR_hear_22 : decode prog_8_method_34_code 22 = .ok (.iconst 1, 1) := by decide +kernel
theorem dR_hear_23 : decode prog_8_method_34_code 23 = .ok (.ireturn, 1) := by decide +kernel
theorem dR_hear_24 : decode prog_8_method_34_code 24 = .ok (.aload_n 0, 1) := by decide +kernel
theorem dR_hear_25 : decode prog_8_method_34_code 25 = .ok (.iload_n 1, 1) := by decide +kernel
theorem dR_hear_26 : decode prog_8_method_34_code 26 = .ok (.invokevirtual 175, 3) := by decide +kernel
theorem dR_hear_29 : decode prog_8_method_34_code 29 = .ok (.istore 4, 2) := by decide +kernel
theorem dR_hear_31 : decode prog_8_method_34_code 31 = .ok (.iconst 0, 1) := by decide +kernel
theorem dR_hear_32 : decode prog_8_method_34_code 32 = .ok (.istore 5, 2) := by decide +kernel
theorem dR_hear_34 : decode prog_8_method_34_code 34 = .ok (.iload 5, 2) := by decide +kernel
theorem dR_hear_36 : decode prog_8_method_34_code 36 = .ok (.iconst 4, 1) := by decide +kernel
theorem dR_hear_37 : decode prog_8_method_34_code 37 = .ok (.if_icmp .ge 40, 3) := by decide +kernel
theorem dR_hear_40 : decode prog_8_method_34_code 40 = .ok (.iload_n 2, 1) := by decide +kernel
theorem dR_hear_41 : decode prog_8_method_34_code 41 = .ok (.iconst 1, 1) := by decide +kernel
theorem dR_hear_42 : decode prog_8_method_34_code 42 = .ok (.if_icmp .ne 35, 3) := by decide +kernel
theorem dR_hear_45 : decode prog_8_method_34_code 45 = .ok (.aload_n 0, 1) := by decide +kernel
theorem dR_hear_46 : decode prog_8_method_34_code 46 = .ok (.iload_n 1, 1) := by decide +kernel
theorem dR_hear_47 : decode prog_8_method_34_code 47 = .ok (.iload 5, 2) := by decide +kernel
theorem dR_hear_49 : decode prog_8_method_34_code 49 = .ok (.invokevirtual 181, 3) := by decide +kernel
theorem dR_hear_52 : decode prog_8_method_34_code 52 = .ok (.ifCond .eq 19, 3) := by decide +kernel
theorem dR_hear_55 : decode prog_8_method_34_code 55 = .ok (.aload_n 0, 1) := by decide +kernel
theorem dR_hear_56 : decode prog_8_method_34_code 56 = .ok (.iconst 4, 1) := by decide +kernel
theorem dR_hear_57 : decode prog_8_method_34_code 57 = .ok (.aload_n 0, 1) := by decide +kernel
theorem dR_hear_58 : decode prog_8_method_34_code 58 = .ok (.getfield 7, 3) := by decide +kernel
theorem dR_hear_61 : decode prog_8_method_34_code 61 = .ok (.iload_n 1, 1) := by decide +kernel
theorem dR_hear_62 : decode prog_8_method_34_code 62 = .ok (.iaload, 1) := by decide +kernel
theorem dR_hear_63 : decode prog_8_method_34_code 63 = .ok (.iload 5, 2) := by decide +kernel
theorem dR_hear_65 : decode prog_8_method_34_code 65 = .ok (.iload_n 1, 1) := by decide +kernel
theorem dR_hear_66 : decode prog_8_method_34_code 66 = .ok (.iconst 0, 1) := by decide +kernel
theorem dR_hear_67 : decode prog_8_method_34_code 67 = .ok (.invokevirtual 146, 3) := by decide +kernel
theorem dR_hear_70 : decode prog_8_method_34_code 70 = .ok (.pop, 1) := by decide +kernel
theorem dR_hear_71 : decode prog_8_method_34_code 71 = .ok (.iinc 5 1, 3) := by decide +kernel
theorem dR_hear_74 : decode prog_8_method_34_code 74 = .ok (.goto (-40), 3) := by decide +kernel
theorem dR_hear_77 : decode prog_8_method_34_code 77 = .ok (.iload_n 3, 1) := by decide +kernel
theorem dR_hear_78 : decode prog_8_method_34_code 78 = .ok (.ifCond .eq 5, 3) := by decide +kernel
theorem dR_hear_81 : decode prog_8_method_34_code 81 = .ok (.iconst 2, 1) := by decide +kernel
theorem dR_hear_82 : decode prog_8_method_34_code 82 = .ok (.ireturn, 1) := by decide +kernel
theorem dR_hear_83 : decode prog_8_method_34_code 83 = .ok (.aload_n 0, 1) := by decide +kernel
theorem dR_hear_84 : decode prog_8_method_34_code 84 = .ok (.getfield 22, 3) := by decide +kernel
theorem dR_hear_87 : decode prog_8_method_34_code 87 = .ok (.iload_n 1, 1) := by decide +kernel
theorem dR_hear_88 : decode prog_8_method_34_code 88 = .ok (.iload_n 2, 1) := by decide +kernel
theorem dR_hear_89 : decode prog_8_method_34_code 89 = .ok (.iconst 1, 1) := by decide +kernel
theorem dR_hear_90 : decode prog_8_method_34_code 90 = .ok (.if_icmp .ne 17, 3) := by decide +kernel
theorem dR_hear_93 : decode prog_8_method_34_code 93 = .ok (.iload 4, 2) := by decide +kernel
theorem dR_hear_95 : decode prog_8_method_34_code 95 = .ok (.ifCond .eq 7, 3) := by decide +kernel
theorem dR_hear_98 : decode prog_8_method_34_code 98 = .ok (.iconst 3, 1) := by decide +kernel
theorem dR_hear_99 : decode prog_8_method_34_code 99 = .ok (.goto 11, 3) := by decide +kernel
theorem dR_hear_102 : decode prog_8_method_34_code 102 = .ok (.bipush 8, 2) := by decide +kernel
theorem dR_hear_104 : decode prog_8_method_34_code 104 = .ok (.goto 6, 3) := by decide +kernel
theorem dR_hear_107 : decode prog_8_method_34_code 107 = .ok (.iconst 3, 1) := by decide +kernel
theorem dR_hear_108 : decode prog_8_method_34_code 108 = .ok (.iload_n 2, 1) := by decide +kernel
theorem dR_hear_109 : decode prog_8_method_34_code 109 = .ok (.iadd, 1) := by decide +kernel
theorem dR_hear_110 : decode prog_8_method_34_code 110 = .ok (.iastore, 1) := by decide +kernel
theorem dR_hear_111 : decode prog_8_method_34_code 111 = .ok (.iload_n 2, 1) := by decide +kernel
theorem dR_hear_112 : decode prog_8_method_34_code 112 = .ok (.iconst 1, 1) := by decide +kernel
theorem dR_hear_113 : decode prog_8_method_34_code 113 = .ok (.if_icmp .ne 25, 3) := by decide +kernel
theorem dR_hear_116 : decode prog_8_method_34_code 116 = .ok (.iload 4, 2) := by decide +kernel
theorem dR_hear_118 : decode prog_8_method_34_code 118 = .ok (.ifCond .eq 20, 3) := by decide +kernel
theorem dR_hear_121 : decode prog_8_method_34_code 121 = .ok (.aload_n 0, 1) := by decide +kernel
theorem dR_hear_122 : decode prog_8_method_34_code 122 = .ok (.getfield 62, 3) := by decide +kernel
theorem dR_hear_125 : decode prog_8_method_34_code 125 = .ok (.bipush 20, 2) := by decide +kernel
theorem dR_hear_127 : decode prog_8_method_34_code 127 = .ok (.aload_n 0, 1) := by decide +kernel
theorem dR_hear_128 : decode prog_8_method_34_code 128 = .ok (.getfield 7, 3) := by decide +kernel
theorem dR_hear_131 : decode prog_8_method_34_code 131 = .ok (.iload_n 1, 1) := by decide +kernel
theorem dR_hear_132 : decode prog_8_method_34_code 132 = .ok (.iaload, 1) := by decide +kernel
theorem dR_hear_133 : decode prog_8_method_34_code 133 = .ok (.imul, 1) := by decide +kernel
theorem dR_hear_134 : decode prog_8_method_34_code 134 = .ok (.iload_n 1, 1) := by decide +kernel
theorem dR_hear_135 : decode prog_8_method_34_code 135 = .ok (.iadd, 1) := by decide +kernel
theorem dR_hear_136 : decode prog_8_method_34_code 136 = .ok (.iconst 2, 1) := by decide +kernel
theorem dR_hear_137 : decode prog_8_method_34_code 137 = .ok (.iastore, 1) := by decide +kernel
theorem dR_hear_138 : decode prog_8_method_34_code 138 = .ok (.iconst 2, 1) := by decide +kernel
theorem dR_hear_139 : decode prog_8_method_34_code 139 = .ok (.ireturn, 1) := by decide +kernel
theorem dR_told_0 : decode prog_8_method_33_code 0 = .ok (.aload_n 0, 1) := by decide +kernel
theorem dR_told_1 : decode prog_8_method_33_code 1 = .ok (.iload_n 1, 1) := by decide +kernel
theorem dR_told_2 : decode prog_8_method_33_code 2 = .ok (.iload_n 2, 1) := by decide +kernel
theorem dR_told_3 : decode prog_8_method_33_code 3 = .ok (.invokevirtual 130, 3) := by decide +kernel
theorem dR_told_6 : decode prog_8_method_33_code 6 = .ok (.istore_n 3, 1) := by decide +kernel
theorem dR_told_7 : decode prog_8_method_33_code 7 = .ok (.iconst 0, 1) := by decide +kernel
theorem dR_told_8 : decode prog_8_method_33_code 8 = .ok (.istore 4, 2) := by decide +kernel
theorem dR_told_10 : decode prog_8_method_33_code 10 = .ok (.iload 4, 2) := by decide +kernel
theorem dR_told_12 : decode prog_8_method_33_code 12 = .ok (.aload_n 0, 1) := by decide +kernel
theorem dR_told_13 : decode prog_8_method_33_code 13 = .ok (.getfield 38, 3) := by decide +kernel
theorem dR_told_16 : decode prog_8_method_33_code 16 = .ok (.iload_n 1, 1) := by decide +kernel
theorem dR_told_17 : decode prog_8_method_33_code 17 = .ok (.iaload, 1) := by decide +kernel
theorem dR_told_18 : decode prog_8_method_33_code 18 = .ok (.if_icmp .ge 33, 3) := by decide +kernel
theorem dR_told_21 : decode prog_8_method_33_code 21 = .ok (.iload_n 3, 1) := by decide +kernel
theorem dR_told_22 : decode prog_8_method_33_code 22 = .ok (.ifCond .ne 17, 3) := by decide +kernel
theorem dR_told_25 : decode prog_8_method_33_code 25 = .ok (.aload_n 0, 1) := by decide +kernel
theorem dR_told_26 : decode prog_8_method_33_code 26 = .ok (.iconst 4, 1) := by decide +kernel
theorem dR_told_27 : decode prog_8_method_33_code 27 = .ok (.iload_n 1, 1) := by decide +kernel
theorem dR_told_28 : decode prog_8_method_33_code 28 = .ok (.imul, 1) := by decide +kernel
theorem dR_told_29 : decode prog_8_method_33_code 29 = .ok (.iload 4, 2) := by decide +kernel
theorem dR_told_31 : decode prog_8_method_33_code 31 = .ok (.iadd, 1) := by decide +kernel
theorem dR_told_32 : decode prog_8_method_33_code 32 = .ok (.iload_n 2, 1) := by decide +kernel
theorem dR_told_33 : decode prog_8_method_33_code 33 = .ok (.invokevirtual 110, 3) := by decide +kernel
theorem dR_told_36 : decode prog_8_method_33_code 36 = .ok (.ifCond .eq 7, 3) := by decide +kernel
theorem dR_told_39 : decode prog_8_method_33_code 39 = .ok (.iconst 1, 1) := by decide +kernel
theorem dR_told_40 : decode prog_8_method_33_code 40 = .ok (.goto 4, 3) := by decide +kernel
theorem dR_told_43 : decode prog_8_method_33_code 43 = .ok (.iconst 0, 1) := by decide +kernel
theorem dR_told_44 : decode prog_8_method_33_code 44 = .ok (.istore_n 3, 1) := by decide +kernel
theorem dR_told_45 : decode prog_8_method_33_code 45 = .ok (.iinc 4 1, 3) := by decide +kernel
theorem dR_told_48 : decode prog_8_method_33_code 48 = .ok (.goto (-38), 3) := by decide +kernel
theorem dR_told_51 : decode prog_8_method_33_code 51 = .ok (.iload_n 3, 1) := by decide +kernel
theorem dR_told_52 : decode prog_8_method_33_code 52 = .ok (.ifCond .eq 17, 3) := by decide +kernel
theorem dR_told_55 : decode prog_8_method_33_code 55 = .ok (.iload_n 2, 1) := by decide +kernel
theorem dR_told_56 : decode prog_8_method_33_code 56 = .ok (.aload_n 0, 1) := by decide +kernel
theorem dR_told_57 : decode prog_8_method_33_code 57 = .ok (.getfield 7, 3) := by decide +kernel
theorem dR_told_60 : decode prog_8_method_33_code 60 = .ok (.iload_n 1, 1) := by decide +kernel
theorem dR_told_61 : decode prog_8_method_33_code 61 = .ok (.iaload, 1) := by decide +kernel
theorem dR_told_62 : decode prog_8_method_33_code 62 = .ok (.if_icmp .eq 7, 3) := by decide +kernel
theorem dR_told_65 : decode prog_8_method_33_code 65 = .ok (.iconst 1, 1) := by decide +kernel
theorem dR_told_66 : decode prog_8_method_33_code 66 = .ok (.goto 4, 3) := by decide +kernel
theorem dR_told_69 : decode prog_8_method_33_code 69 = .ok (.iconst 0, 1) := by decide +kernel
theorem dR_told_70 : decode prog_8_method_33_code 70 = .ok (.ireturn, 1) := by decide +kernel
theorem dR_close_0 : decode prog_8_method_35_code 0 = .ok (.aload_n 0, 1) := by decide +kernel
theorem dR_close_1 : decode prog_8_method_35_code 1 = .ok (.getfield 62, 3) := by decide +kernel
theorem dR_close_4 : decode prog_8_method_35_code 4 = .ok (.bipush 20, 2) := by decide +kernel
theorem dR_close_6 : decode prog_8_method_35_code 6 = .ok (.iload_n 1, 1) := by decide +kernel
theorem dR_close_7 : decode prog_8_method_35_code 7 = .ok (.imul, 1) := by decide +kernel
theorem dR_close_8 : decode prog_8_method_35_code 8 = .ok (.iload_n 2, 1) := by decide +kernel
theorem dR_close_9 : decode prog_8_method_35_code 9 = .ok (.iadd, 1) := by decide +kernel
theorem dR_close_10 : decode prog_8_method_35_code 10 = .ok (.iaload, 1) := by decide +kernel
theorem dR_close_11 : decode prog_8_method_35_code 11 = .ok (.iconst 2, 1) := by decide +kernel
theorem dR_close_12 : decode prog_8_method_35_code 12 = .ok (.if_icmp .ne 5, 3) := by decide +kernel
theorem dR_close_15 : decode prog_8_method_35_code 15 = .ok (.iconst 1, 1) := by decide +kernel
theorem dR_close_16 : decode prog_8_method_35_code 16 = .ok (.ireturn, 1) := by decide +kernel
theorem dR_close_17 : decode prog_8_method_35_code 17 = .ok (.aload_n 0, 1) := by decide +kernel
theorem dR_close_18 : decode prog_8_method_35_code 18 = .ok (.iload_n 2, 1) := by decide +kernel
theorem dR_close_19 : decode prog_8_method_35_code 19 = .ok (.invokevirtual 175, 3) := by decide +kernel
theorem dR_close_22 : decode prog_8_method_35_code 22 = .ok (.ifCond .ne 5, 3) := by decide +kernel
theorem dR_close_25 : decode prog_8_method_35_code 25 = .ok (.iconst 3, 1) := by decide +kernel
theorem dR_close_26 : decode prog_8_method_35_code 26 = .ok (.ireturn, 1) := by decide +kernel
theorem dR_close_27 : decode prog_8_method_35_code 27 = .ok (.iload_n 3, 1) := by decide +kernel
theorem dR_close_28 : decode prog_8_method_35_code 28 = .ok (.ifCond .eq 5, 3) := by decide +kernel
theorem dR_close_31 : decode prog_8_method_35_code 31 = .ok (.iconst 2, 1) := by decide +kernel
theorem dR_close_32 : decode prog_8_method_35_code 32 = .ok (.ireturn, 1) := by decide +kernel
theorem dR_close_33 : decode prog_8_method_35_code 33 = .ok (.aload_n 0, 1) := by decide +kernel
theorem dR_close_34 : decode prog_8_method_35_code 34 = .ok (.iload_n 1, 1) := by decide +kernel
theorem dR_close_35 : decode prog_8_method_35_code 35 = .ok (.iload_n 2, 1) := by decide +kernel
theorem dR_close_36 : decode prog_8_method_35_code 36 = .ok (.invokevirtual 169, 3) := by decide +kernel
theorem dR_close_39 : decode prog_8_method_35_code 39 = .ok (.aload_n 0, 1) := by decide +kernel
theorem dR_close_40 : decode prog_8_method_35_code 40 = .ok (.getfield 62, 3) := by decide +kernel
theorem dR_close_43 : decode prog_8_method_35_code 43 = .ok (.bipush 20, 2) := by decide +kernel
theorem dR_close_45 : decode prog_8_method_35_code 45 = .ok (.iload_n 1, 1) := by decide +kernel
theorem dR_close_46 : decode prog_8_method_35_code 46 = .ok (.imul, 1) := by decide +kernel
theorem dR_close_47 : decode prog_8_method_35_code 47 = .ok (.iload_n 2, 1) := by decide +kernel
theorem dR_close_48 : decode prog_8_method_35_code 48 = .ok (.iadd, 1) := by decide +kernel
theorem dR_close_49 : decode prog_8_method_35_code 49 = .ok (.iconst 2, 1) := by decide +kernel
theorem dR_close_50 : decode prog_8_method_35_code 50 = .ok (.iastore, 1) := by decide +kernel
theorem dR_close_51 : decode prog_8_method_35_code 51 = .ok (.iconst 2, 1) := by decide +kernel
theorem dR_close_52 : decode prog_8_method_35_code 52 = .ok (.ireturn, 1) := by decide +kernel
theorem dR_message_0 : decode prog_8_method_36_code 0 = .ok (.iload_n 1, 1) := by decide +kernel
theorem dR_message_1 : decode prog_8_method_36_code 1 = .ok (.iconst (-1), 1) := by decide +kernel
theorem dR_message_2 : decode prog_8_method_36_code 2 = .ok (.if_icmp .ne 10, 3) := by decide +kernel
theorem dR_message_5 : decode prog_8_method_36_code 5 = .ok (.aload_n 0, 1) := by decide +kernel
theorem dR_message_6 : decode prog_8_method_36_code 6 = .ok (.getfield 143, 3) := by decide +kernel
theorem dR_message_9 : decode prog_8_method_36_code 9 = .ok (.goto 25, 3) := by decide +kernel
theorem dR_message_12 : decode prog_8_method_36_code 12 = .ok (.iload_n 1, 1) := by decide +kernel
theorem dR_message_13 : decode prog_8_method_36_code 13 = .ok (.ifCond .lt 11, 3) := by decide +kernel
theorem dR_message_16 : decode prog_8_method_36_code 16 = .ok (.iload_n 1, 1) := by decide +kernel
theorem dR_message_17 : decode prog_8_method_36_code 17 = .ok (.aload_n 0, 1) := by decide +kernel
theorem dR_message_18 : decode prog_8_method_36_code 18 = .ok (.getfield 143, 3) := by decide +kernel
theorem dR_message_21 : decode prog_8_method_36_code 21 = .ok (.if_icmp .lt 7, 3) := by decide +kernel
theorem dR_message_24 : decode prog_8_method_36_code 24 = .ok (.iconst (-1), 1) := by decide +kernel
theorem dR_message_25 : decode prog_8_method_36_code 25 = .ok (.goto 9, 3) := by decide +kernel
theorem dR_message_28 : decode prog_8_method_36_code 28 = .ok (.aload_n 0, 1) := by decide +kernel
theorem dR_message_29 : decode prog_8_method_36_code 29 = .ok (.getfield 74, 3) := by decide +kernel
theorem dR_message_32 : decode prog_8_method_36_code 32 = .ok (.iload_n 1, 1) := by decide +kernel
theorem dR_message_33 : decode prog_8_method_36_code 33 = .ok (.iaload, 1) := by decide +kernel
theorem dR_message_34 : decode prog_8_method_36_code 34 = .ok (.ireturn, 1) := by decide +kernel
theorem dR_tick_0 : decode prog_8_method_37_code 0 = .ok (.iload_n 1, 1) := by decide +kernel
theorem dR_tick_1 : decode prog_8_method_37_code 1 = .ok (.ifCond .lt 20, 3) := by decide +kernel
theorem dR_tick_4 : decode prog_8_method_37_code 4 = .ok (.iload_n 1, 1) := by decide +kernel
theorem dR_tick_5 : decode prog_8_method_37_code 5 = .ok (.sipush 1000, 3) := by decide +kernel
theorem dR_tick_8 : decode prog_8_method_37_code 8 = .ok (.if_icmp .gt 13, 3) := by decide +kernel
theorem dR_tick_11 : decode prog_8_method_37_code 11 = .ok (.aload_n 0, 1) := by decide +kernel
theorem dR_tick_12 : decode prog_8_method_37_code 12 = .ok (.dup, 1) := by decide +kernel
theorem dR_tick_13 : decode prog_8_method_37_code 13 = .ok (.getfield 172, 3) := by decide +kernel
theorem dR_tick_16 : decode prog_8_method_37_code 16 = .ok (.iload_n 1, 1) := by decide +kernel
theorem dR_tick_17 : decode prog_8_method_37_code 17 = .ok (.iadd, 1) := by decide +kernel
theorem dR_tick_18 : decode prog_8_method_37_code 18 = .ok (.putfield 172, 3) := by decide +kernel
theorem dR_tick_21 : decode prog_8_method_37_code 21 = .ok (.aload_n 0, 1) := by decide +kernel
theorem dR_tick_22 : decode prog_8_method_37_code 22 = .ok (.getfield 172, 3) := by decide +kernel
theorem dR_tick_25 : decode prog_8_method_37_code 25 = .ok (.ireturn, 1) := by decide +kernel
theorem dR_consent_0 : decode prog_8_method_38_code 0 = .ok (.aload_n 0, 1) := by decide +kernel
theorem dR_consent_1 : decode prog_8_method_38_code 1 = .ok (.iload_n 1, 1) := by decide +kernel
theorem dR_consent_2 : decode prog_8_method_38_code 2 = .ok (.invokevirtual 91, 3) := by decide +kernel
theorem dR_consent_5 : decode prog_8_method_38_code 5 = .ok (.ifCond .eq 16, 3) := by decide +kernel
theorem dR_consent_8 : decode prog_8_method_38_code 8 = .ok (.aload_n 0, 1) := by decide +kernel
theorem dR_consent_9 : decode prog_8_method_38_code 9 = .ok (.iload_n 2, 1) := by decide +kernel
theorem dR_consent_10 : decode prog_8_method_38_code 10 = .ok (.invokevirtual 91, 3) := by decide +kernel
theorem dR_consent_13 : decode prog_8_method_38_code 13 = .ok (.ifCond .eq 8, 3) := by decide +kernel
theorem dR_consent_16 : decode prog_8_method_38_code 16 = .ok (.iload_n 1, 1) := by decide +kernel
theorem dR_consent_17 : decode prog_8_method_38_code 17 = .ok (.iload_n 2, 1) := by decide +kernel
theorem dR_consent_18 : decode prog_8_method_38_code 18 = .ok (.if_icmp .ne 5, 3) := by decide +kernel
theorem dR_consent_21 : decode prog_8_method_38_code 21 = .ok (.iconst 0, 1) := by decide +kernel
theorem dR_consent_22 : decode prog_8_method_38_code 22 = .ok (.ireturn, 1) := by decide +kernel
theorem dR_consent_23 : decode prog_8_method_38_code 23 = .ok (.aload_n 0, 1) := by decide +kernel
theorem dR_consent_24 : decode prog_8_method_38_code 24 = .ok (.getfield 71, 3) := by decide +kernel
theorem dR_consent_27 : decode prog_8_method_38_code 27 = .ok (.iconst 4, 1) := by decide +kernel
theorem dR_consent_28 : decode prog_8_method_38_code 28 = .ok (.iload_n 1, 1) := by decide +kernel
theorem dR_consent_29 : decode prog_8_method_38_code 29 = .ok (.imul, 1) := by decide +kernel
theorem dR_consent_30 : decode prog_8_method_38_code 30 = .ok (.iload_n 2, 1) := by decide +kernel
theorem dR_consent_31 : decode prog_8_method_38_code 31 = .ok (.iadd, 1) := by decide +kernel
theorem dR_consent_32 : decode prog_8_method_38_code 32 = .ok (.iload_n 3, 1) := by decide +kernel
theorem dR_consent_33 : decode prog_8_method_38_code 33 = .ok (.ifCond .ne 7, 3) := by decide +kernel
theorem dR_consent_36 : decode prog_8_method_38_code 36 = .ok (.iconst 1, 1) := by decide +kernel
theorem dR_consent_37 : decode prog_8_method_38_code 37 = .ok (.goto 4, 3) := by decide +kernel
theorem dR_consent_40 : decode prog_8_method_38_code 40 = .ok (.iconst 0, 1) := by decide +kernel
theorem dR_consent_41 : decode prog_8_method_38_code 41 = .ok (.bastore, 1) := by decide +kernel
theorem dR_consent_42 : decode prog_8_method_38_code 42 = .ok (.iconst 1, 1) := by decide +kernel
theorem dR_consent_43 : decode prog_8_method_38_code 43 = .ok (.ireturn, 1) := by decide +kernel
theorem dR_stage_0 : decode prog_8_method_39_code 0 = .ok (.aload_n 0, 1) := by decide +kernel
theorem dR_stage_1 : decode prog_8_method_39_code 1 = .ok (.iload_n 1, 1) := by decide +kernel
theorem dR_stage_2 : decode prog_8_method_39_code 2 = .ok (.invokevirtual 87, 3) := by decide +kernel
theorem dR_stage_5 : decode prog_8_method_39_code 5 = .ok (.ifCond .eq 12, 3) := by decide +kernel
theorem dR_stage_8 : decode prog_8_method_39_code 8 = .ok (.aload_n 0, 1) := by decide +kernel
theorem dR_stage_9 : decode prog_8_method_39_code 9 = .ok (.getfield 22, 3) := by decide +kernel
theorem dR_stage_12 : decode prog_8_method_39_code 12 = .ok (.iload_n 1, 1) := by decide +kernel
theorem dR_stage_13 : decode prog_8_method_39_code 13 = .ok (.iaload, 1) := by decide +kernel
theorem dR_stage_14 : decode prog_8_method_39_code 14 = .ok (.goto 4, 3) := by decide +kernel
theorem dR_stage_17 : decode prog_8_method_39_code 17 = .ok (.iconst (-1), 1) := by decide +kernel
theorem dR_stage_18 : decode prog_8_method_39_code 18 = .ok (.ireturn, 1) := by decide +kernel
theorem dR_signatures_0 : decode prog_8_method_40_code 0 = .ok (.aload_n 0, 1) := by decide +kernel
theorem dR_signatures_1 : decode prog_8_method_40_code 1 = .ok (.iload_n 1, 1) := by decide +kernel
theorem dR_signatures_2 : decode prog_8_method_40_code 2 = .ok (.invokevirtual 87, 3) := by decide +kernel
theorem dR_signatures_5 : decode prog_8_method_40_code 5 = .ok (.ifCond .ne 7, 3) := by decide +kernel
theorem dR_signatures_8 : decode prog_8_method_40_code 8 = .ok (.iconst (-1), 1) := by decide +kernel
theorem dR_signatures_9 : decode prog_8_method_40_code 9 = .ok (.goto 21, 3) := by decide +kernel
theorem dR_signatures_12 : decode prog_8_method_40_code 12 = .ok (.iload_n 2, 1) := by decide +kernel
theorem dR_signatures_13 : decode prog_8_method_40_code 13 = .ok (.ifCond .eq 11, 3) := by decide +kernel
theorem dR_signatures_16 : decode prog_8_method_40_code 16 = .ok (.aload_n 0, 1) := by decide +kernel
theorem dR_signatures_17 : decode prog_8_method_40_code 17 = .ok (.iload_n 1, 1) := by decide +kernel
theorem dR_signatures_18 : decode prog_8_method_40_code 18 = .ok (.invokevirtual 133, 3) := by decide +kernel
theorem dR_signatures_21 : decode prog_8_method_40_code 21 = .ok (.goto 9, 3) := by decide +kernel
theorem dR_signatures_24 : decode prog_8_method_40_code 24 = .ok (.aload_n 0, 1) := by decide +kernel
theorem dR_signatures_25 : decode prog_8_method_40_code 25 = .ok (.getfield 29, 3) := by decide +kernel
theorem dR_signatures_28 : decode prog_8_method_40_code 28 = .ok (.iload_n 1, 1) := by decide +kernel
theorem dR_signatures_29 : decode prog_8_method_40_code 29 = .ok (.iaload, 1) := by decide +kernel
theorem dR_signatures_30 : decode prog_8_method_40_code 30 = .ok (.ireturn, 1) := by decide +kernel
theorem dR_verdict_0 : decode prog_8_method_41_code 0 = .ok (.aload_n 0, 1) := by decide +kernel
theorem dR_verdict_1 : decode prog_8_method_41_code 1 = .ok (.iload_n 1, 1) := by decide +kernel
theorem dR_verdict_2 : decode prog_8_method_41_code 2 = .ok (.invokevirtual 87, 3) := by decide +kernel
theorem dR_verdict_5 : decode prog_8_method_41_code 5 = .ok (.ifCond .eq 12, 3) := by decide +kernel
theorem dR_verdict_8 : decode prog_8_method_41_code 8 = .ok (.aload_n 0, 1) := by decide +kernel
theorem dR_verdict_9 : decode prog_8_method_41_code 9 = .ok (.getfield 32, 3) := by decide +kernel
theorem dR_verdict_12 : decode prog_8_method_41_code 12 = .ok (.iload_n 1, 1) := by decide +kernel
theorem dR_verdict_13 : decode prog_8_method_41_code 13 = .ok (.iaload, 1) := by decide +kernel
theorem dR_verdict_14 : decode prog_8_method_41_code 14 = .ok (.goto 4, 3) := by decide +kernel
theorem dR_verdict_17 : decode prog_8_method_41_code 17 = .ok (.iconst (-1), 1) := by decide +kernel
theorem dR_verdict_18 : decode prog_8_method_41_code 18 = .ok (.ireturn, 1) := by decide +kernel
theorem dR_spender_0 : decode prog_8_method_42_code 0 = .ok (.aload_n 0, 1) := by decide +kernel
theorem dR_spender_1 : decode prog_8_method_42_code 1 = .ok (.iload_n 1, 1) := by decide +kernel
theorem dR_spender_2 : decode prog_8_method_42_code 2 = .ok (.iload_n 2, 1) := by decide +kernel
theorem dR_spender_3 : decode prog_8_method_42_code 3 = .ok (.invokevirtual 95, 3) := by decide +kernel
theorem dR_spender_6 : decode prog_8_method_42_code 6 = .ok (.ifCond .eq 16, 3) := by decide +kernel
theorem dR_spender_9 : decode prog_8_method_42_code 9 = .ok (.aload_n 0, 1) := by decide +kernel
theorem dR_spender_10 : decode prog_8_method_42_code 10 = .ok (.getfield 59, 3) := by decide +kernel
theorem dR_spender_13 : decode prog_8_method_42_code 13 = .ok (.iconst 4, 1) := by decide +kernel
theorem dR_spender_14 : decode prog_8_method_42_code 14 = .ok (.iload_n 1, 1) := by decide +kernel
theorem dR_spender_15 : decode prog_8_method_42_code 15 = .ok (.imul, 1) := by decide +kernel
theorem dR_spender_16 : decode prog_8_method_42_code 16 = .ok (.iload_n 2, 1) := by decide +kernel
theorem dR_spender_17 : decode prog_8_method_42_code 17 = .ok (.iadd, 1) := by decide +kernel
theorem dR_spender_18 : decode prog_8_method_42_code 18 = .ok (.iaload, 1) := by decide +kernel
theorem dR_spender_19 : decode prog_8_method_42_code 19 = .ok (.goto 4, 3) := by decide +kernel
theorem dR_spender_22 : decode prog_8_method_42_code 22 = .ok (.iconst (-1), 1) := by decide +kernel
theorem dR_spender_23 : decode prog_8_method_42_code 23 = .ok (.ireturn, 1) := by decide +kernel
theorem dR_standing_0 : decode prog_8_method_43_code 0 = .ok (.aload_n 0, 1) := by decide +kernel
theorem dR_standing_1 : decode prog_8_method_43_code 1 = .ok (.iload_n 1, 1) := by decide +kernel
theorem dR_standing_2 : decode prog_8_method_43_code 2 = .ok (.invokevirtual 91, 3) := by decide +kernel
theorem dR_standing_5 : decode prog_8_method_43_code 5 = .ok (.ifCond .eq 25, 3) := by decide +kernel
theorem dR_standing_8 : decode prog_8_method_43_code 8 = .ok (.aload_n 0, 1) := by decide +kernel
theorem dR_standing_9 : decode prog_8_method_43_code 9 = .ok (.iload_n 2, 1) := by decide +kernel
theorem dR_standing_10 : decode prog_8_method_43_code 10 = .ok (.invokevirtual 87, 3) := by decide +kernel
theorem dR_standing_13 : decode prog_8_method_43_code 13 = .ok (.ifCond .eq 17, 3) := by decide +kernel
theorem dR_standing_16 : decode prog_8_method_43_code 16 = .ok (.aload_n 0, 1) := by decide +kernel
theorem dR_standing_17 : decode prog_8_method_43_code 17 = .ok (.getfield 62, 3) := by decide +kernel
theorem dR_standing_20 : decode prog_8_method_43_code 20 = .ok (.bipush 20, 2) := by decide +kernel
theorem dR_standing_22 : decode prog_8_method_43_code 22 = .ok (.iload_n 1, 1) := by decide +kernel
theorem dR_standing_23 : decode prog_8_method_43_code 23 = .ok (.imul, 1) := by decide +kernel
theorem dR_standing_24 : decode prog_8_method_43_code 24 = .ok (.iload_n 2, 1) := by decide +kernel
theorem dR_standing_25 : decode prog_8_method_43_code 25 = .ok (.iadd, 1) := by decide +kernel
theorem dR_standing_26 : decode prog_8_method_43_code 26 = .ok (.iaload, 1) := by decide +kernel
theorem dR_standing_27 : decode prog_8_method_43_code 27 = .ok (.goto 4, 3) := by decide +kernel
theorem dR_standing_30 : decode prog_8_method_43_code 30 = .ok (.iconst (-1), 1) := by decide +kernel
theorem dR_standing_31 : decode prog_8_method_43_code 31 = .ok (.ireturn, 1) := by decide +kernel
theorem dR_vault_0 : decode prog_8_method_44_code 0 = .ok (.aload_n 0, 1) := by decide +kernel
theorem dR_vault_1 : decode prog_8_method_44_code 1 = .ok (.iload_n 1, 1) := by decide +kernel
theorem dR_vault_2 : decode prog_8_method_44_code 2 = .ok (.invokevirtual 91, 3) := by decide +kernel
theorem dR_vault_5 : decode prog_8_method_44_code 5 = .ok (.ifCond .eq 8, 3) := by decide +kernel
theorem dR_vault_8 : decode prog_8_method_44_code 8 = .ok (.iload_n 2, 1) := by decide +kernel
theorem dR_vault_9 : decode prog_8_method_44_code 9 = .ok (.iconst (-1), 1) := by decide +kernel
theorem dR_vault_10 : decode prog_8_method_44_code 10 = .ok (.if_icmp .ge 5, 3) := by decide +kernel
theorem dR_vault_13 : decode prog_8_method_44_code 13 = .ok (.iconst (-1), 1) := by decide +kernel
theorem dR_vault_14 : decode prog_8_method_44_code 14 = .ok (.ireturn, 1) := by decide +kernel
theorem dR_vault_15 : decode prog_8_method_44_code 15 = .ok (.iconst 0, 1) := by decide +kernel
theorem dR_vault_16 : decode prog_8_method_44_code 16 = .ok (.istore_n 3, 1) := by decide +kernel
theorem dR_vault_17 : decode prog_8_method_44_code 17 = .ok (.iconst 0, 1) := by decide +kernel
theorem dR_vault_18 : decode prog_8_method_44_code 18 = .ok (.istore 4, 2) := by decide +kernel
theorem dR_vault_20 : decode prog_8_method_44_code 20 = .ok (.iload 4, 2) := by decide +kernel
theorem dR_vault_22 : decode prog_8_method_44_code 22 = .ok (.bipush 80, 2) := by decide +kernel
theorem dR_vault_24 : decode prog_8_method_44_code 24 = .ok (.if_icmp .ge 39, 3) := by decide +kernel
theorem dR_vault_27 : decode prog_8_method_44_code 27 = .ok (.aload_n 0, 1) := by decide +kernel
theorem dR_vault_28 : decode prog_8_method_44_code 28 = .ok (.iload_n 1, 1) := by decide +kernel
theorem dR_vault_29 : decode prog_8_method_44_code 29 = .ok (.iload 4, 2) := by decide +kernel
theorem dR_vault_31 : decode prog_8_method_44_code 31 = .ok (.invokevirtual 113, 3) := by decide +kernel
theorem dR_vault_34 : decode prog_8_method_44_code 34 = .ok (.istore 5, 2) := by decide +kernel
theorem dR_vault_36 : decode prog_8_method_44_code 36 = .ok (.iload 5, 2) := by decide +kernel
theorem dR_vault_38 : decode prog_8_method_44_code 38 = .ok (.ifCond .eq 11, 3) := by decide +kernel
theorem dR_vault_41 : decode prog_8_method_44_code 41 = .ok (.iload_n 3, 1) := by decide +kernel
theorem dR_vault_42 : decode prog_8_method_44_code 42 = .ok (.iload_n 2, 1) := by decide +kernel
theorem dR_vault_43 : decode prog_8_method_44_code 43 = .ok (.if_icmp .ne 6, 3) := by decide +kernel
theorem dR_vault_46 : decode prog_8_method_44_code 46 = .ok (.iload 4, 2) := by decide +kernel
theorem dR_vault_48 : decode prog_8_method_44_code 48 = .ok (.ireturn, 1) := by decide +kernel
theorem dR_vault_49 : decode prog_8_method_44_code 49 = .ok (.iload 5, 2) := by decide +kernel
theorem dR_vault_51 : decode prog_8_method_44_code 51 = .ok (.ifCond .eq 6, 3) := by decide +kernel
theorem dR_vault_54 : decode prog_8_method_44_code 54 = .ok (.iinc 3 1, 3) := by decide +kernel
theorem dR_vault_57 : decode prog_8_method_44_code 57 = .ok (.iinc 4 1, 3) := by decide +kernel
theorem dR_vault_60 : decode prog_8_method_44_code 60 = .ok (.goto (-40), 3) := by decide +kernel
theorem dR_vault_63 : decode prog_8_method_44_code 63 = .ok (.iload_n 2, 1) := by decide +kernel
theorem dR_vault_64 : decode prog_8_method_44_code 64 = .ok (.iconst (-1), 1) := by decide +kernel
theorem dR_vault_65 : decode prog_8_method_44_code 65 = .ok (.if_icmp .ne 7, 3) := by decide +kernel
theorem dR_vault_68 : decode prog_8_method_44_code 68 = .ok (.iload_n 3, 1) := by decide +kernel
theorem dR_vault_69 : decode prog_8_method_44_code 69 = .ok (.goto 4, 3) := by decide +kernel
theorem dR_vault_72 : decode prog_8_method_44_code 72 = .ok (.iconst (-1), 1) := by decide +kernel
theorem dR_vault_73 : decode prog_8_method_44_code 73 = .ok (.ireturn, 1) := by decide +kernel
theorem dR_balance_0 : decode prog_8_method_45_code 0 = .ok (.aload_n 0, 1) := by decide +kernel
theorem dR_balance_1 : decode prog_8_method_45_code 1 = .ok (.iload_n 1, 1) := by decide +kernel
theorem dR_balance_2 : decode prog_8_method_45_code 2 = .ok (.invokevirtual 91, 3) := by decide +kernel
theorem dR_balance_5 : decode prog_8_method_45_code 5 = .ok (.ifCond .eq 11, 3) := by decide +kernel
theorem dR_balance_8 : decode prog_8_method_45_code 8 = .ok (.aload_n 0, 1) := by decide +kernel
theorem dR_balance_9 : decode prog_8_method_45_code 9 = .ok (.iload_n 2, 1) := by decide +kernel
theorem dR_balance_10 : decode prog_8_method_45_code 10 = .ok (.invokevirtual 91, 3) := by decide +kernel
theorem dR_balance_13 : decode prog_8_method_45_code 13 = .ok (.ifCond .ne 5, 3) := by decide +kernel
theorem dR_balance_16 : decode prog_8_method_45_code 16 = .ok (.iconst (-1), 1) := by decide +kernel
theorem dR_balance_17 : decode prog_8_method_45_code 17 = .ok (.ireturn, 1) := by decide +kernel
theorem dR_balance_18 : decode prog_8_method_45_code 18 = .ok (.iconst 0, 1) := by decide +kernel
theorem dR_balance_19 : decode prog_8_method_45_code 19 = .ok (.istore_n 3, 1) := by decide +kernel
theorem dR_balance_20 : decode prog_8_method_45_code 20 = .ok (.iconst 0, 1) := by decide +kernel
theorem dR_balance_21 : decode prog_8_method_45_code 21 = .ok (.istore 4, 2) := by decide +kernel
theorem dR_balance_23 : decode prog_8_method_45_code 23 = .ok (.iload 4, 2) := by decide +kernel
theorem dR_balance_25 : decode prog_8_method_45_code 25 = .ok (.bipush 80, 2) := by decide +kernel
theorem dR_balance_27 : decode prog_8_method_45_code 27 = .ok (.if_icmp .ge 50, 3) := by decide +kernel
theorem dR_balance_30 : decode prog_8_method_45_code 30 = .ok (.aload_n 0, 1) := by decide +kernel
theorem dR_balance_31 : decode prog_8_method_45_code 31 = .ok (.iload_n 1, 1) := by decide +kernel
theorem dR_balance_32 : decode prog_8_method_45_code 32 = .ok (.iload 4, 2) := by decide +kernel
theorem dR_balance_34 : decode prog_8_method_45_code 34 = .ok (.invokevirtual 113, 3) := by decide +kernel
theorem dR_balance_37 : decode prog_8_method_45_code 37 = .ok (.ifCond .eq 34, 3) := by decide +kernel
theorem dR_balance_40 : decode prog_8_method_45_code 40 = .ok (.aload_n 0, 1) := by decide +kernel
theorem dR_balance_41 : decode prog_8_method_45_code 41 = .ok (.getfield 44, 3) := by decide +kernel
theorem dR_balance_44 : decode prog_8_method_45_code 44 = .ok (.iload 4, 2) := by decide +kernel
theorem dR_balance_46 : decode prog_8_method_45_code 46 = .ok (.iaload, 1) := by decide +kernel
theorem dR_balance_47 : decode prog_8_method_45_code 47 = .ok (.ifCond .ne 24, 3) := by decide +kernel
theorem dR_balance_50 : decode prog_8_method_45_code 50 = .ok (.aload_n 0, 1) := by decide +kernel
theorem dR_balance_51 : decode prog_8_method_45_code 51 = .ok (.getfield 47, 3) := by decide +kernel
theorem dR_balance_54 : decode prog_8_method_45_code 54 = .ok (.iload 4, 2) := by decide +kernel
theorem dR_balance_56 : decode prog_8_method_45_code 56 = .ok (.iaload, 1) := by decide +kernel
theorem dR_balance_57 : decode prog_8_method_45_code 57 = .ok (.iload_n 2, 1) := by decide +kernel
theorem dR_balance_58 : decode prog_8_method_45_code 58 = .ok (.if_icmp .ne 13, 3) := by decide +kernel
theorem dR_balance_61 : decode prog_8_method_45_code 61 = .ok (.iload_n 3, 1) := by decide +kernel
theorem dR_balance_62 : decode prog_8_method_45_code 62 = .ok (.aload_n 0, 1) := by decide +kernel
theorem dR_balance_63 : decode prog_8_method_45_code 63 = .ok (.getfield 53, 3) := by decide +kernel
theorem dR_balance_66 : decode prog_8_method_45_code 66 = .ok (.iload 4, 2) := by decide +kernel
theorem dR_balance_68 : decode prog_8_method_45_code 68 = .ok (.iaload, 1) := by decide +kernel
theorem dR_balance_69 : decode prog_8_method_45_code 69 = .ok (.iadd, 1) := by decide +kernel
theorem dR_balance_70 : decode prog_8_method_45_code 70 = .ok (.istore_n 3, 1) := by decide +kernel
theorem dR_balance_71 : decode prog_8_method_45_code 71 = .ok (.iinc 4 1, 3) := by decide +kernel
theorem dR_balance_74 : decode prog_8_method_45_code 74 = .ok (.goto (-51), 3) := by decide +kernel
theorem dR_balance_77 : decode prog_8_method_45_code 77 = .ok (.iload_n 3, 1) := by decide +kernel
theorem dR_balance_78 : decode prog_8_method_45_code 78 = .ok (.ireturn, 1) := by decide +kernel
theorem dR_fetched_0 : decode prog_8_method_46_code 0 = .ok (.aload_n 0, 1) := by decide +kernel
theorem dR_fetched_1 : decode prog_8_method_46_code 1 = .ok (.iload_n 1, 1) := by decide +kernel
theorem dR_fetched_2 : decode prog_8_method_46_code 2 = .ok (.invokevirtual 91, 3) := by decide +kernel
theorem dR_fetched_5 : decode prog_8_method_46_code 5 = .ok (.ifCond .eq 12, 3) := by decide +kernel
theorem dR_fetched_8 : decode prog_8_method_46_code 8 = .ok (.aload_n 0, 1) := by decide +kernel
theorem dR_fetched_9 : decode prog_8_method_46_code 9 = .ok (.getfield 68, 3) := by decide +kernel
theorem dR_fetched_12 : decode prog_8_method_46_code 12 = .ok (.iload_n 1, 1) := by decide +kernel
theorem dR_fetched_13 : decode prog_8_method_46_code 13 = .ok (.iaload, 1) := by decide +kernel
theorem dR_fetched_14 : decode prog_8_method_46_code 14 = .ok (.goto 4, 3) := by decide +kernel
theorem dR_fetched_17 : decode prog_8_method_46_code 17 = .ok (.iconst (-1), 1) := by decide +kernel
theorem dR_fetched_18 : decode prog_8_method_46_code 18 = .ok (.ireturn, 1) := by decide +kernel
theorem dR_tree_0 : decode prog_8_method_48_code 0 = .ok (.aload_n 0, 1) := by decide +kernel
theorem dR_tree_1 : decode prog_8_method_48_code 1 = .ok (.iload_n 1, 1) := by decide +kernel
theorem dR_tree_2 : decode prog_8_method_48_code 2 = .ok (.invokevirtual 87, 3) := by decide +kernel
theorem dR_tree_5 : decode prog_8_method_48_code 5 = .ok (.ifCond .eq 24, 3) := by decide +kernel
theorem dR_tree_8 : decode prog_8_method_48_code 8 = .ok (.iload_n 2, 1) := by decide +kernel
theorem dR_tree_9 : decode prog_8_method_48_code 9 = .ok (.ifCond .lt 20, 3) := by decide +kernel
theorem dR_tree_12 : decode prog_8_method_48_code 12 = .ok (.iload_n 2, 1) := by decide +kernel
theorem dR_tree_13 : decode prog_8_method_48_code 13 = .ok (.iconst 4, 1) := by decide +kernel
theorem dR_tree_14 : decode prog_8_method_48_code 14 = .ok (.if_icmp .gt 15, 3) := by decide +kernel
theorem dR_tree_17 : decode prog_8_method_48_code 17 = .ok (.iload_n 3, 1) := by decide +kernel
theorem dR_tree_18 : decode prog_8_method_48_code 18 = .ok (.ifCond .lt 11, 3) := by decide +kernel
theorem dR_tree_21 : decode prog_8_method_48_code 21 = .ok (.iload_n 3, 1) := by decide +kernel
theorem dR_tree_22 : decode prog_8_method_48_code 22 = .ok (.bipush 16, 2) := by decide +kernel
theorem dR_tree_24 : decode prog_8_method_48_code 24 = .ok (.iload_n 2, 1) := by decide +kernel
theorem dR_tree_25 : decode prog_8_method_48_code 25 = .ok (.ishr, 1) := by decide +kernel
theorem dR_tree_26 : decode prog_8_method_48_code 26 = .ok (.if_icmp .lt 5, 3) := by decide +kernel
theorem dR_tree_29 : decode prog_8_method_48_code 29 = .ok (.iconst 0, 1) := by decide +kernel
theorem dR_tree_30 : decode prog_8_method_48_code 30 = .ok (.ireturn, 1) := by decide +kernel
theorem dR_tree_31 : decode prog_8_method_48_code 31 = .ok (.iconst 1, 1) := by decide +kernel
theorem dR_tree_32 : decode prog_8_method_48_code 32 = .ok (.iload_n 2, 1) := by decide +kernel
theorem dR_tree_33 : decode prog_8_method_48_code 33 = .ok (.ishl, 1) := by decide +kernel
theorem dR_tree_34 : decode prog_8_method_48_code 34 = .ok (.istore 4, 2) := by decide +kernel
theorem dR_tree_36 : decode prog_8_method_48_code 36 = .ok (.iconst 0, 1) := by decide +kernel
theorem dR_tree_37 : decode prog_8_method_48_code 37 = .ok (.istore 5, 2) := by decide +kernel
theorem dR_tree_39 : decode prog_8_method_48_code 39 = .ok (.iload 5, 2) := by decide +kernel
theorem dR_tree_41 : decode prog_8_method_48_code 41 = .ok (.iload 4, 2) := by decide +kernel
theorem dR_tree_43 : decode prog_8_method_48_code 43 = .ok (.if_icmp .ge 28, 3) := by decide +kernel
theorem dR_tree_46 : decode prog_8_method_48_code 46 = .ok (.aload_n 0, 1) := by decide +kernel
theorem dR_tree_47 : decode prog_8_method_48_code 47 = .ok (.getfield 80, 3) := by decide +kernel
theorem dR_tree_50 : decode prog_8_method_48_code 50 = .ok (.iload 5, 2) := by decide +kernel
theorem dR_tree_52 : decode prog_8_method_48_code 52 = .ok (.aload_n 0, 1) := by decide +kernel
theorem dR_tree_53 : decode prog_8_method_48_code 53 = .ok (.iload_n 1, 1) := by decide +kernel
theorem dR_tree_54 : decode prog_8_method_48_code 54 = .ok (.iload_n 3, 1) := by decide +kernel
theorem dR_tree_55 : decode prog_8_method_48_code 55 = .ok (.iload 4, 2) := by decide +kernel
theorem dR_tree_57 : decode prog_8_method_48_code 57 = .ok (.imul, 1) := by decide +kernel
theorem dR_tree_58 : decode prog_8_method_48_code 58 = .ok (.iload 5, 2) := by decide +kernel
theorem dR_tree_60 : decode prog_8_method_48_code 60 = .ok (.iadd, 1) := by decide +kernel
theorem dR_tree_61 : decode prog_8_method_48_code 61 = .ok (.invokevirtual 185, 3) := by decide +kernel
theorem dR_tree_64 : decode prog_8_method_48_code 64 = .ok (.iastore, 1) := by decide +kernel
theorem dR_tree_65 : decode prog_8_method_48_code 65 = .ok (.iinc 5 1, 3) := by decide +kernel
theorem dR_tree_68 : decode prog_8_method_48_code 68 = .ok (.goto (-29), 3) := by decide +kernel
theorem dR_tree_71 : decode prog_8_method_48_code 71 = .ok (.iload 4, 2) := by decide +kernel
theorem dR_tree_73 : decode prog_8_method_48_code 73 = .ok (.iconst 2, 1) := by decide +kernel
theorem dR_tree_74 : decode prog_8_method_48_code 74 = .ok (.idiv, 1) := by decide +kernel
theorem dR_tree_75 : decode prog_8_method_48_code 75 = .ok (.istore 5, 2) := by decide +kernel
theorem dR_tree_77 : decode prog_8_method_48_code 77 = .ok (.iload 5, 2) := by decide +kernel
theorem dR_tree_79 : decode prog_8_method_48_code 79 = .ok (.ifCond .le 75, 3) := by decide +kernel
theorem dR_tree_82 : decode prog_8_method_48_code 82 = .ok (.iconst 0, 1) := by decide +kernel
theorem dR_tree_83 : decode prog_8_method_48_code 83 = .ok (.istore 6, 2) := by decide +kernel
theorem dR_tree_85 : decode prog_8_method_48_code 85 = .ok (.iload 6, 2) := by decide +kernel
theorem dR_tree_87 : decode prog_8_method_48_code 87 = .ok (.iload 5, 2) := by decide +kernel
theorem dR_tree_89 : decode prog_8_method_48_code 89 = .ok (.if_icmp .ge 56, 3) := by decide +kernel
theorem dR_tree_92 : decode prog_8_method_48_code 92 = .ok (.bipush 31, 2) := by decide +kernel
theorem dR_tree_94 : decode prog_8_method_48_code 94 = .ok (.aload_n 0, 1) := by decide +kernel
theorem dR_tree_95 : decode prog_8_method_48_code 95 = .ok (.getfield 80, 3) := by decide +kernel
theorem dR_tree_98 : decode prog_8_method_48_code 98 = .ok (.iconst 2, 1) := by decide +kernel
theorem dR_tree_99 : decode prog_8_method_48_code 99 = .ok (.iload 6, 2) := by decide +kernel
theorem dR_tree_101 : decode prog_8_method_48_code 101 = .ok (.imul, 1) := by decide +kernel
theorem dR_tree_102 : decode prog_8_method_48_code 102 = .ok (.iaload, 1) := by decide +kernel
theorem dR_tree_103 : decode prog_8_method_48_code 103 = .ok (.imul, 1) := by decide +kernel
theorem dR_tree_104 : decode prog_8_method_48_code 104 = .ok (.bipush 17, 2) := by decide +kernel
theorem dR_tree_106 : decode prog_8_method_48_code 106 = .ok (.aload_n 0, 1) := by decide +kernel
theorem dR_tree_107 : decode prog_8_method_48_code 107 = .ok (.getfield 80, 3) := by decide +kernel
theorem dR_tree_110 : decode prog_8_method_48_code 110 = .ok (.iconst 2, 1) := by decide +kernel
theorem dR_tree_111 : decode prog_8_method_48_code 111 = .ok (.iload 6, 2) := by decide +kernel
theorem dR_tree_113 : decode prog_8_method_48_code 113 = .ok (.imul, 1) := by decide +kernel
theorem dR_tree_114 : decode prog_8_method_48_code 114 = .ok (.iconst 1, 1) := by decide +kernel
theorem dR_tree_115 : decode prog_8_method_48_code 115 = .ok (.iadd, 1) := by decide +kernel
theorem dR_tree_116 : decode prog_8_method_48_code 116 = .ok (.iaload, 1) := by decide +kernel
theorem dR_tree_117 : decode prog_8_method_48_code 117 = .ok (.imul, 1) := by decide +kernel
theorem dR_tree_118 : decode prog_8_method_48_code 118 = .ok (.iadd, 1) := by decide +kernel
theorem dR_tree_119 : decode prog_8_method_48_code 119 = .ok (.bipush 7, 2) := by decide +kernel
theorem dR_tree_121 : decode prog_8_method_48_code 121 = .ok (.iadd, 1) := by decide +kernel
theorem dR_tree_122 : decode prog_8_method_48_code 122 = .ok (.istore 7, 2) := by decide +kernel
theorem dR_tree_124 : decode prog_8_method_48_code 124 = .ok (.aload_n 0, 1) := by decide +kernel
theorem dR_tree_125 : decode prog_8_method_48_code 125 = .ok (.getfield 80, 3) := by decide +kernel
theorem dR_tree_128 : decode prog_8_method_48_code 128 = .ok (.iload 6, 2) := by decide +kernel
theorem dR_tree_130 : decode prog_8_method_48_code 130 = .ok (.iload 7, 2) := by decide +kernel
theorem dR_tree_132 : decode prog_8_method_48_code 132 = .ok (.iload 7, 2) := by decide +kernel
theorem dR_tree_134 : decode prog_8_method_48_code 134 = .ok (.bipush 13, 2) := by decide +kernel
theorem dR_tree_136 : decode prog_8_method_48_code 136 = .ok (.iushr, 1) := by decide +kernel
theorem dR_tree_137 : decode prog_8_method_48_code 137 = .ok (.ixor, 1) := by decide +kernel
theorem dR_tree_138 : decode prog_8_method_48_code 138 = .ok (.iastore, 1) := by decide +kernel
theorem dR_tree_139 : decode prog_8_method_48_code 139 = .ok (.iinc 6 1, 3) := by decide +kernel
theorem dR_tree_142 : decode prog_8_method_48_code 142 = .ok (.goto (-57), 3) := by decide +kernel
theorem dR_tree_145 : decode prog_8_method_48_code 145 = .ok (.iload 5, 2) := by decide +kernel
theorem dR_tree_147 : decode prog_8_method_48_code 147 = .ok (.iconst 2, 1) := by decide +kernel
theorem dR_tree_148 : decode prog_8_method_48_code 148 = .ok (.idiv, 1) := by decide +kernel
theorem dR_tree_149 : decode prog_8_method_48_code 149 = .ok (.istore 5, 2) := by decide +kernel
theorem dR_tree_151 : decode prog_8_method_48_code 151 = .ok (.goto (-74), 3) := by decide +kernel
theorem dR_tree_154 : decode prog_8_method_48_code 154 = .ok (.aload_n 0, 1) := by decide +kernel
theorem dR_tree_155 : decode prog_8_method_48_code 155 = .ok (.getfield 80, 3) := by decide +kernel
theorem dR_tree_158 : decode prog_8_method_48_code 158 = .ok (.iconst 0, 1) := by decide +kernel
theorem dR_tree_159 : decode prog_8_method_48_code 159 = .ok (.iaload, 1) := by decide +kernel
theorem dR_tree_160 : decode prog_8_method_48_code 160 = .ok (.ireturn, 1) := by decide +kernel
theorem dR_leaf_0 : decode prog_8_method_47_code 0 = .ok (.iload_n 2, 1) := by decide +kernel
theorem dR_leaf_1 : decode prog_8_method_47_code 1 = .ok (.iconst 3, 1) := by decide +kernel
theorem dR_leaf_2 : decode prog_8_method_47_code 2 = .ok (.if_icmp .lt 40, 3) := by decide +kernel
theorem dR_leaf_5 : decode prog_8_method_47_code 5 = .ok (.iload_n 2, 1) := by decide +kernel
theorem dR_leaf_6 : decode prog_8_method_47_code 6 = .ok (.bipush 6, 2) := by decide +kernel
theorem dR_leaf_8 : decode prog_8_method_47_code 8 = .ok (.if_icmp .gt 34, 3) := by decide +kernel
theorem dR_leaf_11 : decode prog_8_method_47_code 11 = .ok (.iload_n 2, 1) := by decide +kernel
theorem dR_leaf_12 : decode prog_8_method_47_code 12 = .ok (.iconst 3, 1) := by decide +kernel
theorem dR_leaf_13 : decode prog_8_method_47_code 13 = .ok (.isub, 1) := by decide +kernel
theorem dR_leaf_14 : decode prog_8_method_47_code 14 = .ok (.aload_n 0, 1) := by decide +kernel
theorem dR_leaf_15 : decode prog_8_method_47_code 15 = .ok (.getfield 35, 3) := by decide +kernel
theorem dR_leaf_18 : decode prog_8_method_47_code 18 = .ok (.iload_n 1, 1) := by decide +kernel
theorem dR_leaf_19 : decode prog_8_method_47_code 19 = .ok (.iaload, 1) := by decide +kernel
theorem dR_leaf_20 : decode prog_8_method_47_code 20 = .ok (.if_icmp .ge 20, 3) := by decide +kernel
theorem dR_leaf_23 : decode prog_8_method_47_code 23 = .ok (.iconst 1, 1) := by decide +kernel
theorem dR_leaf_24 : decode prog_8_method_47_code 24 = .ok (.aload_n 0, 1) := by decide +kernel
theorem dR_leaf_25 : decode prog_8_method_47_code 25 = .ok (.getfield 41, 3) := by decide +kernel
theorem dR_leaf_28 : decode prog_8_method_47_code 28 = .ok (.iconst 4, 1) := by decide +kernel
theorem dR_leaf_29 : decode prog_8_method_47_code 29 = .ok (.iload_n 1, 1) := by decide +kernel
theorem dR_leaf_30 : decode prog_8_method_47_code 30 = .ok (.imul, 1) := by decide +kernel
theorem dR_leaf_31 : decode prog_8_method_47_code 31 = .ok (.iload_n 2, 1) := by decide +kernel
theorem dR_leaf_32 : decode prog_8_method_47_code 32 = .ok (.iadd, 1) := by decide +kernel
theorem dR_leaf_33 : decode prog_8_method_47_code 33 = .ok (.iconst 3, 1) := by decide +kernel
theorem dR_leaf_34 : decode prog_8_method_47_code 34 = .ok (.isub, 1) := by decide +kernel
theorem dR_leaf_35 : decode prog_8_method_47_code 35 = .ok (.iaload, 1) := by decide +kernel
theorem dR_leaf_36 : decode prog_8_method_47_code 36 = .ok (.iadd, 1) := by decide +kernel
theorem dR_leaf_37 : decode prog_8_method_47_code 37 = .ok (.goto 4, 3) := by decide +kernel
theorem dR_leaf_40 : decode prog_8_method_47_code 40 = .ok (.iconst 0, 1) := by decide +kernel
theorem dR_leaf_41 : decode prog_8_method_47_code 41 = .ok (.ireturn, 1) := by decide +kernel
theorem dR_leaf_42 : decode prog_8_method_47_code 42 = .ok (.iload_n 2, 1) := by decide +kernel
theorem dR_leaf_43 : decode prog_8_method_47_code 43 = .ok (.bipush 8, 2) := by decide +kernel
theorem dR_leaf_45 : decode prog_8_method_47_code 45 = .ok (.if_icmp .lt 85, 3) := by decide +kernel
theorem dR_leaf_48 : decode prog_8_method_47_code 48 = .ok (.iload_n 2, 1) := by decide +kernel
theorem dR_leaf_49 : decode prog_8_method_47_code 49 = .ok (.bipush 11, 2) := by decide +kernel
theorem dR_leaf_51 : decode prog_8_method_47_code 51 = .ok (.if_icmp .gt 79, 3) := by decide +kernel
theorem dR_leaf_54 : decode prog_8_method_47_code 54 = .ok (.iconst 4, 1) := by decide +kernel
theorem dR_leaf_55 : decode prog_8_method_47_code 55 = .ok (.iload_n 1, 1) := by decide +kernel
theorem dR_leaf_56 : decode prog_8_method_47_code 56 = .ok (.imul, 1) := by decide +kernel
theorem dR_leaf_57 : decode prog_8_method_47_code 57 = .ok (.iload_n 2, 1) := by decide +kernel
theorem dR_leaf_58 : decode prog_8_method_47_code 58 = .ok (.iadd, 1) := by decide +kernel
theorem dR_leaf_59 : decode prog_8_method_47_code 59 = .ok (.bipush 8, 2) := by decide +kernel
theorem dR_leaf_61 : decode prog_8_method_47_code 61 = .ok (.isub, 1) := by decide +kernel
theorem dR_leaf_62 : decode prog_8_method_47_code 62 = .ok (.istore_n 3, 1) := by decide +kernel
theorem dR_leaf_63 : decode prog_8_method_47_code 63 = .ok (.iload_n 2, 1) := by decide +kernel
theorem dR_leaf_64 : decode prog_8_method_47_code 64 = .ok (.bipush 8, 2) := by decide +kernel
theorem dR_leaf_66 : decode prog_8_method_47_code 66 = .ok (.isub, 1) := by decide +kernel
theorem dR_leaf_67 : decode prog_8_method_47_code 67 = .ok (.aload_n 0, 1) := by decide +kernel
theorem dR_leaf_68 : decode prog_8_method_47_code 68 = .ok (.getfield 38, 3) := by decide +kernel
theorem dR_leaf_71 : decode prog_8_method_47_code 71 = .ok (.iload_n 1, 1) := by decide +kernel
theorem dR_leaf_72 : decode prog_8_method_47_code 72 = .ok (.iaload, 1) := by decide +kernel
theorem dR_leaf_73 : decode prog_8_method_47_code 73 = .ok (.if_icmp .lt 7, 3) := by decide +kernel
theorem dR_leaf_76 : decode prog_8_method_47_code 76 = .ok (.iconst 0, 1) := by decide +kernel
theorem dR_leaf_77 : decode prog_8_method_47_code 77 = .ok (.goto 52, 3) := by decide +kernel
theorem dR_leaf_80 : decode prog_8_method_47_code 80 = .ok (.iconst 1, 1) := by decide +kernel
theorem dR_leaf_81 : decode prog_8_method_47_code 81 = .ok (.aload_n 0, 1) := by decide +kernel
theorem dR_leaf_82 : decode prog_8_method_47_code 82 = .ok (.getfield 44, 3) := by decide +kernel
theorem dR_leaf_85 : decode prog_8_method_47_code 85 = .ok (.iload_n 3, 1) := by decide +kernel
theorem dR_leaf_86 : decode prog_8_method_47_code 86 = .ok (.iaload, 1) := by decide +kernel
theorem dR_leaf_87 : decode prog_8_method_47_code 87 = .ok (.iadd, 1) := by decide +kernel
theorem dR_leaf_88 : decode prog_8_method_47_code 88 = .ok (.iconst 3, 1) := by decide +kernel
theorem dR_leaf_89 : decode prog_8_method_47_code 89 = .ok (.aload_n 0, 1) := by decide +kernel
theorem dR_leaf_90 : decode prog_8_method_47_code 90 = .ok (.getfield 47, 3) := by decide +kernel
theorem dR_leaf_93 : decode prog_8_method_47_code 93 = .ok (.iload_n 3, 1) := by decide +kernel
theorem dR_leaf_94 : decode prog_8_method_47_code 94 = .ok (.iaload, 1) := by decide +kernel
theorem dR_leaf_95 : decode prog_8_method_47_code 95 = .ok (.imul, 1) := by decide +kernel
theorem dR_leaf_96 : decode prog_8_method_47_code 96 = .ok (.iadd, 1) := by decide +kernel
theorem dR_leaf_97 : decode prog_8_method_47_code 97 = .ok (.bipush 12, 2) := by decide +kernel
theorem dR_leaf_99 : decode prog_8_method_47_code 99 = .ok (.aload_n 0, 1) := by decide +kernel
theorem dR_leaf_100 : decode prog_8_method_47_code 100 = .ok (.getfield 50, 3) := by decide +kernel
theorem dR_leaf_103 : decode prog_8_method_47_code 103 = .ok (.iload_n 3, 1) := by decide +kernel
theorem dR_leaf_104 : decode prog_8_method_47_code 104 = .ok (.iaload, 1) := by decide +kernel
theorem dR_leaf_105 : decode prog_8_method_47_code 105 = .ok (.imul, 1) := by decide +kernel
theorem dR_leaf_106 : decode prog_8_method_47_code 106 = .ok (.iadd, 1) := by decide +kernel
theorem dR_leaf_107 : decode prog_8_method_47_code 107 = .ok (.bipush 48, 2) := by decide +kernel
theorem dR_leaf_109 : decode prog_8_method_47_code 109 = .ok (.aload_n 0, 1) := by decide +kernel
theorem dR_leaf_110 : decode prog_8_method_47_code 110 = .ok (.getfield 53, 3) := by decide +kernel
theorem dR_leaf_113 : decode prog_8_method_47_code 113 = .ok (.iload_n 3, 1) := by decide +kernel
theorem dR_leaf_114 : decode prog_8_method_47_code 114 = .ok (.iaload, 1) := by decide +kernel
theorem dR_leaf_115 : decode prog_8_method_47_code 115 = .ok (.imul, 1) := by decide +kernel
theorem dR_leaf_116 : decode prog_8_method_47_code 116 = .ok (.iadd, 1) := by decide +kernel
theorem dR_leaf_117 : decode prog_8_method_47_code 117 = .ok (.ldc 184, 2) := by decide +kernel
theorem dR_leaf_119 : decode prog_8_method_47_code 119 = .ok (.aload_n 0, 1) := by decide +kernel
theorem dR_leaf_120 : decode prog_8_method_47_code 120 = .ok (.getfield 56, 3) := by decide +kernel
theorem dR_leaf_123 : decode prog_8_method_47_code 123 = .ok (.iload_n 3, 1) := by decide +kernel
theorem dR_leaf_124 : decode prog_8_method_47_code 124 = .ok (.iaload, 1) := by decide +kernel
theorem dR_leaf_125 : decode prog_8_method_47_code 125 = .ok (.iconst 1, 1) := by decide +kernel
theorem dR_leaf_126 : decode prog_8_method_47_code 126 = .ok (.iadd, 1) := by decide +kernel
theorem dR_leaf_127 : decode prog_8_method_47_code 127 = .ok (.imul, 1) := by decide +kernel
theorem dR_leaf_128 : decode prog_8_method_47_code 128 = .ok (.iadd, 1) := by decide +kernel
theorem dR_leaf_129 : decode prog_8_method_47_code 129 = .ok (.ireturn, 1) := by decide +kernel
theorem dR_leaf_130 : decode prog_8_method_47_code 130 = .ok (.iload_n 2, 1) := by decide +kernel
theorem dR_leaf_131 : decode prog_8_method_47_code 131 = .ok (.ifCond .ne 12, 3) := by decide +kernel
theorem dR_leaf_134 : decode prog_8_method_47_code 134 = .ok (.aload_n 0, 1) := by decide +kernel
theorem dR_leaf_135 : decode prog_8_method_47_code 135 = .ok (.getfield 13, 3) := by decide +kernel
theorem dR_leaf_138 : decode prog_8_method_47_code 138 = .ok (.iload_n 1, 1) := by decide +kernel
theorem dR_leaf_139 : decode prog_8_method_47_code 139 = .ok (.iaload, 1) := by decide +kernel
theorem dR_leaf_140 : decode prog_8_method_47_code 140 = .ok (.goto 71, 3) := by decide +kernel
theorem dR_leaf_143 : decode prog_8_method_47_code 143 = .ok (.iload_n 2, 1) := by decide +kernel
theorem dR_leaf_144 : decode prog_8_method_47_code 144 = .ok (.iconst 1, 1) := by decide +kernel
theorem dR_leaf_145 : decode prog_8_method_47_code 145 = .ok (.if_icmp .ne 12, 3) := by decide +kernel
theorem dR_leaf_148 : decode prog_8_method_47_code 148 = .ok (.aload_n 0, 1) := by decide +kernel
theorem dR_leaf_149 : decode prog_8_method_47_code 149 = .ok (.getfield 16, 3) := by decide +kernel
theorem dR_leaf_152 : decode prog_8_method_47_code 152 = .ok (.iload_n 1, 1) := by decide +kernel
theorem dR_leaf_153 : decode prog_8_method_47_code 153 = .ok (.iaload, 1) := by decide +kernel
theorem dR_leaf_154 : decode prog_8_method_47_code 154 = .ok (.goto 57, 3) := by decide +kernel
theorem dR_leaf_157 : decode prog_8_method_47_code 157 = .ok (.iload_n 2, 1) := by decide +kernel
theorem dR_leaf_158 : decode prog_8_method_47_code 158 = .ok (.iconst 2, 1) := by decide +kernel
theorem dR_leaf_159 : decode prog_8_method_47_code 159 = .ok (.if_icmp .ne 12, 3) := by decide +kernel
theorem dR_leaf_162 : decode prog_8_method_47_code 162 = .ok (.aload_n 0, 1) := by decide +kernel
theorem dR_leaf_163 : decode prog_8_method_47_code 163 = .ok (.getfield 19, 3) := by decide +kernel
theorem dR_leaf_166 : decode prog_8_method_47_code 166 = .ok (.iload_n 1, 1) := by decide +kernel
theorem dR_leaf_167 : decode prog_8_method_47_code 167 = .ok (.iaload, 1) := by decide +kernel
theorem dR_leaf_168 : decode prog_8_method_47_code 168 = .ok (.goto 43, 3) := by decide +kernel
theorem dR_leaf_171 : decode prog_8_method_47_code 171 = .ok (.iload_n 2, 1) := by decide +kernel
theorem dR_leaf_172 : decode prog_8_method_47_code 172 = .ok (.bipush 7, 2) := by decide +kernel
theorem dR_leaf_174 : decode prog_8_method_47_code 174 = .ok (.if_icmp .ne 12, 3) := by decide +kernel
theorem dR_leaf_177 : decode prog_8_method_47_code 177 = .ok (.aload_n 0, 1) := by decide +kernel
theorem dR_leaf_178 : decode prog_8_method_47_code 178 = .ok (.getfield 7, 3) := by decide +kernel
theorem dR_leaf_181 : decode prog_8_method_47_code 181 = .ok (.iload_n 1, 1) := by decide +kernel
theorem dR_leaf_182 : decode prog_8_method_47_code 182 = .ok (.iaload, 1) := by decide +kernel
theorem dR_leaf_183 : decode prog_8_method_47_code 183 = .ok (.goto 28, 3) := by decide +kernel
theorem dR_leaf_186 : decode prog_8_method_47_code 186 = .ok (.iload_n 2, 1) := by decide +kernel
theorem dR_leaf_187 : decode prog_8_method_47_code 187 = .ok (.bipush 12, 2) := by decide +kernel
theorem dR_leaf_189 : decode prog_8_method_47_code 189 = .ok (.if_icmp .ne 11, 3) := by decide +kernel
theorem dR_leaf_192 : decode prog_8_method_47_code 192 = .ok (.aload_n 0, 1) := by decide +kernel
theorem dR_leaf_193 : decode prog_8_method_47_code 193 = .ok (.iload_n 1, 1) := by decide +kernel
theorem dR_leaf_194 : decode prog_8_method_47_code 194 = .ok (.invokevirtual 133, 3) := by decide +kernel
theorem dR_leaf_197 : decode prog_8_method_47_code 197 = .ok (.goto 14, 3) := by decide +kernel
theorem dR_leaf_200 : decode prog_8_method_47_code 200 = .ok (.iload_n 2, 1) := by decide +kernel
theorem dR_leaf_201 : decode prog_8_method_47_code 201 = .ok (.bipush 15, 2) := by decide +kernel
theorem dR_leaf_203 : decode prog_8_method_47_code 203 = .ok (.if_icmp .ne 7, 3) := by decide +kernel
theorem dR_leaf_206 : decode prog_8_method_47_code 206 = .ok (.iload_n 1, 1) := by decide +kernel
theorem dR_leaf_207 : decode prog_8_method_47_code 207 = .ok (.goto 4, 3) := by decide +kernel
theorem dR_leaf_210 : decode prog_8_method_47_code 210 = .ok (.iconst 0, 1) := by decide +kernel
theorem dR_leaf_211 : decode prog_8_method_47_code 211 = .ok (.ireturn, 1) := by decide +kernel
