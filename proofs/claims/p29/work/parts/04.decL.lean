theorem dL_cell_0 : decode cL_cell 0 = .ok (.iload_n 1, 1) := by decide +kernel
theorem dL_cell_1 : decode cL_cell 1 = .ok (.aload_n 0, 1) := by decide +kernel
theorem dL_cell_2 : decode cL_cell 2 = .ok (.arraylength, 1) := by decide +kernel
theorem dL_cell_3 : decode cL_cell 3 = .ok (.if_icmp .ge 9, 3) := by decide +kernel
theorem dL_cell_6 : decode cL_cell 6 = .ok (.aload_n 0, 1) := by decide +kernel
theorem dL_cell_7 : decode cL_cell 7 = .ok (.iload_n 1, 1) := by decide +kernel
theorem dL_cell_8 : decode cL_cell 8 = .ok (.iaload, 1) := by decide +kernel
theorem dL_cell_9 : decode cL_cell 9 = .ok (.goto 9, 3) := by decide +kernel
theorem dL_cell_12 : decode cL_cell 12 = .ok (.ldc 7, 2) := by decide +kernel
theorem dL_cell_14 : decode cL_cell 14 = .ok (.iload_n 1, 1) := by decide +kernel
theorem dL_cell_15 : decode cL_cell 15 = .ok (.iconst 3, 1) := by decide +kernel
theorem dL_cell_16 : decode cL_cell 16 = .ok (.iadd, 1) := by decide +kernel
theorem dL_cell_17 : decode cL_cell 17 = .ok (.imul, 1) := by decide +kernel
theorem dL_cell_18 : decode cL_cell 18 = .ok (.istore_n 2, 1) := by decide +kernel
theorem dL_cell_19 : decode cL_cell 19 = .ok (.iload_n 2, 1) := by decide +kernel
theorem dL_cell_20 : decode cL_cell 20 = .ok (.iload_n 2, 1) := by decide +kernel
theorem dL_cell_21 : decode cL_cell 21 = .ok (.bipush 15, 2) := by decide +kernel
theorem dL_cell_23 : decode cL_cell 23 = .ok (.iushr, 1) := by decide +kernel
theorem dL_cell_24 : decode cL_cell 24 = .ok (.ixor, 1) := by decide +kernel
theorem dL_cell_25 : decode cL_cell 25 = .ok (.ireturn, 1) := by decide +kernel
theorem dL_low_0 : decode cL_low 0 = .ok (.iload_n 0, 1) := by decide +kernel
theorem dL_low_1 : decode cL_low 1 = .ok (.ldc 8, 2) := by decide +kernel
theorem dL_low_3 : decode cL_low 3 = .ok (.iand, 1) := by decide +kernel
theorem dL_low_4 : decode cL_low 4 = .ok (.iload_n 1, 1) := by decide +kernel
theorem dL_low_5 : decode cL_low 5 = .ok (.irem, 1) := by decide +kernel
theorem dL_low_6 : decode cL_low 6 = .ok (.ireturn, 1) := by decide +kernel
theorem dL_period_0 : decode cL_period 0 = .ok (.sipush 4080, 3) := by decide +kernel
theorem dL_period_3 : decode cL_period 3 = .ok (.bipush 15, 2) := by decide +kernel
theorem dL_period_5 : decode cL_period 5 = .ok (.iload_n 0, 1) := by decide +kernel
theorem dL_period_6 : decode cL_period 6 = .ok (.iadd, 1) := by decide +kernel
theorem dL_period_7 : decode cL_period 7 = .ok (.idiv, 1) := by decide +kernel
theorem dL_period_8 : decode cL_period 8 = .ok (.ireturn, 1) := by decide +kernel
theorem dL_rest_0 : decode cL_rest 0 = .ok (.iload_n 0, 1) := by decide +kernel
theorem dL_rest_1 : decode cL_rest 1 = .ok (.iload_n 1, 1) := by decide +kernel
theorem dL_rest_2 : decode cL_rest 2 = .ok (.irem, 1) := by decide +kernel
theorem dL_rest_3 : decode cL_rest 3 = .ok (.iload_n 1, 1) := by decide +kernel
theorem dL_rest_4 : decode cL_rest 4 = .ok (.iadd, 1) := by decide +kernel
theorem dL_rest_5 : decode cL_rest 5 = .ok (.iload_n 1, 1) := by decide +kernel
theorem dL_rest_6 : decode cL_rest 6 = .ok (.irem, 1) := by decide +kernel
theorem dL_rest_7 : decode cL_rest 7 = .ok (.ireturn, 1) := by decide +kernel
theorem dL_near_0 : decode cL_near 0 = .ok (.iload_n 0, 1) := by decide +kernel
theorem dL_near_1 : decode cL_near 1 = .ok (.iload_n 1, 1) := by decide +kernel
theorem dL_near_2 : decode cL_near 2 = .ok (.invokestatic 9, 3) := by decide +kernel
theorem dL_near_5 : decode cL_near 5 = .ok (.istore_n 2, 1) := by decide +kernel
theorem dL_near_6 : decode cL_near 6 = .ok (.iload_n 2, 1) := by decide +kernel
theorem dL_near_7 : decode cL_near 7 = .ok (.iload_n 1, 1) := by decide +kernel
theorem dL_near_8 : decode cL_near 8 = .ok (.iload_n 2, 1) := by decide +kernel
theorem dL_near_9 : decode cL_near 9 = .ok (.isub, 1) := by decide +kernel
theorem dL_near_10 : decode cL_near 10 = .ok (.if_icmp .ge 7, 3) := by decide +kernel
theorem dL_near_13 : decode cL_near 13 = .ok (.iload_n 2, 1) := by decide +kernel
theorem dL_near_14 : decode cL_near 14 = .ok (.goto 6, 3) := by decide +kernel
theorem dL_near_17 : decode cL_near 17 = .ok (.iload_n 1, 1) := by decide +kernel
theorem dL_near_18 : decode cL_near 18 = .ok (.iload_n 2, 1) := by decide +kernel
theorem dL_near_19 : decode cL_near 19 = .ok (.isub, 1) := by decide +kernel
theorem dL_near_20 : decode cL_near 20 = .ok (.ireturn, 1) := by decide +kernel
theorem dL_sum_0 : decode cL_sum 0 = .ok (.ldc2_w 15, 3) := by decide +kernel
theorem dL_sum_3 : decode cL_sum 3 = .ok (.lstore_n 1, 1) := by decide +kernel
theorem dL_sum_4 : decode cL_sum 4 = .ok (.iconst 0, 1) := by decide +kernel
theorem dL_sum_5 : decode cL_sum 5 = .ok (.istore_n 3, 1) := by decide +kernel
theorem dL_sum_6 : decode cL_sum 6 = .ok (.iload_n 3, 1) := by decide +kernel
theorem dL_sum_7 : decode cL_sum 7 = .ok (.bipush 12, 2) := by decide +kernel
theorem dL_sum_9 : decode cL_sum 9 = .ok (.if_icmp .ge 32, 3) := by decide +kernel
theorem dL_sum_12 : decode cL_sum 12 = .ok (.ldc2_w 17, 3) := by decide +kernel
theorem dL_sum_15 : decode cL_sum 15 = .ok (.lload_n 1, 1) := by decide +kernel
theorem dL_sum_16 : decode cL_sum 16 = .ok (.lmul, 1) := by decide +kernel
theorem dL_sum_17 : decode cL_sum 17 = .ok (.iload_n 3, 1) := by decide +kernel
theorem dL_sum_18 : decode cL_sum 18 = .ok (.bipush 10, 2) := by decide +kernel
theorem dL_sum_20 : decode cL_sum 20 = .ok (.if_icmp .ne 7, 3) := by decide +kernel
theorem dL_sum_23 : decode cL_sum 23 = .ok (.iconst 0, 1) := by decide +kernel
theorem dL_sum_24 : decode cL_sum 24 = .ok (.goto 8, 3) := by decide +kernel
theorem dL_sum_27 : decode cL_sum 27 = .ok (.aload_n 0, 1) := by decide +kernel
theorem dL_sum_28 : decode cL_sum 28 = .ok (.iload_n 3, 1) := by decide +kernel
theorem dL_sum_29 : decode cL_sum 29 = .ok (.invokevirtual 19, 3) := by decide +kernel
theorem dL_sum_32 : decode cL_sum 32 = .ok (.i2l, 1) := by decide +kernel
theorem dL_sum_33 : decode cL_sum 33 = .ok (.ladd, 1) := by decide +kernel
theorem dL_sum_34 : decode cL_sum 34 = .ok (.lstore_n 1, 1) := by decide +kernel
theorem dL_sum_35 : decode cL_sum 35 = .ok (.iinc 3 1, 3) := by decide +kernel
theorem dL_sum_38 : decode cL_sum 38 = .ok (.goto (-32), 3) := by decide +kernel
theorem dL_sum_41 : decode cL_sum 41 = .ok (.iconst 0, 1) := by decide +kernel
theorem dL_sum_42 : decode cL_sum 42 = .ok (.istore_n 3, 1) := by decide +kernel
theorem dL_sum_43 : decode cL_sum 43 = .ok (.iload_n 3, 1) := by decide +kernel
theorem dL_sum_44 : decode cL_sum 44 = .ok (.bipush 24, 2) := by decide +kernel
theorem dL_sum_46 : decode cL_sum 46 = .ok (.if_icmp .ge 29, 3) := by decide +kernel
theorem dL_sum_49 : decode cL_sum 49 = .ok (.ldc2_w 17, 3) := by decide +kernel
theorem dL_sum_52 : decode cL_sum 52 = .ok (.lload_n 1, 1) := by decide +kernel
theorem dL_sum_53 : decode cL_sum 53 = .ok (.lmul, 1) := by decide +kernel
theorem dL_sum_54 : decode cL_sum 54 = .ok (.aload_n 0, 1) := by decide +kernel
theorem dL_sum_55 : decode cL_sum 55 = .ok (.iload_n 3, 1) := by decide +kernel
theorem dL_sum_56 : decode cL_sum 56 = .ok (.bipush 8, 2) := by decide +kernel
theorem dL_sum_58 : decode cL_sum 58 = .ok (.idiv, 1) := by decide +kernel
theorem dL_sum_59 : decode cL_sum 59 = .ok (.iload_n 3, 1) := by decide +kernel
theorem dL_sum_60 : decode cL_sum 60 = .ok (.bipush 8, 2) := by decide +kernel
theorem dL_sum_62 : decode cL_sum 62 = .ok (.irem, 1) := by decide +kernel
theorem dL_sum_63 : decode cL_sum 63 = .ok (.invokevirtual 25, 3) := by decide +kernel
theorem dL_sum_66 : decode cL_sum 66 = .ok (.i2l, 1) := by decide +kernel
theorem dL_sum_67 : decode cL_sum 67 = .ok (.ladd, 1) := by decide +kernel
theorem dL_sum_68 : decode cL_sum 68 = .ok (.lstore_n 1, 1) := by decide +kernel
theorem dL_sum_69 : decode cL_sum 69 = .ok (.iinc 3 1, 3) := by decide +kernel
theorem dL_sum_72 : decode cL_sum 72 = .ok (.goto (-29), 3) := by decide +kernel
theorem dL_sum_75 : decode cL_sum 75 = .ok (.iconst 0, 1) := by decide +kernel
theorem dL_sum_76 : decode cL_sum 76 = .ok (.istore_n 3, 1) := by decide +kernel
theorem dL_sum_77 : decode cL_sum 77 = .ok (.iload_n 3, 1) := by decide +kernel
theorem dL_sum_78 : decode cL_sum 78 = .ok (.iconst 4, 1) := by decide +kernel
theorem dL_sum_79 : decode cL_sum 79 = .ok (.if_icmp .ge 49, 3) := by decide +kernel
theorem dL_sum_82 : decode cL_sum 82 = .ok (.ldc2_w 17, 3) := by decide +kernel
theorem dL_sum_85 : decode cL_sum 85 = .ok (.lload_n 1, 1) := by decide +kernel
theorem dL_sum_86 : decode cL_sum 86 = .ok (.lmul, 1) := by decide +kernel
theorem dL_sum_87 : decode cL_sum 87 = .ok (.aload_n 0, 1) := by decide +kernel
theorem dL_sum_88 : decode cL_sum 88 = .ok (.bipush 20, 2) := by decide +kernel
theorem dL_sum_90 : decode cL_sum 90 = .ok (.iload_n 3, 1) := by decide +kernel
theorem dL_sum_91 : decode cL_sum 91 = .ok (.iadd, 1) := by decide +kernel
theorem dL_sum_92 : decode cL_sum 92 = .ok (.invokevirtual 19, 3) := by decide +kernel
theorem dL_sum_95 : decode cL_sum 95 = .ok (.i2l, 1) := by decide +kernel
theorem dL_sum_96 : decode cL_sum 96 = .ok (.ladd, 1) := by decide +kernel
theorem dL_sum_97 : decode cL_sum 97 = .ok (.iload_n 3, 1) := by decide +kernel
theorem dL_sum_98 : decode cL_sum 98 = .ok (.iconst 3, 1) := by decide +kernel
theorem dL_sum_99 : decode cL_sum 99 = .ok (.if_icmp .ge 16, 3) := by decide +kernel
theorem dL_sum_102 : decode cL_sum 102 = .ok (.ldc2_w 28, 3) := by decide +kernel
theorem dL_sum_105 : decode cL_sum 105 = .ok (.aload_n 0, 1) := by decide +kernel
theorem dL_sum_106 : decode cL_sum 106 = .ok (.iload_n 3, 1) := by decide +kernel
theorem dL_sum_107 : decode cL_sum 107 = .ok (.invokevirtual 30, 3) := by decide +kernel
theorem dL_sum_110 : decode cL_sum 110 = .ok (.i2l, 1) := by decide +kernel
theorem dL_sum_111 : decode cL_sum 111 = .ok (.lmul, 1) := by decide +kernel
theorem dL_sum_112 : decode cL_sum 112 = .ok (.goto 8, 3) := by decide +kernel
theorem dL_sum_115 : decode cL_sum 115 = .ok (.aload_n 0, 1) := by decide +kernel
theorem dL_sum_116 : decode cL_sum 116 = .ok (.invokevirtual 33, 3) := by decide +kernel
theorem dL_sum_119 : decode cL_sum 119 = .ok (.i2l, 1) := by decide +kernel
theorem dL_sum_120 : decode cL_sum 120 = .ok (.ladd, 1) := by decide +kernel
theorem dL_sum_121 : decode cL_sum 121 = .ok (.lstore_n 1, 1) := by decide +kernel
theorem dL_sum_122 : decode cL_sum 122 = .ok (.iinc 3 1, 3) := by decide +kernel
theorem dL_sum_125 : decode cL_sum 125 = .ok (.goto (-48), 3) := by decide +kernel
theorem dL_sum_128 : decode cL_sum 128 = .ok (.lload_n 1, 1) := by decide +kernel
theorem dL_sum_129 : decode cL_sum 129 = .ok (.lreturn, 1) := by decide +kernel
theorem dL_refused_0 : decode cL_refused 0 = .ok (.aload_n 0, 1) := by decide +kernel
theorem dL_refused_1 : decode cL_refused 1 = .ok (.invokestatic 37, 3) := by decide +kernel
theorem dL_refused_4 : decode cL_refused 4 = .ok (.lstore_n 1, 1) := by decide +kernel
theorem dL_refused_5 : decode cL_refused 5 = .ok (.aload_n 0, 1) := by decide +kernel
theorem dL_refused_6 : decode cL_refused 6 = .ok (.bipush 10, 2) := by decide +kernel
theorem dL_refused_8 : decode cL_refused 8 = .ok (.invokevirtual 19, 3) := by decide +kernel
theorem dL_refused_11 : decode cL_refused 11 = .ok (.istore_n 3, 1) := by decide +kernel
theorem dL_refused_12 : decode cL_refused 12 = .ok (.aload_n 0, 1) := by decide +kernel
theorem dL_refused_13 : decode cL_refused 13 = .ok (.sipush 10000, 3) := by decide +kernel
theorem dL_refused_16 : decode cL_refused 16 = .ok (.invokevirtual 41, 3) := by decide +kernel
theorem dL_refused_19 : decode cL_refused 19 = .ok (.iconst (-1), 1) := by decide +kernel
theorem dL_refused_20 : decode cL_refused 20 = .ok (.if_icmp .ne 166, 3) := by decide +kernel
theorem dL_refused_23 : decode cL_refused 23 = .ok (.aload_n 0, 1) := by decide +kernel
theorem dL_refused_24 : decode cL_refused 24 = .ok (.sipush (-10000), 3) := by decide +kernel
theorem dL_refused_27 : decode cL_refused 27 = .ok (.invokevirtual 41, 3) := by decide +kernel
theorem dL_refused_30 : decode cL_refused 30 = .ok (.iconst (-1), 1) := by decide +kernel
theorem dL_refused_31 : decode cL_refused 31 = .ok (.if_icmp .ne 155, 3) := by decide +kernel
theorem dL_refused_34 : decode cL_refused 34 = .ok (.aload_n 0, 1) := by decide +kernel
theorem dL_refused_35 : decode cL_refused 35 = .ok (.iconst (-1), 1) := by decide +kernel
theorem dL_refused_36 : decode cL_refused 36 = .ok (.invokevirtual 44, 3) := by decide +kernel
theorem dL_refused_39 : decode cL_refused 39 = .ok (.iconst (-1), 1) := by decide +kernel
theorem dL_refused_40 : decode cL_refused 40 = .ok (.if_icmp .ne 146, 3) := by decide +kernel
theorem dL_refused_43 : decode cL_refused 43 = .ok (.aload_n 0, 1) := by decide +kernel
theorem dL_refused_44 : decode cL_refused 44 = .ok (.bipush 10, 2) := by decide +kernel
theorem dL_refused_46 : decode cL_refused 46 = .ok (.invokevirtual 47, 3) := by decide +kernel
theorem dL_refused_49 : decode cL_refused 49 = .ok (.iconst (-1), 1) := by decide +kernel
theorem dL_refused_50 : decode cL_refused 50 = .ok (.if_icmp .ne 136, 3) := by decide +kernel
theorem dL_refused_53 : decode cL_refused 53 = .ok (.aload_n 0, 1) := by decide +kernel
theorem dL_refused_54 : decode cL_refused 54 = .ok (.iconst (-1), 1) := by decide +kernel
theorem dL_refused_55 : decode cL_refused 55 = .ok (.invokevirtual 50, 3) := by decide +kernel
theorem dL_refused_58 : decode cL_refused 58 = .ok (.iconst (-1), 1) := by decide +kernel
theorem dL_refused_59 : decode cL_refused 59 = .ok (.if_icmp .ne 127, 3) := by decide +kernel
theorem dL_refused_62 : decode cL_refused 62 = .ok (.aload_n 0, 1) := by decide +kernel
theorem dL_refused_63 : decode cL_refused 63 = .ok (.iconst 0, 1) := by decide +kernel
theorem dL_refused_64 : decode cL_refused 64 = .ok (.iconst 0, 1) := by decide +kernel
theorem dL_refused_65 : decode cL_refused 65 = .ok (.bipush 10, 2) := by decide +kernel
theorem dL_refused_67 : decode cL_refused 67 = .ok (.invokevirtual 53, 3) := by decide +kernel
theorem dL_refused_70 : decode cL_refused 70 = .ok (.iconst (-1), 1) := by decide +kernel
theorem dL_refused_71 : decode cL_refused 71 = .ok (.if_icmp .ne 115, 3) := by decide +kernel
theorem dL_refused_74 : decode cL_refused 74 = .ok (.aload_n 0, 1) := by decide +kernel
theorem dL_refused_75 : decode cL_refused 75 = .ok (.iconst 0, 1) := by decide +kernel
theorem dL_refused_76 : decode cL_refused 76 = .ok (.bipush (-10), 2) := by decide +kernel
theorem dL_refused_78 : decode cL_refused 78 = .ok (.invokevirtual 57, 3) := by decide +kernel
theorem dL_refused_81 : decode cL_refused 81 = .ok (.iconst (-1), 1) := by decide +kernel
theorem dL_refused_82 : decode cL_refused 82 = .ok (.if_icmp .ne 104, 3) := by decide +kernel
theorem dL_refused_85 : decode cL_refused 85 = .ok (.aload_n 0, 1) := by decide +kernel
theorem dL_refused_86 : decode cL_refused 86 = .ok (.iconst 1, 1) := by decide +kernel
theorem dL_refused_87 : decode cL_refused 87 = .ok (.bipush 33, 2) := by decide +kernel
theorem dL_refused_89 : decode cL_refused 89 = .ok (.invokevirtual 60, 3) := by decide +kernel
theorem dL_refused_92 : decode cL_refused 92 = .ok (.iconst (-1), 1) := by decide +kernel
theorem dL_refused_93 : decode cL_refused 93 = .ok (.if_icmp .ne 93, 3) := by decide +kernel
theorem dL_refused_96 : decode cL_refused 96 = .ok (.aload_n 0, 1) := by decide +kernel
theorem dL_refused_97 : decode cL_refused 97 = .ok (.iconst (-1), 1) := by decide +kernel
theorem dL_refused_98 : decode cL_refused 98 = .ok (.iconst 0, 1) := by decide +kernel
theorem dL_refused_99 : decode cL_refused 99 = .ok (.invokevirtual 60, 3) := by decide +kernel
theorem dL_refused_102 : decode cL_refused 102 = .ok (.iconst (-1), 1) := by decide +kernel
theorem dL_refused_103 : decode cL_refused 103 = .ok (.if_icmp .ne 83, 3) := by decide +kernel
theorem dL_refused_106 : decode cL_refused 106 = .ok (.aload_n 0, 1) := by decide +kernel
theorem dL_refused_107 : decode cL_refused 107 = .ok (.iconst 2, 1) := by decide +kernel
theorem dL_refused_108 : decode cL_refused 108 = .ok (.bipush 7, 2) := by decide +kernel
theorem dL_refused_110 : decode cL_refused 110 = .ok (.bipush (-21), 2) := by decide +kernel
theorem dL_refused_112 : decode cL_refused 112 = .ok (.invokevirtual 63, 3) := by decide +kernel
theorem dL_refused_115 : decode cL_refused 115 = .ok (.iconst (-1), 1) := by decide +kernel
theorem dL_refused_116 : decode cL_refused 116 = .ok (.if_icmp .ne 70, 3) := by decide +kernel
theorem dL_refused_119 : decode cL_refused 119 = .ok (.aload_n 0, 1) := by decide +kernel
theorem dL_refused_120 : decode cL_refused 120 = .ok (.iconst 5, 1) := by decide +kernel
theorem dL_refused_121 : decode cL_refused 121 = .ok (.invokevirtual 66, 3) := by decide +kernel
theorem dL_refused_124 : decode cL_refused 124 = .ok (.iconst (-1), 1) := by decide +kernel
theorem dL_refused_125 : decode cL_refused 125 = .ok (.if_icmp .ne 61, 3) := by decide +kernel
theorem dL_refused_128 : decode cL_refused 128 = .ok (.aload_n 0, 1) := by decide +kernel
theorem dL_refused_129 : decode cL_refused 129 = .ok (.bipush 100, 2) := by decide +kernel
theorem dL_refused_131 : decode cL_refused 131 = .ok (.iconst 0, 1) := by decide +kernel
theorem dL_refused_132 : decode cL_refused 132 = .ok (.invokevirtual 69, 3) := by decide +kernel
theorem dL_refused_135 : decode cL_refused 135 = .ok (.iconst (-1), 1) := by decide +kernel
theorem dL_refused_136 : decode cL_refused 136 = .ok (.if_icmp .ne 50, 3) := by decide +kernel
theorem dL_refused_139 : decode cL_refused 139 = .ok (.aload_n 0, 1) := by decide +kernel
theorem dL_refused_140 : decode cL_refused 140 = .ok (.iconst 0, 1) := by decide +kernel
theorem dL_refused_141 : decode cL_refused 141 = .ok (.iconst 0, 1) := by decide +kernel
theorem dL_refused_142 : decode cL_refused 142 = .ok (.iconst 0, 1) := by decide +kernel
theorem dL_refused_143 : decode cL_refused 143 = .ok (.iconst (-1), 1) := by decide +kernel
theorem dL_refused_144 : decode cL_refused 144 = .ok (.invokevirtual 72, 3) := by decide +kernel
theorem dL_refused_147 : decode cL_refused 147 = .ok (.iconst (-1), 1) := by decide +kernel
theorem dL_refused_148 : decode cL_refused 148 = .ok (.if_icmp .ne 38, 3) := by decide +kernel
theorem dL_refused_151 : decode cL_refused 151 = .ok (.aload_n 0, 1) := by decide +kernel
theorem dL_refused_152 : decode cL_refused 152 = .ok (.iconst 1, 1) := by decide +kernel
theorem dL_refused_153 : decode cL_refused 153 = .ok (.iconst 0, 1) := by decide +kernel
theorem dL_refused_154 : decode cL_refused 154 = .ok (.iconst 1, 1) := by decide +kernel
theorem dL_refused_155 : decode cL_refused 155 = .ok (.iconst 0, 1) := by decide +kernel
theorem dL_refused_156 : decode cL_refused 156 = .ok (.invokevirtual 76, 3) := by decide +kernel
theorem dL_refused_159 : decode cL_refused 159 = .ok (.iconst (-1), 1) := by decide +kernel
theorem dL_refused_160 : decode cL_refused 160 = .ok (.if_icmp .ne 26, 3) := by decide +kernel
theorem dL_refused_163 : decode cL_refused 163 = .ok (.aload_n 0, 1) := by decide +kernel
theorem dL_refused_164 : decode cL_refused 164 = .ok (.bipush 10, 2) := by decide +kernel
theorem dL_refused_166 : decode cL_refused 166 = .ok (.invokevirtual 79, 3) := by decide +kernel
theorem dL_refused_169 : decode cL_refused 169 = .ok (.iconst (-1), 1) := by decide +kernel
theorem dL_refused_170 : decode cL_refused 170 = .ok (.if_icmp .ne 16, 3) := by decide +kernel
theorem dL_refused_173 : decode cL_refused 173 = .ok (.aload_n 0, 1) := by decide +kernel
theorem dL_refused_174 : decode cL_refused 174 = .ok (.iconst 3, 1) := by decide +kernel
theorem dL_refused_175 : decode cL_refused 175 = .ok (.invokevirtual 82, 3) := by decide +kernel
theorem dL_refused_178 : decode cL_refused 178 = .ok (.iconst (-1), 1) := by decide +kernel
theorem dL_refused_179 : decode cL_refused 179 = .ok (.if_icmp .ne 7, 3) := by decide +kernel
theorem dL_refused_182 : decode cL_refused 182 = .ok (.iconst 1, 1) := by decide +kernel
theorem dL_refused_183 : decode cL_refused 183 = .ok (.goto 4, 3) := by decide +kernel
theorem dL_refused_186 : decode cL_refused 186 = .ok (.iconst 0, 1) := by decide +kernel
theorem dL_refused_187 : decode cL_refused 187 = .ok (.istore 4, 2) := by decide +kernel
theorem dL_refused_189 : decode cL_refused 189 = .ok (.iload 4, 2) := by decide +kernel
theorem dL_refused_191 : decode cL_refused 191 = .ok (.ifCond .eq 83, 3) := by decide +kernel
theorem dL_refused_194 : decode cL_refused 194 = .ok (.aload_n 0, 1) := by decide +kernel
theorem dL_refused_195 : decode cL_refused 195 = .ok (.iconst 0, 1) := by decide +kernel
theorem dL_refused_196 : decode cL_refused 196 = .ok (.invokevirtual 19, 3) := by decide +kernel
theorem dL_refused_199 : decode cL_refused 199 = .ok (.sipush 9999, 3) := by decide +kernel
theorem dL_refused_202 : decode cL_refused 202 = .ok (.if_icmp .ge 20, 3) := by decide +kernel
theorem dL_refused_205 : decode cL_refused 205 = .ok (.aload_n 0, 1) := by decide +kernel
theorem dL_refused_206 : decode cL_refused 206 = .ok (.aload_n 0, 1) := by decide +kernel
theorem dL_refused_207 : decode cL_refused 207 = .ok (.iconst 0, 1) := by decide +kernel
theorem dL_refused_208 : decode cL_refused 208 = .ok (.invokevirtual 19, 3) := by decide +kernel
theorem dL_refused_211 : decode cL_refused 211 = .ok (.ineg, 1) := by decide +kernel
theorem dL_refused_212 : decode cL_refused 212 = .ok (.iconst 1, 1) := by decide +kernel
theorem dL_refused_213 : decode cL_refused 213 = .ok (.isub, 1) := by decide +kernel
theorem dL_refused_214 : decode cL_refused 214 = .ok (.invokevirtual 41, 3) := by decide +kernel
theorem dL_refused_217 : decode cL_refused 217 = .ok (.bipush (-2), 2) := by decide +kernel
theorem dL_refused_219 : decode cL_refused 219 = .ok (.if_icmp .ne 55, 3) := by decide +kernel
theorem dL_refused_222 : decode cL_refused 222 = .ok (.aload_n 0, 1) := by decide +kernel
theorem dL_refused_223 : decode cL_refused 223 = .ok (.iconst 3, 1) := by decide +kernel
theorem dL_refused_224 : decode cL_refused 224 = .ok (.invokevirtual 19, 3) := by decide +kernel
theorem dL_refused_227 : decode cL_refused 227 = .ok (.iconst 1, 1) := by decide +kernel
theorem dL_refused_228 : decode cL_refused 228 = .ok (.if_icmp .eq 21, 3) := by decide +kernel
theorem dL_refused_231 : decode cL_refused 231 = .ok (.aload_n 0, 1) := by decide +kernel
theorem dL_refused_232 : decode cL_refused 232 = .ok (.invokevirtual 85, 3) := by decide +kernel
theorem dL_refused_235 : decode cL_refused 235 = .ok (.bipush (-2), 2) := by decide +kernel
theorem dL_refused_237 : decode cL_refused 237 = .ok (.if_icmp .ne 37, 3) := by decide +kernel
theorem dL_refused_240 : decode cL_refused 240 = .ok (.aload_n 0, 1) := by decide +kernel
theorem dL_refused_241 : decode cL_refused 241 = .ok (.invokevirtual 88, 3) := by decide +kernel
theorem dL_refused_244 : decode cL_refused 244 = .ok (.bipush (-2), 2) := by decide +kernel
theorem dL_refused_246 : decode cL_refused 246 = .ok (.if_icmp .ne 28, 3) := by decide +kernel
theorem dL_refused_249 : decode cL_refused 249 = .ok (.aload_n 0, 1) := by decide +kernel
theorem dL_refused_250 : decode cL_refused 250 = .ok (.iconst 5, 1) := by decide +kernel
theorem dL_refused_251 : decode cL_refused 251 = .ok (.invokevirtual 19, 3) := by decide +kernel
theorem dL_refused_254 : decode cL_refused 254 = .ok (.bipush 91, 2) := by decide +kernel
theorem dL_refused_256 : decode cL_refused 256 = .ok (.if_icmp .lt 14, 3) := by decide +kernel
theorem dL_refused_259 : decode cL_refused 259 = .ok (.aload_n 0, 1) := by decide +kernel
theorem dL_refused_260 : decode cL_refused 260 = .ok (.bipush 9, 2) := by decide +kernel
theorem dL_refused_262 : decode cL_refused 262 = .ok (.invokevirtual 47, 3) := by decide +kernel
theorem dL_refused_265 : decode cL_refused 265 = .ok (.bipush (-3), 2) := by decide +kernel
theorem dL_refused_267 : decode cL_refused 267 = .ok (.if_icmp .ne 7, 3) := by decide +kernel
theorem dL_refused_270 : decode cL_refused 270 = .ok (.iconst 1, 1) := by decide +kernel
theorem dL_refused_271 : decode cL_refused 271 = .ok (.goto 4, 3) := by decide +kernel
theorem dL_refused_274 : decode cL_refused 274 = .ok (.iconst 0, 1) := by decide +kernel
theorem dL_refused_275 : decode cL_refused 275 = .ok (.istore 4, 2) := by decide +kernel
theorem dL_refused_277 : decode cL_refused 277 = .ok (.iload 4, 2) := by decide +kernel
theorem dL_refused_279 : decode cL_refused 279 = .ok (.ifCond .eq 26, 3) := by decide +kernel
theorem dL_refused_282 : decode cL_refused 282 = .ok (.aload_n 0, 1) := by decide +kernel
theorem dL_refused_283 : decode cL_refused 283 = .ok (.invokestatic 37, 3) := by decide +kernel
theorem dL_refused_286 : decode cL_refused 286 = .ok (.lload_n 1, 1) := by decide +kernel
theorem dL_refused_287 : decode cL_refused 287 = .ok (.lcmp, 1) := by decide +kernel
theorem dL_refused_288 : decode cL_refused 288 = .ok (.ifCond .ne 17, 3) := by decide +kernel
theorem dL_refused_291 : decode cL_refused 291 = .ok (.aload_n 0, 1) := by decide +kernel
theorem dL_refused_292 : decode cL_refused 292 = .ok (.bipush 10, 2) := by decide +kernel
theorem dL_refused_294 : decode cL_refused 294 = .ok (.invokevirtual 19, 3) := by decide +kernel
theorem dL_refused_297 : decode cL_refused 297 = .ok (.iload_n 3, 1) := by decide +kernel
theorem dL_refused_298 : decode cL_refused 298 = .ok (.if_icmp .ne 7, 3) := by decide +kernel
theorem dL_refused_301 : decode cL_refused 301 = .ok (.iconst 1, 1) := by decide +kernel
theorem dL_refused_302 : decode cL_refused 302 = .ok (.goto 4, 3) := by decide +kernel
theorem dL_refused_305 : decode cL_refused 305 = .ok (.iconst 0, 1) := by decide +kernel
theorem dL_refused_306 : decode cL_refused 306 = .ok (.ireturn, 1) := by decide +kernel
theorem dL_fits_0 : decode cL_fits 0 = .ok (.aload_n 0, 1) := by decide +kernel
theorem dL_fits_1 : decode cL_fits 1 = .ok (.iconst 0, 1) := by decide +kernel
theorem dL_fits_2 : decode cL_fits 2 = .ok (.invokevirtual 19, 3) := by decide +kernel
theorem dL_fits_5 : decode cL_fits 5 = .ok (.istore_n 1, 1) := by decide +kernel
theorem dL_fits_6 : decode cL_fits 6 = .ok (.aload_n 0, 1) := by decide +kernel
theorem dL_fits_7 : decode cL_fits 7 = .ok (.iconst 1, 1) := by decide +kernel
theorem dL_fits_8 : decode cL_fits 8 = .ok (.invokevirtual 19, 3) := by decide +kernel
theorem dL_fits_11 : decode cL_fits 11 = .ok (.istore_n 2, 1) := by decide +kernel
theorem dL_fits_12 : decode cL_fits 12 = .ok (.iconst 0, 1) := by decide +kernel
theorem dL_fits_13 : decode cL_fits 13 = .ok (.istore_n 3, 1) := by decide +kernel
theorem dL_fits_14 : decode cL_fits 14 = .ok (.iconst 0, 1) := by decide +kernel
theorem dL_fits_15 : decode cL_fits 15 = .ok (.istore 4, 2) := by decide +kernel
theorem dL_fits_17 : decode cL_fits 17 = .ok (.iconst 0, 1) := by decide +kernel
theorem dL_fits_18 : decode cL_fits 18 = .ok (.istore 5, 2) := by decide +kernel
theorem dL_fits_20 : decode cL_fits 20 = .ok (.iload 5, 2) := by decide +kernel
theorem dL_fits_22 : decode cL_fits 22 = .ok (.bipush 24, 2) := by decide +kernel
theorem dL_fits_24 : decode cL_fits 24 = .ok (.if_icmp .ge 36, 3) := by decide +kernel
theorem dL_fits_27 : decode cL_fits 27 = .ok (.iload_n 3, 1) := by decide +kernel
theorem dL_fits_28 : decode cL_fits 28 = .ok (.aload_n 0, 1) := by decide +kernel
theorem dL_fits_29 : decode cL_fits 29 = .ok (.iload 5, 2) := by decide +kernel
theorem dL_fits_31 : decode cL_fits 31 = .ok (.bipush 8, 2) := by decide +kernel
theorem dL_fits_33 : decode cL_fits 33 = .ok (.idiv, 1) := by decide +kernel
theorem dL_fits_34 : decode cL_fits 34 = .ok (.iload 5, 2) := by decide +kernel
theorem dL_fits_36 : decode cL_fits 36 = .ok (.bipush 8, 2) := by decide +kernel
theorem dL_fits_38 : decode cL_fits 38 = .ok (.irem, 1) := by decide +kernel
theorem dL_fits_39 : decode cL_fits 39 = .ok (.invokevirtual 25, 3) := by decide +kernel
theorem dL_fits_42 : decode cL_fits 42 = .ok (.bipush 100, 2) := by decide +kernel
theorem dL_fits_44 : decode cL_fits 44 = .ok (.if_icmp .ne 7, 3) := by decide +kernel
theorem dL_fits_47 : decode cL_fits 47 = .ok (.iconst 0, 1) := by decide +kernel
theorem dL_fits_48 : decode cL_fits 48 = .ok (.goto 4, 3) := by decide +kernel
theorem dL_fits_51 : decode cL_fits 51 = .ok (.iconst 1, 1) := by decide +kernel
theorem dL_fits_52 : decode cL_fits 52 = .ok (.iadd, 1) := by decide +kernel
theorem dL_fits_53 : decode cL_fits 53 = .ok (.istore_n 3, 1) := by decide +kernel
theorem dL_fits_54 : decode cL_fits 54 = .ok (.iinc 5 1, 3) := by decide +kernel
theorem dL_fits_57 : decode cL_fits 57 = .ok (.goto (-37), 3) := by decide +kernel
theorem dL_fits_60 : decode cL_fits 60 = .ok (.iload_n 1, 1) := by decide +kernel
theorem dL_fits_61 : decode cL_fits 61 = .ok (.ifCond .lt 193, 3) := by decide +kernel
theorem dL_fits_64 : decode cL_fits 64 = .ok (.iload_n 1, 1) := by decide +kernel
theorem dL_fits_65 : decode cL_fits 65 = .ok (.ldc 91, 2) := by decide +kernel
theorem dL_fits_67 : decode cL_fits 67 = .ok (.if_icmp .ge 187, 3) := by decide +kernel
theorem dL_fits_70 : decode cL_fits 70 = .ok (.iload_n 2, 1) := by decide +kernel
theorem dL_fits_71 : decode cL_fits 71 = .ok (.iload_n 1, 1) := by decide +kernel
theorem dL_fits_72 : decode cL_fits 72 = .ok (.sipush 4080, 3) := by decide +kernel
theorem dL_fits_75 : decode cL_fits 75 = .ok (.irem, 1) := by decide +kernel
theorem dL_fits_76 : decode cL_fits 76 = .ok (.if_icmp .ne 178, 3) := by decide +kernel
theorem dL_fits_79 : decode cL_fits 79 = .ok (.aload_n 0, 1) := by decide +kernel
theorem dL_fits_80 : decode cL_fits 80 = .ok (.iconst 2, 1) := by decide +kernel
theorem dL_fits_81 : decode cL_fits 81 = .ok (.invokevirtual 19, 3) := by decide +kernel
theorem dL_fits_84 : decode cL_fits 84 = .ok (.ifCond .lt 170, 3) := by decide +kernel
theorem dL_fits_87 : decode cL_fits 87 = .ok (.aload_n 0, 1) := by decide +kernel
theorem dL_fits_88 : decode cL_fits 88 = .ok (.iconst 2, 1) := by decide +kernel
theorem dL_fits_89 : decode cL_fits 89 = .ok (.invokevirtual 19, 3) := by decide +kernel
theorem dL_fits_92 : decode cL_fits 92 = .ok (.bipush 64, 2) := by decide +kernel
theorem dL_fits_94 : decode cL_fits 94 = .ok (.if_icmp .ge 160, 3) := by decide +kernel
theorem dL_fits_97 : decode cL_fits 97 = .ok (.aload_n 0, 1) := by decide +kernel
theorem dL_fits_98 : decode cL_fits 98 = .ok (.iconst 4, 1) := by decide +kernel
theorem dL_fits_99 : decode cL_fits 99 = .ok (.invokevirtual 19, 3) := by decide +kernel
theorem dL_fits_102 : decode cL_fits 102 = .ok (.ifCond .lt 152, 3) := by decide +kernel
theorem dL_fits_105 : decode cL_fits 105 = .ok (.aload_n 0, 1) := by decide +kernel
theorem dL_fits_106 : decode cL_fits 106 = .ok (.iconst 4, 1) := by decide +kernel
theorem dL_fits_107 : decode cL_fits 107 = .ok (.invokevirtual 19, 3) := by decide +kernel
theorem dL_fits_110 : decode cL_fits 110 = .ok (.sipush 1000, 3) := by decide +kernel
theorem dL_fits_113 : decode cL_fits 113 = .ok (.if_icmp .ge 141, 3) := by decide +kernel
theorem dL_fits_116 : decode cL_fits 116 = .ok (.aload_n 0, 1) := by decide +kernel
theorem dL_fits_117 : decode cL_fits 117 = .ok (.iconst 5, 1) := by decide +kernel
theorem dL_fits_118 : decode cL_fits 118 = .ok (.invokevirtual 19, 3) := by decide +kernel
theorem dL_fits_121 : decode cL_fits 121 = .ok (.ifCond .lt 133, 3) := by decide +kernel
theorem dL_fits_124 : decode cL_fits 124 = .ok (.aload_n 0, 1) := by decide +kernel
theorem dL_fits_125 : decode cL_fits 125 = .ok (.iconst 5, 1) := by decide +kernel
theorem dL_fits_126 : decode cL_fits 126 = .ok (.invokevirtual 19, 3) := by decide +kernel
theorem dL_fits_129 : decode cL_fits 129 = .ok (.bipush 100, 2) := by decide +kernel
theorem dL_fits_131 : decode cL_fits 131 = .ok (.if_icmp .ge 123, 3) := by decide +kernel
theorem dL_fits_134 : decode cL_fits 134 = .ok (.aload_n 0, 1) := by decide +kernel
theorem dL_fits_135 : decode cL_fits 135 = .ok (.bipush 8, 2) := by decide +kernel
theorem dL_fits_137 : decode cL_fits 137 = .ok (.invokevirtual 19, 3) := by decide +kernel
theorem dL_fits_140 : decode cL_fits 140 = .ok (.iload_n 2, 1) := by decide +kernel
theorem dL_fits_141 : decode cL_fits 141 = .ok (.bipush 64, 2) := by decide +kernel
theorem dL_fits_143 : decode cL_fits 143 = .ok (.imul, 1) := by decide +kernel
theorem dL_fits_144 : decode cL_fits 144 = .ok (.sipush 4080, 3) := by decide +kernel
theorem dL_fits_147 : decode cL_fits 147 = .ok (.idiv, 1) := by decide +kernel
theorem dL_fits_148 : decode cL_fits 148 = .ok (.aload_n 0, 1) := by decide +kernel
theorem dL_fits_149 : decode cL_fits 149 = .ok (.bipush 23, 2) := by decide +kernel
theorem dL_fits_151 : decode cL_fits 151 = .ok (.invokevirtual 19, 3) := by decide +kernel
theorem dL_fits_154 : decode cL_fits 154 = .ok (.iadd, 1) := by decide +kernel
theorem dL_fits_155 : decode cL_fits 155 = .ok (.bipush 100, 2) := by decide +kernel
theorem dL_fits_157 : decode cL_fits 157 = .ok (.isub, 1) := by decide +kernel
theorem dL_fits_158 : decode cL_fits 158 = .ok (.bipush 64, 2) := by decide +kernel
theorem dL_fits_160 : decode cL_fits 160 = .ok (.invokestatic 9, 3) := by decide +kernel
theorem dL_fits_163 : decode cL_fits 163 = .ok (.if_icmp .ne 91, 3) := by decide +kernel
theorem dL_fits_166 : decode cL_fits 166 = .ok (.aload_n 0, 1) := by decide +kernel
theorem dL_fits_167 : decode cL_fits 167 = .ok (.bipush 9, 2) := by decide +kernel
theorem dL_fits_169 : decode cL_fits 169 = .ok (.invokevirtual 19, 3) := by decide +kernel
theorem dL_fits_172 : decode cL_fits 172 = .ok (.iload_n 3, 1) := by decide +kernel
theorem dL_fits_173 : decode cL_fits 173 = .ok (.if_icmp .ne 81, 3) := by decide +kernel
theorem dL_fits_176 : decode cL_fits 176 = .ok (.aload_n 0, 1) := by decide +kernel
theorem dL_fits_177 : decode cL_fits 177 = .ok (.bipush 6, 2) := by decide +kernel
theorem dL_fits_179 : decode cL_fits 179 = .ok (.invokevirtual 19, 3) := by decide +kernel
theorem dL_fits_182 : decode cL_fits 182 = .ok (.bipush (-4), 2) := by decide +kernel
theorem dL_fits_184 : decode cL_fits 184 = .ok (.if_icmp .lt 70, 3) := by decide +kernel
theorem dL_fits_187 : decode cL_fits 187 = .ok (.aload_n 0, 1) := by decide +kernel
theorem dL_fits_188 : decode cL_fits 188 = .ok (.bipush 6, 2) := by decide +kernel
theorem dL_fits_190 : decode cL_fits 190 = .ok (.invokevirtual 19, 3) := by decide +kernel
theorem dL_fits_193 : decode cL_fits 193 = .ok (.ldc 91, 2) := by decide +kernel
theorem dL_fits_195 : decode cL_fits 195 = .ok (.if_icmp .ge 59, 3) := by decide +kernel
theorem dL_fits_198 : decode cL_fits 198 = .ok (.aload_n 0, 1) := by decide +kernel
theorem dL_fits_199 : decode cL_fits 199 = .ok (.invokevirtual 92, 3) := by decide +kernel
theorem dL_fits_202 : decode cL_fits 202 = .ok (.aload_n 0, 1) := by decide +kernel
theorem dL_fits_203 : decode cL_fits 203 = .ok (.bipush 6, 2) := by decide +kernel
theorem dL_fits_205 : decode cL_fits 205 = .ok (.invokevirtual 19, 3) := by decide +kernel
theorem dL_fits_208 : decode cL_fits 208 = .ok (.bipush (-4), 2) := by decide +kernel
theorem dL_fits_210 : decode cL_fits 210 = .ok (.if_icmp .ne 8, 3) := by decide +kernel
theorem dL_fits_213 : decode cL_fits 213 = .ok (.bipush (-4), 2) := by decide +kernel
theorem dL_fits_215 : decode cL_fits 215 = .ok (.goto 16, 3) := by decide +kernel
theorem dL_fits_218 : decode cL_fits 218 = .ok (.aload_n 0, 1) := by decide +kernel
theorem dL_fits_219 : decode cL_fits 219 = .ok (.bipush 6, 2) := by decide +kernel
theorem dL_fits_221 : decode cL_fits 221 = .ok (.invokevirtual 19, 3) := by decide +kernel
theorem dL_fits_224 : decode cL_fits 224 = .ok (.iload_n 1, 1) := by decide +kernel
theorem dL_fits_225 : decode cL_fits 225 = .ok (.isub, 1) := by decide +kernel
theorem dL_fits_226 : decode cL_fits 226 = .ok (.ldc 91, 2) := by decide +kernel
theorem dL_fits_228 : decode cL_fits 228 = .ok (.invokestatic 95, 3) := by decide +kernel
theorem dL_fits_231 : decode cL_fits 231 = .ok (.if_icmp .ne 23, 3) := by decide +kernel
theorem dL_fits_234 : decode cL_fits 234 = .ok (.aload_n 0, 1) := by decide +kernel
theorem dL_fits_235 : decode cL_fits 235 = .ok (.invokevirtual 33, 3) := by decide +kernel
theorem dL_fits_238 : decode cL_fits 238 = .ok (.ifCond .lt 16, 3) := by decide +kernel
theorem dL_fits_241 : decode cL_fits 241 = .ok (.aload_n 0, 1) := by decide +kernel
theorem dL_fits_242 : decode cL_fits 242 = .ok (.invokevirtual 33, 3) := by decide +kernel
theorem dL_fits_245 : decode cL_fits 245 = .ok (.bipush 9, 2) := by decide +kernel
theorem dL_fits_247 : decode cL_fits 247 = .ok (.if_icmp .ge 7, 3) := by decide +kernel
theorem dL_fits_250 : decode cL_fits 250 = .ok (.iconst 1, 1) := by decide +kernel
theorem dL_fits_251 : decode cL_fits 251 = .ok (.goto 4, 3) := by decide +kernel
theorem dL_fits_254 : decode cL_fits 254 = .ok (.iconst 0, 1) := by decide +kernel
theorem dL_fits_255 : decode cL_fits 255 = .ok (.istore 5, 2) := by decide +kernel
theorem dL_fits_257 : decode cL_fits 257 = .ok (.iconst 0, 1) := by decide +kernel
theorem dL_fits_258 : decode cL_fits 258 = .ok (.istore 6, 2) := by decide +kernel
theorem dL_fits_260 : decode cL_fits 260 = .ok (.iload 6, 2) := by decide +kernel
theorem dL_fits_262 : decode cL_fits 262 = .ok (.iconst 3, 1) := by decide +kernel
theorem dL_fits_263 : decode cL_fits 263 = .ok (.if_icmp .ge 42, 3) := by decide +kernel
theorem dL_fits_266 : decode cL_fits 266 = .ok (.iload 5, 2) := by decide +kernel
theorem dL_fits_268 : decode cL_fits 268 = .ok (.ifCond .eq 37, 3) := by decide +kernel
theorem dL_fits_271 : decode cL_fits 271 = .ok (.aload_n 0, 1) := by decide +kernel
theorem dL_fits_272 : decode cL_fits 272 = .ok (.iload 6, 2) := by decide +kernel
theorem dL_fits_274 : decode cL_fits 274 = .ok (.invokevirtual 30, 3) := by decide +kernel
theorem dL_fits_277 : decode cL_fits 277 = .ok (.iload_n 2, 1) := by decide +kernel
theorem dL_fits_278 : decode cL_fits 278 = .ok (.isub, 1) := by decide +kernel
theorem dL_fits_279 : decode cL_fits 279 = .ok (.iload 6, 2) := by decide +kernel
theorem dL_fits_281 : decode cL_fits 281 = .ok (.invokestatic 98, 3) := by decide +kernel
theorem dL_fits_284 : decode cL_fits 284 = .ok (.invokestatic 95, 3) := by decide +kernel
theorem dL_fits_287 : decode cL_fits 287 = .ok (.bipush 19, 2) := by decide +kernel
theorem dL_fits_289 : decode cL_fits 289 = .ok (.if_icmp .ge 7, 3) := by decide +kernel
theorem dL_fits_292 : decode cL_fits 292 = .ok (.iconst 1, 1) := by decide +kernel
theorem dL_fits_293 : decode cL_fits 293 = .ok (.goto 4, 3) := by decide +kernel
theorem dL_fits_296 : decode cL_fits 296 = .ok (.iconst 0, 1) := by decide +kernel
theorem dL_fits_297 : decode cL_fits 297 = .ok (.istore 5, 2) := by decide +kernel
theorem dL_fits_299 : decode cL_fits 299 = .ok (.iinc 6 1, 3) := by decide +kernel
theorem dL_fits_302 : decode cL_fits 302 = .ok (.goto (-42), 3) := by decide +kernel
theorem dL_fits_305 : decode cL_fits 305 = .ok (.aload_n 0, 1) := by decide +kernel
theorem dL_fits_306 : decode cL_fits 306 = .ok (.iconst 2, 1) := by decide +kernel
theorem dL_fits_307 : decode cL_fits 307 = .ok (.invokevirtual 66, 3) := by decide +kernel
theorem dL_fits_310 : decode cL_fits 310 = .ok (.istore 6, 2) := by decide +kernel
theorem dL_fits_312 : decode cL_fits 312 = .ok (.aload_n 0, 1) := by decide +kernel
theorem dL_fits_313 : decode cL_fits 313 = .ok (.iconst 0, 1) := by decide +kernel
theorem dL_fits_314 : decode cL_fits 314 = .ok (.invokevirtual 66, 3) := by decide +kernel
theorem dL_fits_317 : decode cL_fits 317 = .ok (.istore 7, 2) := by decide +kernel
theorem dL_fits_319 : decode cL_fits 319 = .ok (.iload 5, 2) := by decide +kernel
theorem dL_fits_321 : decode cL_fits 321 = .ok (.ifCond .eq 51, 3) := by decide +kernel
theorem dL_fits_324 : decode cL_fits 324 = .ok (.iload 6, 2) := by decide +kernel
theorem dL_fits_326 : decode cL_fits 326 = .ok (.aload_n 0, 1) := by decide +kernel
theorem dL_fits_327 : decode cL_fits 327 = .ok (.aload_n 0, 1) := by decide +kernel
theorem dL_fits_328 : decode cL_fits 328 = .ok (.iconst 0, 1) := by decide +kernel
theorem dL_fits_329 : decode cL_fits 329 = .ok (.invokevirtual 30, 3) := by decide +kernel
theorem dL_fits_332 : decode cL_fits 332 = .ok (.aload_n 0, 1) := by decide +kernel
theorem dL_fits_333 : decode cL_fits 333 = .ok (.iconst 1, 1) := by decide +kernel
theorem dL_fits_334 : decode cL_fits 334 = .ok (.invokevirtual 30, 3) := by decide +kernel
theorem dL_fits_337 : decode cL_fits 337 = .ok (.aload_n 0, 1) := by decide +kernel
theorem dL_fits_338 : decode cL_fits 338 = .ok (.iconst 2, 1) := by decide +kernel
theorem dL_fits_339 : decode cL_fits 339 = .ok (.invokevirtual 30, 3) := by decide +kernel
theorem dL_fits_342 : decode cL_fits 342 = .ok (.iconst 0, 1) := by decide +kernel
theorem dL_fits_343 : decode cL_fits 343 = .ok (.invokevirtual 72, 3) := by decide +kernel
theorem dL_fits_346 : decode cL_fits 346 = .ok (.if_icmp .ne 26, 3) := by decide +kernel
theorem dL_fits_349 : decode cL_fits 349 = .ok (.aload_n 0, 1) := by decide +kernel
theorem dL_fits_350 : decode cL_fits 350 = .ok (.iconst 4, 1) := by decide +kernel
theorem dL_fits_351 : decode cL_fits 351 = .ok (.invokevirtual 66, 3) := by decide +kernel
theorem dL_fits_354 : decode cL_fits 354 = .ok (.iload 7, 2) := by decide +kernel
theorem dL_fits_356 : decode cL_fits 356 = .ok (.iload_n 2, 1) := by decide +kernel
theorem dL_fits_357 : decode cL_fits 357 = .ok (.if_icmp .ne 7, 3) := by decide +kernel
theorem dL_fits_360 : decode cL_fits 360 = .ok (.iconst 1, 1) := by decide +kernel
theorem dL_fits_361 : decode cL_fits 361 = .ok (.goto 4, 3) := by decide +kernel
theorem dL_fits_364 : decode cL_fits 364 = .ok (.iconst 0, 1) := by decide +kernel
theorem dL_fits_365 : decode cL_fits 365 = .ok (.if_icmp .ne 7, 3) := by decide +kernel
theorem dL_fits_368 : decode cL_fits 368 = .ok (.iconst 1, 1) := by decide +kernel
theorem dL_fits_369 : decode cL_fits 369 = .ok (.goto 4, 3) := by decide +kernel
theorem dL_fits_372 : decode cL_fits 372 = .ok (.iconst 0, 1) := by decide +kernel
theorem dL_fits_373 : decode cL_fits 373 = .ok (.istore 5, 2) := by decide +kernel
theorem dL_fits_375 : decode cL_fits 375 = .ok (.aload_n 0, 1) := by decide +kernel
theorem dL_fits_376 : decode cL_fits 376 = .ok (.iload 6, 2) := by decide +kernel
theorem dL_fits_378 : decode cL_fits 378 = .ok (.sipush 510, 3) := by decide +kernel
theorem dL_fits_381 : decode cL_fits 381 = .ok (.idiv, 1) := by decide +kernel
theorem dL_fits_382 : decode cL_fits 382 = .ok (.iconst 0, 1) := by decide +kernel
theorem dL_fits_383 : decode cL_fits 383 = .ok (.invokestatic 101, 3) := by decide +kernel
theorem dL_fits_386 : decode cL_fits 386 = .ok (.istore 8, 2) := by decide +kernel
theorem dL_fits_388 : decode cL_fits 388 = .ok (.iload 8, 2) := by decide +kernel
theorem dL_fits_390 : decode cL_fits 390 = .ok (.sipush 510, 3) := by decide +kernel
theorem dL_fits_393 : decode cL_fits 393 = .ok (.idiv, 1) := by decide +kernel
theorem dL_fits_394 : decode cL_fits 394 = .ok (.iload 6, 2) := by decide +kernel
theorem dL_fits_396 : decode cL_fits 396 = .ok (.sipush 510, 3) := by decide +kernel
theorem dL_fits_399 : decode cL_fits 399 = .ok (.idiv, 1) := by decide +kernel
theorem dL_fits_400 : decode cL_fits 400 = .ok (.if_icmp .ne 8, 3) := by decide +kernel
theorem dL_fits_403 : decode cL_fits 403 = .ok (.iload 8, 2) := by decide +kernel
theorem dL_fits_405 : decode cL_fits 405 = .ok (.goto 14, 3) := by decide +kernel
theorem dL_fits_408 : decode cL_fits 408 = .ok (.aload_n 0, 1) := by decide +kernel
theorem dL_fits_409 : decode cL_fits 409 = .ok (.iload 8, 2) := by decide +kernel
theorem dL_fits_411 : decode cL_fits 411 = .ok (.sipush 510, 3) := by decide +kernel
theorem dL_fits_414 : decode cL_fits 414 = .ok (.idiv, 1) := by decide +kernel
theorem dL_fits_415 : decode cL_fits 415 = .ok (.iconst 0, 1) := by decide +kernel
theorem dL_fits_416 : decode cL_fits 416 = .ok (.invokestatic 101, 3) := by decide +kernel
theorem dL_fits_419 : decode cL_fits 419 = .ok (.istore 9, 2) := by decide +kernel
theorem dL_fits_421 : decode cL_fits 421 = .ok (.aload_n 0, 1) := by decide +kernel
theorem dL_fits_422 : decode cL_fits 422 = .ok (.iload 8, 2) := by decide +kernel
theorem dL_fits_424 : decode cL_fits 424 = .ok (.sipush 510, 3) := by decide +kernel
theorem dL_fits_427 : decode cL_fits 427 = .ok (.idiv, 1) := by decide +kernel
theorem dL_fits_428 : decode cL_fits 428 = .ok (.iload 6, 2) := by decide +kernel
theorem dL_fits_430 : decode cL_fits 430 = .ok (.sipush 510, 3) := by decide +kernel
theorem dL_fits_433 : decode cL_fits 433 = .ok (.idiv, 1) := by decide +kernel
theorem dL_fits_434 : decode cL_fits 434 = .ok (.if_icmp .ne 12, 3) := by decide +kernel
theorem dL_fits_437 : decode cL_fits 437 = .ok (.iload 6, 2) := by decide +kernel
theorem dL_fits_439 : decode cL_fits 439 = .ok (.sipush 510, 3) := by decide +kernel
theorem dL_fits_442 : decode cL_fits 442 = .ok (.idiv, 1) := by decide +kernel
theorem dL_fits_443 : decode cL_fits 443 = .ok (.goto 9, 3) := by decide +kernel
theorem dL_fits_446 : decode cL_fits 446 = .ok (.iload 8, 2) := by decide +kernel
theorem dL_fits_448 : decode cL_fits 448 = .ok (.sipush 510, 3) := by decide +kernel
theorem dL_fits_451 : decode cL_fits 451 = .ok (.idiv, 1) := by decide +kernel
theorem dL_fits_452 : decode cL_fits 452 = .ok (.iconst 1, 1) := by decide +kernel
theorem dL_fits_453 : decode cL_fits 453 = .ok (.invokestatic 101, 3) := by decide +kernel
theorem dL_fits_456 : decode cL_fits 456 = .ok (.istore 10, 2) := by decide +kernel
theorem dL_fits_458 : decode cL_fits 458 = .ok (.iload 5, 2) := by decide +kernel
theorem dL_fits_460 : decode cL_fits 460 = .ok (.ifCond .eq 52, 3) := by decide +kernel
theorem dL_fits_463 : decode cL_fits 463 = .ok (.iload 7, 2) := by decide +kernel
theorem dL_fits_465 : decode cL_fits 465 = .ok (.iload 9, 2) := by decide +kernel
theorem dL_fits_467 : decode cL_fits 467 = .ok (.if_icmp .ne 45, 3) := by decide +kernel
theorem dL_fits_470 : decode cL_fits 470 = .ok (.aload_n 0, 1) := by decide +kernel
theorem dL_fits_471 : decode cL_fits 471 = .ok (.iconst 1, 1) := by decide +kernel
theorem dL_fits_472 : decode cL_fits 472 = .ok (.invokevirtual 66, 3) := by decide +kernel
theorem dL_fits_475 : decode cL_fits 475 = .ok (.iload 10, 2) := by decide +kernel
theorem dL_fits_477 : decode cL_fits 477 = .ok (.if_icmp .ne 35, 3) := by decide +kernel
theorem dL_fits_480 : decode cL_fits 480 = .ok (.aload_n 0, 1) := by decide +kernel
theorem dL_fits_481 : decode cL_fits 481 = .ok (.iconst 3, 1) := by decide +kernel
theorem dL_fits_482 : decode cL_fits 482 = .ok (.invokevirtual 66, 3) := by decide +kernel
theorem dL_fits_485 : decode cL_fits 485 = .ok (.iload 8, 2) := by decide +kernel
theorem dL_fits_487 : decode cL_fits 487 = .ok (.sipush 510, 3) := by decide +kernel
theorem dL_fits_490 : decode cL_fits 490 = .ok (.idiv, 1) := by decide +kernel
theorem dL_fits_491 : decode cL_fits 491 = .ok (.iload 6, 2) := by decide +kernel
theorem dL_fits_493 : decode cL_fits 493 = .ok (.sipush 510, 3) := by decide +kernel
theorem dL_fits_496 : decode cL_fits 496 = .ok (.idiv, 1) := by decide +kernel
theorem dL_fits_497 : decode cL_fits 497 = .ok (.if_icmp .ne 7, 3) := by decide +kernel
theorem dL_fits_500 : decode cL_fits 500 = .ok (.iconst 2, 1) := by decide +kernel
theorem dL_fits_501 : decode cL_fits 501 = .ok (.goto 4, 3) := by decide +kernel
theorem dL_fits_504 : decode cL_fits 504 = .ok (.iconst 3, 1) := by decide +kernel
theorem dL_fits_505 : decode cL_fits 505 = .ok (.if_icmp .ne 7, 3) := by decide +kernel
theorem dL_fits_508 : decode cL_fits 508 = .ok (.iconst 1, 1) := by decide +kernel
theorem dL_fits_509 : decode cL_fits 509 = .ok (.goto 4, 3) := by decide +kernel
theorem dL_fits_512 : decode cL_fits 512 = .ok (.iconst 0, 1) := by decide +kernel
theorem dL_fits_513 : decode cL_fits 513 = .ok (.ireturn, 1) := by decide +kernel
theorem dL_byTable_0 : decode cL_byTable 0 = .ok (.aload_n 0, 1) := by decide +kernel
theorem dL_byTable_1 : decode cL_byTable 1 = .ok (.iconst 0, 1) := by decide +kernel
theorem dL_byTable_2 : decode cL_byTable 2 = .ok (.invokevirtual 30, 3) := by decide +kernel
theorem dL_byTable_5 : decode cL_byTable 5 = .ok (.aload_n 0, 1) := by decide +kernel
theorem dL_byTable_6 : decode cL_byTable 6 = .ok (.iconst 0, 1) := by decide +kernel
theorem dL_byTable_7 : decode cL_byTable 7 = .ok (.iload_n 1, 1) := by decide +kernel
theorem dL_byTable_8 : decode cL_byTable 8 = .ok (.invokevirtual 25, 3) := by decide +kernel
theorem dL_byTable_11 : decode cL_byTable 11 = .ok (.isub, 1) := by decide +kernel
theorem dL_byTable_12 : decode cL_byTable 12 = .ok (.bipush 100, 2) := by decide +kernel
theorem dL_byTable_14 : decode cL_byTable 14 = .ok (.iadd, 1) := by decide +kernel
theorem dL_byTable_15 : decode cL_byTable 15 = .ok (.sipush 272, 3) := by decide +kernel
theorem dL_byTable_18 : decode cL_byTable 18 = .ok (.invokestatic 9, 3) := by decide +kernel
theorem dL_byTable_21 : decode cL_byTable 21 = .ok (.istore_n 3, 1) := by decide +kernel
theorem dL_byTable_22 : decode cL_byTable 22 = .ok (.aload_n 0, 1) := by decide +kernel
theorem dL_byTable_23 : decode cL_byTable 23 = .ok (.iconst 1, 1) := by decide +kernel
theorem dL_byTable_24 : decode cL_byTable 24 = .ok (.invokevirtual 30, 3) := by decide +kernel
theorem dL_byTable_27 : decode cL_byTable 27 = .ok (.aload_n 0, 1) := by decide +kernel
theorem dL_byTable_28 : decode cL_byTable 28 = .ok (.iconst 1, 1) := by decide +kernel
theorem dL_byTable_29 : decode cL_byTable 29 = .ok (.iload_n 1, 1) := by decide +kernel
theorem dL_byTable_30 : decode cL_byTable 30 = .ok (.invokevirtual 25, 3) := by decide +kernel
theorem dL_byTable_33 : decode cL_byTable 33 = .ok (.isub, 1) := by decide +kernel
theorem dL_byTable_34 : decode cL_byTable 34 = .ok (.bipush 100, 2) := by decide +kernel
theorem dL_byTable_36 : decode cL_byTable 36 = .ok (.iadd, 1) := by decide +kernel
theorem dL_byTable_37 : decode cL_byTable 37 = .ok (.sipush 255, 3) := by decide +kernel
theorem dL_byTable_40 : decode cL_byTable 40 = .ok (.invokestatic 9, 3) := by decide +kernel
theorem dL_byTable_43 : decode cL_byTable 43 = .ok (.istore 4, 2) := by decide +kernel
theorem dL_byTable_45 : decode cL_byTable 45 = .ok (.aload_n 0, 1) := by decide +kernel
theorem dL_byTable_46 : decode cL_byTable 46 = .ok (.iconst 2, 1) := by decide +kernel
theorem dL_byTable_47 : decode cL_byTable 47 = .ok (.invokevirtual 30, 3) := by decide +kernel
theorem dL_byTable_50 : decode cL_byTable 50 = .ok (.aload_n 0, 1) := by decide +kernel
theorem dL_byTable_51 : decode cL_byTable 51 = .ok (.iconst 2, 1) := by decide +kernel
theorem dL_byTable_52 : decode cL_byTable 52 = .ok (.iload_n 1, 1) := by decide +kernel
theorem dL_byTable_53 : decode cL_byTable 53 = .ok (.invokevirtual 25, 3) := by decide +kernel
theorem dL_byTable_56 : decode cL_byTable 56 = .ok (.isub, 1) := by decide +kernel
theorem dL_byTable_57 : decode cL_byTable 57 = .ok (.bipush 100, 2) := by decide +kernel
theorem dL_byTable_59 : decode cL_byTable 59 = .ok (.iadd, 1) := by decide +kernel
theorem dL_byTable_60 : decode cL_byTable 60 = .ok (.sipush 240, 3) := by decide +kernel
theorem dL_byTable_63 : decode cL_byTable 63 = .ok (.invokestatic 9, 3) := by decide +kernel
theorem dL_byTable_66 : decode cL_byTable 66 = .ok (.istore 5, 2) := by decide +kernel
theorem dL_byTable_68 : decode cL_byTable 68 = .ok (.aload_n 0, 1) := by decide +kernel
theorem dL_byTable_69 : decode cL_byTable 69 = .ok (.iload_n 3, 1) := by decide +kernel
theorem dL_byTable_70 : decode cL_byTable 70 = .ok (.iload 4, 2) := by decide +kernel
theorem dL_byTable_72 : decode cL_byTable 72 = .ok (.iload 5, 2) := by decide +kernel
theorem dL_byTable_74 : decode cL_byTable 74 = .ok (.iload_n 2, 1) := by decide +kernel
theorem dL_byTable_75 : decode cL_byTable 75 = .ok (.invokevirtual 72, 3) := by decide +kernel
theorem dL_byTable_78 : decode cL_byTable 78 = .ok (.ireturn, 1) := by decide +kernel
theorem dL_isSampled_0 : decode cL_isSampled 0 = .ok (.aload_n 0, 1) := by decide +kernel
theorem dL_isSampled_1 : decode cL_isSampled 1 = .ok (.invokevirtual 88, 3) := by decide +kernel
theorem dL_isSampled_4 : decode cL_isSampled 4 = .ok (.istore_n 1, 1) := by decide +kernel
theorem dL_isSampled_5 : decode cL_isSampled 5 = .ok (.aload_n 0, 1) := by decide +kernel
theorem dL_isSampled_6 : decode cL_isSampled 6 = .ok (.iconst 3, 1) := by decide +kernel
theorem dL_isSampled_7 : decode cL_isSampled 7 = .ok (.invokevirtual 19, 3) := by decide +kernel
theorem dL_isSampled_10 : decode cL_isSampled 10 = .ok (.ifCond .ne 24, 3) := by decide +kernel
theorem dL_isSampled_13 : decode cL_isSampled 13 = .ok (.iload_n 1, 1) := by decide +kernel
theorem dL_isSampled_14 : decode cL_isSampled 14 = .ok (.bipush (-2), 2) := by decide +kernel
theorem dL_isSampled_16 : decode cL_isSampled 16 = .ok (.if_icmp .ne 16, 3) := by decide +kernel
theorem dL_isSampled_19 : decode cL_isSampled 19 = .ok (.aload_n 0, 1) := by decide +kernel
theorem dL_isSampled_20 : decode cL_isSampled 20 = .ok (.invokevirtual 85, 3) := by decide +kernel
theorem dL_isSampled_23 : decode cL_isSampled 23 = .ok (.bipush (-2), 2) := by decide +kernel
theorem dL_isSampled_25 : decode cL_isSampled 25 = .ok (.if_icmp .ne 7, 3) := by decide +kernel
theorem dL_isSampled_28 : decode cL_isSampled 28 = .ok (.iconst 1, 1) := by decide +kernel
theorem dL_isSampled_29 : decode cL_isSampled 29 = .ok (.goto 4, 3) := by decide +kernel
theorem dL_isSampled_32 : decode cL_isSampled 32 = .ok (.iconst 0, 1) := by decide +kernel
theorem dL_isSampled_33 : decode cL_isSampled 33 = .ok (.ireturn, 1) := by decide +kernel
theorem dL_isSampled_34 : decode cL_isSampled 34 = .ok (.aload_n 0, 1) := by decide +kernel
theorem dL_isSampled_35 : decode cL_isSampled 35 = .ok (.iconst 0, 1) := by decide +kernel
theorem dL_isSampled_36 : decode cL_isSampled 36 = .ok (.invokevirtual 66, 3) := by decide +kernel
theorem dL_isSampled_39 : decode cL_isSampled 39 = .ok (.istore_n 2, 1) := by decide +kernel
theorem dL_isSampled_40 : decode cL_isSampled 40 = .ok (.aload_n 0, 1) := by decide +kernel
theorem dL_isSampled_41 : decode cL_isSampled 41 = .ok (.iconst 1, 1) := by decide +kernel
theorem dL_isSampled_42 : decode cL_isSampled 42 = .ok (.invokevirtual 66, 3) := by decide +kernel
theorem dL_isSampled_45 : decode cL_isSampled 45 = .ok (.istore_n 3, 1) := by decide +kernel
theorem dL_isSampled_46 : decode cL_isSampled 46 = .ok (.aload_n 0, 1) := by decide +kernel
theorem dL_isSampled_47 : decode cL_isSampled 47 = .ok (.iconst 2, 1) := by decide +kernel
theorem dL_isSampled_48 : decode cL_isSampled 48 = .ok (.invokevirtual 19, 3) := by decide +kernel
theorem dL_isSampled_51 : decode cL_isSampled 51 = .ok (.istore 4, 2) := by decide +kernel
theorem dL_isSampled_53 : decode cL_isSampled 53 = .ok (.aload_n 0, 1) := by decide +kernel
theorem dL_isSampled_54 : decode cL_isSampled 54 = .ok (.bipush 6, 2) := by decide +kernel
theorem dL_isSampled_56 : decode cL_isSampled 56 = .ok (.invokevirtual 19, 3) := by decide +kernel
theorem dL_isSampled_59 : decode cL_isSampled 59 = .ok (.istore 5, 2) := by decide +kernel
theorem dL_isSampled_61 : decode cL_isSampled 61 = .ok (.aload_n 0, 1) := by decide +kernel
theorem dL_isSampled_62 : decode cL_isSampled 62 = .ok (.bipush 7, 2) := by decide +kernel
theorem dL_isSampled_64 : decode cL_isSampled 64 = .ok (.invokevirtual 19, 3) := by decide +kernel
theorem dL_isSampled_67 : decode cL_isSampled 67 = .ok (.istore 6, 2) := by decide +kernel
theorem dL_isSampled_69 : decode cL_isSampled 69 = .ok (.iload_n 2, 1) := by decide +kernel
theorem dL_isSampled_70 : decode cL_isSampled 70 = .ok (.sipush 1020, 3) := by decide +kernel
theorem dL_isSampled_73 : decode cL_isSampled 73 = .ok (.idiv, 1) := by decide +kernel
theorem dL_isSampled_74 : decode cL_isSampled 74 = .ok (.iload 4, 2) := by decide +kernel
theorem dL_isSampled_76 : decode cL_isSampled 76 = .ok (.isub, 1) := by decide +kernel
theorem dL_isSampled_77 : decode cL_isSampled 77 = .ok (.iconst 4, 1) := by decide +kernel
theorem dL_isSampled_78 : decode cL_isSampled 78 = .ok (.invokestatic 9, 3) := by decide +kernel
theorem dL_isSampled_81 : decode cL_isSampled 81 = .ok (.istore 7, 2) := by decide +kernel
theorem dL_isSampled_83 : decode cL_isSampled 83 = .ok (.aload_n 0, 1) := by decide +kernel
theorem dL_isSampled_84 : decode cL_isSampled 84 = .ok (.bipush 8, 2) := by decide +kernel
theorem dL_isSampled_86 : decode cL_isSampled 86 = .ok (.invokevirtual 19, 3) := by decide +kernel
theorem dL_isSampled_89 : decode cL_isSampled 89 = .ok (.iload_n 2, 1) := by decide +kernel
theorem dL_isSampled_90 : decode cL_isSampled 90 = .ok (.bipush 64, 2) := by decide +kernel
theorem dL_isSampled_92 : decode cL_isSampled 92 = .ok (.imul, 1) := by decide +kernel
theorem dL_isSampled_93 : decode cL_isSampled 93 = .ok (.sipush 4080, 3) := by decide +kernel
theorem dL_isSampled_96 : decode cL_isSampled 96 = .ok (.idiv, 1) := by decide +kernel
theorem dL_isSampled_97 : decode cL_isSampled 97 = .ok (.isub, 1) := by decide +kernel
theorem dL_isSampled_98 : decode cL_isSampled 98 = .ok (.bipush 64, 2) := by decide +kernel
theorem dL_isSampled_100 : decode cL_isSampled 100 = .ok (.invokestatic 95, 3) := by decide +kernel
theorem dL_isSampled_103 : decode cL_isSampled 103 = .ok (.aload_n 0, 1) := by decide +kernel
theorem dL_isSampled_104 : decode cL_isSampled 104 = .ok (.bipush 21, 2) := by decide +kernel
theorem dL_isSampled_106 : decode cL_isSampled 106 = .ok (.invokevirtual 19, 3) := by decide +kernel
theorem dL_isSampled_109 : decode cL_isSampled 109 = .ok (.if_icmp .le 7, 3) := by decide +kernel
theorem dL_isSampled_112 : decode cL_isSampled 112 = .ok (.iconst 1, 1) := by decide +kernel
theorem dL_isSampled_113 : decode cL_isSampled 113 = .ok (.goto 4, 3) := by decide +kernel
theorem dL_isSampled_116 : decode cL_isSampled 116 = .ok (.iconst 0, 1) := by decide +kernel
theorem dL_isSampled_117 : decode cL_isSampled 117 = .ok (.istore 8, 2) := by decide +kernel
theorem dL_isSampled_119 : decode cL_isSampled 119 = .ok (.aload_n 0, 1) := by decide +kernel
theorem dL_isSampled_120 : decode cL_isSampled 120 = .ok (.invokevirtual 85, 3) := by decide +kernel
theorem dL_isSampled_123 : decode cL_isSampled 123 = .ok (.istore 9, 2) := by decide +kernel
theorem dL_isSampled_125 : decode cL_isSampled 125 = .ok (.iload_n 1, 1) := by decide +kernel
theorem dL_isSampled_126 : decode cL_isSampled 126 = .ok (.ifCond .lt 73, 3) := by decide +kernel
theorem dL_isSampled_129 : decode cL_isSampled 129 = .ok (.iload_n 1, 1) := by decide +kernel
theorem dL_isSampled_130 : decode cL_isSampled 130 = .ok (.iconst 5, 1) := by decide +kernel
theorem dL_isSampled_131 : decode cL_isSampled 131 = .ok (.if_icmp .ge 68, 3) := by decide +kernel
theorem dL_isSampled_134 : decode cL_isSampled 134 = .ok (.iload 9, 2) := by decide +kernel
theorem dL_isSampled_136 : decode cL_isSampled 136 = .ok (.iload_n 1, 1) := by decide +kernel
theorem dL_isSampled_137 : decode cL_isSampled 137 = .ok (.ifCond .ne 12, 3) := by decide +kernel
theorem dL_isSampled_140 : decode cL_isSampled 140 = .ok (.aload_n 0, 1) := by decide +kernel
theorem dL_isSampled_141 : decode cL_isSampled 141 = .ok (.bipush 6, 2) := by decide +kernel
theorem dL_isSampled_143 : decode cL_isSampled 143 = .ok (.invokevirtual 19, 3) := by decide +kernel
theorem dL_isSampled_146 : decode cL_isSampled 146 = .ok (.goto 7, 3) := by decide +kernel
theorem dL_isSampled_149 : decode cL_isSampled 149 = .ok (.ldc 105, 2) := by decide +kernel
theorem dL_isSampled_151 : decode cL_isSampled 151 = .ok (.iload_n 1, 1) := by decide +kernel
theorem dL_isSampled_152 : decode cL_isSampled 152 = .ok (.iadd, 1) := by decide +kernel
theorem dL_isSampled_153 : decode cL_isSampled 153 = .ok (.if_icmp .ne 46, 3) := by decide +kernel
theorem dL_isSampled_156 : decode cL_isSampled 156 = .ok (.iload_n 1, 1) := by decide +kernel
theorem dL_isSampled_157 : decode cL_isSampled 157 = .ok (.iconst 1, 1) := by decide +kernel
theorem dL_isSampled_158 : decode cL_isSampled 158 = .ok (.if_icmp .ne 7, 3) := by decide +kernel
theorem dL_isSampled_161 : decode cL_isSampled 161 = .ok (.iconst 1, 1) := by decide +kernel
theorem dL_isSampled_162 : decode cL_isSampled 162 = .ok (.goto 4, 3) := by decide +kernel
theorem dL_isSampled_165 : decode cL_isSampled 165 = .ok (.iconst 0, 1) := by decide +kernel
theorem dL_isSampled_166 : decode cL_isSampled 166 = .ok (.iload_n 3, 1) := by decide +kernel
theorem dL_isSampled_167 : decode cL_isSampled 167 = .ok (.aload_n 0, 1) := by decide +kernel
theorem dL_isSampled_168 : decode cL_isSampled 168 = .ok (.bipush 20, 2) := by decide +kernel
theorem dL_isSampled_170 : decode cL_isSampled 170 = .ok (.invokevirtual 19, 3) := by decide +kernel
theorem dL_isSampled_173 : decode cL_isSampled 173 = .ok (.if_icmp .le 7, 3) := by decide +kernel
theorem dL_isSampled_176 : decode cL_isSampled 176 = .ok (.iconst 1, 1) := by decide +kernel
theorem dL_isSampled_177 : decode cL_isSampled 177 = .ok (.goto 4, 3) := by decide +kernel
theorem dL_isSampled_180 : decode cL_isSampled 180 = .ok (.iconst 0, 1) := by decide +kernel
theorem dL_isSampled_181 : decode cL_isSampled 181 = .ok (.if_icmp .ne 18, 3) := by decide +kernel
theorem dL_isSampled_184 : decode cL_isSampled 184 = .ok (.iload_n 1, 1) := by decide +kernel
theorem dL_isSampled_185 : decode cL_isSampled 185 = .ok (.iconst 2, 1) := by decide +kernel
theorem dL_isSampled_186 : decode cL_isSampled 186 = .ok (.if_icmp .ne 9, 3) := by decide +kernel
theorem dL_isSampled_189 : decode cL_isSampled 189 = .ok (.iload 7, 2) := by decide +kernel
theorem dL_isSampled_191 : decode cL_isSampled 191 = .ok (.iconst 2, 1) := by decide +kernel
theorem dL_isSampled_192 : decode cL_isSampled 192 = .ok (.if_icmp .ne 7, 3) := by decide +kernel
theorem dL_isSampled_195 : decode cL_isSampled 195 = .ok (.iconst 1, 1) := by decide +kernel
theorem dL_isSampled_196 : decode cL_isSampled 196 = .ok (.goto 4, 3) := by decide +kernel
theorem dL_isSampled_199 : decode cL_isSampled 199 = .ok (.iconst 0, 1) := by decide +kernel
theorem dL_isSampled_200 : decode cL_isSampled 200 = .ok (.istore 10, 2) := by decide +kernel
theorem dL_isSampled_202 : decode cL_isSampled 202 = .ok (.iload_n 1, 1) := by decide +kernel
theorem dL_isSampled_203 : decode cL_isSampled 203 = .ok (.iconst 1, 1) := by decide +kernel
theorem dL_isSampled_204 : decode cL_isSampled 204 = .ok (.if_icmp .eq 8, 3) := by decide +kernel
theorem dL_isSampled_207 : decode cL_isSampled 207 = .ok (.iload_n 1, 1) := by decide +kernel
theorem dL_isSampled_208 : decode cL_isSampled 208 = .ok (.iconst 2, 1) := by decide +kernel
theorem dL_isSampled_209 : decode cL_isSampled 209 = .ok (.if_icmp .ne 46, 3) := by decide +kernel
theorem dL_isSampled_212 : decode cL_isSampled 212 = .ok (.iload 10, 2) := by decide +kernel
theorem dL_isSampled_214 : decode cL_isSampled 214 = .ok (.ifCond .eq 39, 3) := by decide +kernel
theorem dL_isSampled_217 : decode cL_isSampled 217 = .ok (.aload_n 0, 1) := by decide +kernel
theorem dL_isSampled_218 : decode cL_isSampled 218 = .ok (.iconst 2, 1) := by decide +kernel
theorem dL_isSampled_219 : decode cL_isSampled 219 = .ok (.invokevirtual 19, 3) := by decide +kernel
theorem dL_isSampled_222 : decode cL_isSampled 222 = .ok (.iload 4, 2) := by decide +kernel
theorem dL_isSampled_224 : decode cL_isSampled 224 = .ok (.if_icmp .ne 29, 3) := by decide +kernel
theorem dL_isSampled_227 : decode cL_isSampled 227 = .ok (.aload_n 0, 1) := by decide +kernel
theorem dL_isSampled_228 : decode cL_isSampled 228 = .ok (.bipush 6, 2) := by decide +kernel
theorem dL_isSampled_230 : decode cL_isSampled 230 = .ok (.invokevirtual 19, 3) := by decide +kernel
theorem dL_isSampled_233 : decode cL_isSampled 233 = .ok (.iload 5, 2) := by decide +kernel
theorem dL_isSampled_235 : decode cL_isSampled 235 = .ok (.if_icmp .ne 18, 3) := by decide +kernel
theorem dL_isSampled_238 : decode cL_isSampled 238 = .ok (.aload_n 0, 1) := by decide +kernel
theorem dL_isSampled_239 : decode cL_isSampled 239 = .ok (.bipush 7, 2) := by decide +kernel
theorem dL_isSampled_241 : decode cL_isSampled 241 = .ok (.invokevirtual 19, 3) := by decide +kernel
theorem dL_isSampled_244 : decode cL_isSampled 244 = .ok (.iload 6, 2) := by decide +kernel
theorem dL_isSampled_246 : decode cL_isSampled 246 = .ok (.if_icmp .ne 7, 3) := by decide +kernel
theorem dL_isSampled_249 : decode cL_isSampled 249 = .ok (.iconst 1, 1) := by decide +kernel
theorem dL_isSampled_250 : decode cL_isSampled 250 = .ok (.goto 4, 3) := by decide +kernel
theorem dL_isSampled_253 : decode cL_isSampled 253 = .ok (.iconst 0, 1) := by decide +kernel
theorem dL_isSampled_254 : decode cL_isSampled 254 = .ok (.ireturn, 1) := by decide +kernel
theorem dL_isSampled_255 : decode cL_isSampled 255 = .ok (.aload_n 0, 1) := by decide +kernel
theorem dL_isSampled_256 : decode cL_isSampled 256 = .ok (.iconst 2, 1) := by decide +kernel
theorem dL_isSampled_257 : decode cL_isSampled 257 = .ok (.invokevirtual 19, 3) := by decide +kernel
theorem dL_isSampled_260 : decode cL_isSampled 260 = .ok (.istore 11, 2) := by decide +kernel
theorem dL_isSampled_262 : decode cL_isSampled 262 = .ok (.iload 11, 2) := by decide +kernel
theorem dL_isSampled_264 : decode cL_isSampled 264 = .ok (.iconst 4, 1) := by decide +kernel
theorem dL_isSampled_265 : decode cL_isSampled 265 = .ok (.idiv, 1) := by decide +kernel
theorem dL_isSampled_266 : decode cL_isSampled 266 = .ok (.sipush 4080, 3) := by decide +kernel
theorem dL_isSampled_269 : decode cL_isSampled 269 = .ok (.imul, 1) := by decide +kernel
theorem dL_isSampled_270 : decode cL_isSampled 270 = .ok (.iload_n 2, 1) := by decide +kernel
theorem dL_isSampled_271 : decode cL_isSampled 271 = .ok (.iadd, 1) := by decide +kernel
theorem dL_isSampled_272 : decode cL_isSampled 272 = .ok (.istore 12, 2) := by decide +kernel
theorem dL_isSampled_274 : decode cL_isSampled 274 = .ok (.iload 10, 2) := by decide +kernel
theorem dL_isSampled_276 : decode cL_isSampled 276 = .ok (.ifCond .eq 101, 3) := by decide +kernel
theorem dL_isSampled_279 : decode cL_isSampled 279 = .ok (.iload 7, 2) := by decide +kernel
theorem dL_isSampled_281 : decode cL_isSampled 281 = .ok (.iconst 2, 1) := by decide +kernel
theorem dL_isSampled_282 : decode cL_isSampled 282 = .ok (.if_icmp .eq 95, 3) := by decide +kernel
theorem dL_isSampled_285 : decode cL_isSampled 285 = .ok (.iload 11, 2) := by decide +kernel
theorem dL_isSampled_287 : decode cL_isSampled 287 = .ok (.iload 4, 2) := by decide +kernel
theorem dL_isSampled_289 : decode cL_isSampled 289 = .ok (.iload 7, 2) := by decide +kernel
theorem dL_isSampled_291 : decode cL_isSampled 291 = .ok (.iconst 3, 1) := by decide +kernel
theorem dL_isSampled_292 : decode cL_isSampled 292 = .ok (.if_icmp .ne 7, 3) := by decide +kernel
theorem dL_isSampled_295 : decode cL_isSampled 295 = .ok (.iconst (-1), 1) := by decide +kernel
theorem dL_isSampled_296 : decode cL_isSampled 296 = .ok (.goto 5, 3) := by decide +kernel
theorem dL_isSampled_299 : decode cL_isSampled 299 = .ok (.iload 7, 2) := by decide +kernel
theorem dL_isSampled_301 : decode cL_isSampled 301 = .ok (.iadd, 1) := by decide +kernel
theorem dL_isSampled_302 : decode cL_isSampled 302 = .ok (.bipush 64, 2) := by decide +kernel
theorem dL_isSampled_304 : decode cL_isSampled 304 = .ok (.invokestatic 9, 3) := by decide +kernel
theorem dL_isSampled_307 : decode cL_isSampled 307 = .ok (.if_icmp .ne 70, 3) := by decide +kernel
theorem dL_isSampled_310 : decode cL_isSampled 310 = .ok (.iload 11, 2) := by decide +kernel
theorem dL_isSampled_312 : decode cL_isSampled 312 = .ok (.iconst 4, 1) := by decide +kernel
theorem dL_isSampled_313 : decode cL_isSampled 313 = .ok (.irem, 1) := by decide +kernel
theorem dL_isSampled_314 : decode cL_isSampled 314 = .ok (.iload_n 2, 1) := by decide +kernel
theorem dL_isSampled_315 : decode cL_isSampled 315 = .ok (.sipush 1020, 3) := by decide +kernel
theorem dL_isSampled_318 : decode cL_isSampled 318 = .ok (.idiv, 1) := by decide +kernel
theorem dL_isSampled_319 : decode cL_isSampled 319 = .ok (.if_icmp .ne 58, 3) := by decide +kernel
theorem dL_isSampled_322 : decode cL_isSampled 322 = .ok (.aload_n 0, 1) := by decide +kernel
theorem dL_isSampled_323 : decode cL_isSampled 323 = .ok (.bipush 7, 2) := by decide +kernel
theorem dL_isSampled_325 : decode cL_isSampled 325 = .ok (.invokevirtual 19, 3) := by decide +kernel
theorem dL_isSampled_328 : decode cL_isSampled 328 = .ok (.iload 8, 2) := by decide +kernel
theorem dL_isSampled_330 : decode cL_isSampled 330 = .ok (.ifCond .eq 10, 3) := by decide +kernel
theorem dL_isSampled_333 : decode cL_isSampled 333 = .ok (.iload 6, 2) := by decide +kernel
theorem dL_isSampled_335 : decode cL_isSampled 335 = .ok (.iconst 1, 1) := by decide +kernel
theorem dL_isSampled_336 : decode cL_isSampled 336 = .ok (.iadd, 1) := by decide +kernel
theorem dL_isSampled_337 : decode cL_isSampled 337 = .ok (.goto 4, 3) := by decide +kernel
theorem dL_isSampled_340 : decode cL_isSampled 340 = .ok (.iconst 0, 1) := by decide +kernel
theorem dL_isSampled_341 : decode cL_isSampled 341 = .ok (.if_icmp .ne 36, 3) := by decide +kernel
theorem dL_isSampled_344 : decode cL_isSampled 344 = .ok (.iload_n 1, 1) := by decide +kernel
theorem dL_isSampled_345 : decode cL_isSampled 345 = .ok (.iconst 3, 1) := by decide +kernel
theorem dL_isSampled_346 : decode cL_isSampled 346 = .ok (.if_icmp .ne 7, 3) := by decide +kernel
theorem dL_isSampled_349 : decode cL_isSampled 349 = .ok (.iconst 1, 1) := by decide +kernel
theorem dL_isSampled_350 : decode cL_isSampled 350 = .ok (.goto 4, 3) := by decide +kernel
theorem dL_isSampled_353 : decode cL_isSampled 353 = .ok (.iconst 0, 1) := by decide +kernel
theorem dL_isSampled_354 : decode cL_isSampled 354 = .ok (.iload 8, 2) := by decide +kernel
theorem dL_isSampled_356 : decode cL_isSampled 356 = .ok (.ifCond .eq 13, 3) := by decide +kernel
theorem dL_isSampled_359 : decode cL_isSampled 359 = .ok (.iload 6, 2) := by decide +kernel
theorem dL_isSampled_361 : decode cL_isSampled 361 = .ok (.iconst 1, 1) := by decide +kernel
theorem dL_isSampled_362 : decode cL_isSampled 362 = .ok (.if_icmp .le 7, 3) := by decide +kernel
theorem dL_isSampled_365 : decode cL_isSampled 365 = .ok (.iconst 1, 1) := by decide +kernel
theorem dL_isSampled_366 : decode cL_isSampled 366 = .ok (.goto 4, 3) := by decide +kernel
theorem dL_isSampled_369 : decode cL_isSampled 369 = .ok (.iconst 0, 1) := by decide +kernel
theorem dL_isSampled_370 : decode cL_isSampled 370 = .ok (.if_icmp .ne 7, 3) := by decide +kernel
theorem dL_isSampled_373 : decode cL_isSampled 373 = .ok (.iconst 1, 1) := by decide +kernel
theorem dL_isSampled_374 : decode cL_isSampled 374 = .ok (.goto 4, 3) := by decide +kernel
theorem dL_isSampled_377 : decode cL_isSampled 377 = .ok (.iconst 0, 1) := by decide +kernel
theorem dL_isSampled_378 : decode cL_isSampled 378 = .ok (.istore 10, 2) := by decide +kernel
theorem dL_isSampled_380 : decode cL_isSampled 380 = .ok (.iload 10, 2) := by decide +kernel
theorem dL_isSampled_382 : decode cL_isSampled 382 = .ok (.ifCond .eq 86, 3) := by decide +kernel
theorem dL_isSampled_385 : decode cL_isSampled 385 = .ok (.iload_n 1, 1) := by decide +kernel
theorem dL_isSampled_386 : decode cL_isSampled 386 = .ok (.ifCond .ne 43, 3) := by decide +kernel
theorem dL_isSampled_389 : decode cL_isSampled 389 = .ok (.aload_n 0, 1) := by decide +kernel
theorem dL_isSampled_390 : decode cL_isSampled 390 = .ok (.bipush 6, 2) := by decide +kernel
theorem dL_isSampled_392 : decode cL_isSampled 392 = .ok (.invokevirtual 19, 3) := by decide +kernel
theorem dL_isSampled_395 : decode cL_isSampled 395 = .ok (.iload 12, 2) := by decide +kernel
theorem dL_isSampled_397 : decode cL_isSampled 397 = .ok (.if_icmp .ne 71, 3) := by decide +kernel
theorem dL_isSampled_400 : decode cL_isSampled 400 = .ok (.iload 5, 2) := by decide +kernel
theorem dL_isSampled_402 : decode cL_isSampled 402 = .ok (.bipush (-4), 2) := by decide +kernel
theorem dL_isSampled_404 : decode cL_isSampled 404 = .ok (.if_icmp .eq 60, 3) := by decide +kernel
theorem dL_isSampled_407 : decode cL_isSampled 407 = .ok (.iload 12, 2) := by decide +kernel
theorem dL_isSampled_409 : decode cL_isSampled 409 = .ok (.iload 5, 2) := by decide +kernel
theorem dL_isSampled_411 : decode cL_isSampled 411 = .ok (.isub, 1) := by decide +kernel
theorem dL_isSampled_412 : decode cL_isSampled 412 = .ok (.ldc 91, 2) := by decide +kernel
theorem dL_isSampled_414 : decode cL_isSampled 414 = .ok (.invokestatic 95, 3) := by decide +kernel
theorem dL_isSampled_417 : decode cL_isSampled 417 = .ok (.aload_n 0, 1) := by decide +kernel
theorem dL_isSampled_418 : decode cL_isSampled 418 = .ok (.bipush 22, 2) := by decide +kernel
theorem dL_isSampled_420 : decode cL_isSampled 420 = .ok (.invokevirtual 19, 3) := by decide +kernel
theorem dL_isSampled_423 : decode cL_isSampled 423 = .ok (.if_icmp .gt 45, 3) := by decide +kernel
theorem dL_isSampled_426 : decode cL_isSampled 426 = .ok (.goto 38, 3) := by decide +kernel
theorem dL_isSampled_429 : decode cL_isSampled 429 = .ok (.aload_n 0, 1) := by decide +kernel
theorem dL_isSampled_430 : decode cL_isSampled 430 = .ok (.bipush 6, 2) := by decide +kernel
theorem dL_isSampled_432 : decode cL_isSampled 432 = .ok (.invokevirtual 19, 3) := by decide +kernel
theorem dL_isSampled_435 : decode cL_isSampled 435 = .ok (.iload 5, 2) := by decide +kernel
theorem dL_isSampled_437 : decode cL_isSampled 437 = .ok (.if_icmp .ne 31, 3) := by decide +kernel
theorem dL_isSampled_440 : decode cL_isSampled 440 = .ok (.iload_n 1, 1) := by decide +kernel
theorem dL_isSampled_441 : decode cL_isSampled 441 = .ok (.iconst 3, 1) := by decide +kernel
theorem dL_isSampled_442 : decode cL_isSampled 442 = .ok (.if_icmp .eq 22, 3) := by decide +kernel
theorem dL_isSampled_445 : decode cL_isSampled 445 = .ok (.iload 12, 2) := by decide +kernel
theorem dL_isSampled_447 : decode cL_isSampled 447 = .ok (.iload 5, 2) := by decide +kernel
theorem dL_isSampled_449 : decode cL_isSampled 449 = .ok (.isub, 1) := by decide +kernel
theorem dL_isSampled_450 : decode cL_isSampled 450 = .ok (.ldc 91, 2) := by decide +kernel
theorem dL_isSampled_452 : decode cL_isSampled 452 = .ok (.invokestatic 95, 3) := by decide +kernel
theorem dL_isSampled_455 : decode cL_isSampled 455 = .ok (.aload_n 0, 1) := by decide +kernel
theorem dL_isSampled_456 : decode cL_isSampled 456 = .ok (.bipush 22, 2) := by decide +kernel
theorem dL_isSampled_458 : decode cL_isSampled 458 = .ok (.invokevirtual 19, 3) := by decide +kernel
theorem dL_isSampled_461 : decode cL_isSampled 461 = .ok (.if_icmp .le 7, 3) := by decide +kernel
theorem dL_isSampled_464 : decode cL_isSampled 464 = .ok (.iconst 1, 1) := by decide +kernel
theorem dL_isSampled_465 : decode cL_isSampled 465 = .ok (.goto 4, 3) := by decide +kernel
theorem dL_isSampled_468 : decode cL_isSampled 468 = .ok (.iconst 0, 1) := by decide +kernel
theorem dL_isSampled_469 : decode cL_isSampled 469 = .ok (.ireturn, 1) := by decide +kernel
theorem dL_isTurned_0 : decode cL_isTurned 0 = .ok (.iload_n 1, 1) := by decide +kernel
theorem dL_isTurned_1 : decode cL_isTurned 1 = .ok (.sipush 19999, 3) := by decide +kernel
theorem dL_isTurned_4 : decode cL_isTurned 4 = .ok (.invokestatic 106, 3) := by decide +kernel
theorem dL_isTurned_7 : decode cL_isTurned 7 = .ok (.sipush 9999, 3) := by decide +kernel
theorem dL_isTurned_10 : decode cL_isTurned 10 = .ok (.isub, 1) := by decide +kernel
theorem dL_isTurned_11 : decode cL_isTurned 11 = .ok (.istore_n 2, 1) := by decide +kernel
theorem dL_isTurned_12 : decode cL_isTurned 12 = .ok (.aload_n 0, 1) := by decide +kernel
theorem dL_isTurned_13 : decode cL_isTurned 13 = .ok (.iconst 0, 1) := by decide +kernel
theorem dL_isTurned_14 : decode cL_isTurned 14 = .ok (.invokevirtual 19, 3) := by decide +kernel
theorem dL_isTurned_17 : decode cL_isTurned 17 = .ok (.istore_n 3, 1) := by decide +kernel
theorem dL_isTurned_18 : decode cL_isTurned 18 = .ok (.aload_n 0, 1) := by decide +kernel
theorem dL_isTurned_19 : decode cL_isTurned 19 = .ok (.iconst 2, 1) := by decide +kernel
theorem dL_isTurned_20 : decode cL_isTurned 20 = .ok (.invokevirtual 19, 3) := by decide +kernel
theorem dL_isTurned_23 : decode cL_isTurned 23 = .ok (.istore 4, 2) := by decide +kernel
theorem dL_isTurned_25 : decode cL_isTurned 25 = .ok (.aload_n 0, 1) := by decide +kernel
theorem dL_isTurned_26 : decode cL_isTurned 26 = .ok (.iconst 4, 1) := by decide +kernel
theorem dL_isTurned_27 : decode cL_isTurned 27 = .ok (.invokevirtual 19, 3) := by decide +kernel
theorem dL_isTurned_30 : decode cL_isTurned 30 = .ok (.istore 5, 2) := by decide +kernel
theorem dL_isTurned_32 : decode cL_isTurned 32 = .ok (.aload_n 0, 1) := by decide +kernel
theorem dL_isTurned_33 : decode cL_isTurned 33 = .ok (.iload_n 2, 1) := by decide +kernel
theorem dL_isTurned_34 : decode cL_isTurned 34 = .ok (.invokevirtual 41, 3) := by decide +kernel
theorem dL_isTurned_37 : decode cL_isTurned 37 = .ok (.istore 6, 2) := by decide +kernel
theorem dL_isTurned_39 : decode cL_isTurned 39 = .ok (.iload 6, 2) := by decide +kernel
theorem dL_isTurned_41 : decode cL_isTurned 41 = .ok (.ifCond .ge 30, 3) := by decide +kernel
theorem dL_isTurned_44 : decode cL_isTurned 44 = .ok (.iload 6, 2) := by decide +kernel
theorem dL_isTurned_46 : decode cL_isTurned 46 = .ok (.bipush (-2), 2) := by decide +kernel
theorem dL_isTurned_48 : decode cL_isTurned 48 = .ok (.if_icmp .ne 21, 3) := by decide +kernel
theorem dL_isTurned_51 : decode cL_isTurned 51 = .ok (.iload_n 3, 1) := by decide +kernel
theorem dL_isTurned_52 : decode cL_isTurned 52 = .ok (.iload_n 2, 1) := by decide +kernel
theorem dL_isTurned_53 : decode cL_isTurned 53 = .ok (.iadd, 1) := by decide +kernel
theorem dL_isTurned_54 : decode cL_isTurned 54 = .ok (.ifCond .lt 11, 3) := by decide +kernel
theorem dL_isTurned_57 : decode cL_isTurned 57 = .ok (.iload_n 3, 1) := by decide +kernel
theorem dL_isTurned_58 : decode cL_isTurned 58 = .ok (.iload_n 2, 1) := by decide +kernel
theorem dL_isTurned_59 : decode cL_isTurned 59 = .ok (.iadd, 1) := by decide +kernel
theorem dL_isTurned_60 : decode cL_isTurned 60 = .ok (.ldc 109, 2) := by decide +kernel
theorem dL_isTurned_62 : decode cL_isTurned 62 = .ok (.if_icmp .le 7, 3) := by decide +kernel
theorem dL_isTurned_65 : decode cL_isTurned 65 = .ok (.iconst 1, 1) := by decide +kernel
theorem dL_isTurned_66 : decode cL_isTurned 66 = .ok (.goto 4, 3) := by decide +kernel
theorem dL_isTurned_69 : decode cL_isTurned 69 = .ok (.iconst 0, 1) := by decide +kernel
theorem dL_isTurned_70 : decode cL_isTurned 70 = .ok (.ireturn, 1) := by decide +kernel
theorem dL_isTurned_71 : decode cL_isTurned 71 = .ok (.iload 6, 2) := by decide +kernel
theorem dL_isTurned_73 : decode cL_isTurned 73 = .ok (.sipush 1020, 3) := by decide +kernel
theorem dL_isTurned_76 : decode cL_isTurned 76 = .ok (.idiv, 1) := by decide +kernel
theorem dL_isTurned_77 : decode cL_isTurned 77 = .ok (.iload_n 3, 1) := by decide +kernel
theorem dL_isTurned_78 : decode cL_isTurned 78 = .ok (.sipush 1020, 3) := by decide +kernel
theorem dL_isTurned_81 : decode cL_isTurned 81 = .ok (.idiv, 1) := by decide +kernel
theorem dL_isTurned_82 : decode cL_isTurned 82 = .ok (.isub, 1) := by decide +kernel
theorem dL_isTurned_83 : decode cL_isTurned 83 = .ok (.istore 7, 2) := by decide +kernel
theorem dL_isTurned_85 : decode cL_isTurned 85 = .ok (.iload 6, 2) := by decide +kernel
theorem dL_isTurned_87 : decode cL_isTurned 87 = .ok (.iload_n 3, 1) := by decide +kernel
theorem dL_isTurned_88 : decode cL_isTurned 88 = .ok (.iload_n 2, 1) := by decide +kernel
theorem dL_isTurned_89 : decode cL_isTurned 89 = .ok (.iadd, 1) := by decide +kernel
theorem dL_isTurned_90 : decode cL_isTurned 90 = .ok (.if_icmp .ne 75, 3) := by decide +kernel
theorem dL_isTurned_93 : decode cL_isTurned 93 = .ok (.aload_n 0, 1) := by decide +kernel
theorem dL_isTurned_94 : decode cL_isTurned 94 = .ok (.iconst 3, 1) := by decide +kernel
theorem dL_isTurned_95 : decode cL_isTurned 95 = .ok (.invokevirtual 19, 3) := by decide +kernel
theorem dL_isTurned_98 : decode cL_isTurned 98 = .ok (.ifCond .ne 35, 3) := by decide +kernel
theorem dL_isTurned_101 : decode cL_isTurned 101 = .ok (.iload 5, 2) := by decide +kernel
theorem dL_isTurned_103 : decode cL_isTurned 103 = .ok (.aload_n 0, 1) := by decide +kernel
theorem dL_isTurned_104 : decode cL_isTurned 104 = .ok (.iconst 4, 1) := by decide +kernel
theorem dL_isTurned_105 : decode cL_isTurned 105 = .ok (.invokevirtual 19, 3) := by decide +kernel
theorem dL_isTurned_108 : decode cL_isTurned 108 = .ok (.isub, 1) := by decide +kernel
theorem dL_isTurned_109 : decode cL_isTurned 109 = .ok (.iload 5, 2) := by decide +kernel
theorem dL_isTurned_111 : decode cL_isTurned 111 = .ok (.iload 7, 2) := by decide +kernel
theorem dL_isTurned_113 : decode cL_isTurned 113 = .ok (.ifCond .ge 9, 3) := by decide +kernel
theorem dL_isTurned_116 : decode cL_isTurned 116 = .ok (.iload 7, 2) := by decide +kernel
theorem dL_isTurned_118 : decode cL_isTurned 118 = .ok (.ineg, 1) := by decide +kernel
theorem dL_isTurned_119 : decode cL_isTurned 119 = .ok (.goto 5, 3) := by decide +kernel
theorem dL_isTurned_122 : decode cL_isTurned 122 = .ok (.iload 7, 2) := by decide +kernel
theorem dL_isTurned_124 : decode cL_isTurned 124 = .ok (.invokestatic 110, 3) := by decide +kernel
theorem dL_isTurned_127 : decode cL_isTurned 127 = .ok (.if_icmp .ne 38, 3) := by decide +kernel
theorem dL_isTurned_130 : decode cL_isTurned 130 = .ok (.goto 31, 3) := by decide +kernel
theorem dL_isTurned_133 : decode cL_isTurned 133 = .ok (.aload_n 0, 1) := by decide +kernel
theorem dL_isTurned_134 : decode cL_isTurned 134 = .ok (.iconst 4, 1) := by decide +kernel
theorem dL_isTurned_135 : decode cL_isTurned 135 = .ok (.invokevirtual 19, 3) := by decide +kernel
theorem dL_isTurned_138 : decode cL_isTurned 138 = .ok (.iload 5, 2) := by decide +kernel
theorem dL_isTurned_140 : decode cL_isTurned 140 = .ok (.if_icmp .ne 25, 3) := by decide +kernel
theorem dL_isTurned_143 : decode cL_isTurned 143 = .ok (.aload_n 0, 1) := by decide +kernel
theorem dL_isTurned_144 : decode cL_isTurned 144 = .ok (.iconst 2, 1) := by decide +kernel
theorem dL_isTurned_145 : decode cL_isTurned 145 = .ok (.invokevirtual 19, 3) := by decide +kernel
theorem dL_isTurned_148 : decode cL_isTurned 148 = .ok (.iload 4, 2) := by decide +kernel
theorem dL_isTurned_150 : decode cL_isTurned 150 = .ok (.iload 7, 2) := by decide +kernel
theorem dL_isTurned_152 : decode cL_isTurned 152 = .ok (.iadd, 1) := by decide +kernel
theorem dL_isTurned_153 : decode cL_isTurned 153 = .ok (.bipush 64, 2) := by decide +kernel
theorem dL_isTurned_155 : decode cL_isTurned 155 = .ok (.invokestatic 9, 3) := by decide +kernel
theorem dL_isTurned_158 : decode cL_isTurned 158 = .ok (.if_icmp .ne 7, 3) := by decide +kernel
theorem dL_isTurned_161 : decode cL_isTurned 161 = .ok (.iconst 1, 1) := by decide +kernel
theorem dL_isTurned_162 : decode cL_isTurned 162 = .ok (.goto 4, 3) := by decide +kernel
theorem dL_isTurned_165 : decode cL_isTurned 165 = .ok (.iconst 0, 1) := by decide +kernel
theorem dL_isTurned_166 : decode cL_isTurned 166 = .ok (.istore 8, 2) := by decide +kernel
theorem dL_isTurned_168 : decode cL_isTurned 168 = .ok (.iload 8, 2) := by decide +kernel
theorem dL_isTurned_170 : decode cL_isTurned 170 = .ok (.ifCond .eq 49, 3) := by decide +kernel
theorem dL_isTurned_173 : decode cL_isTurned 173 = .ok (.iload_n 1, 1) := by decide +kernel
theorem dL_isTurned_174 : decode cL_isTurned 174 = .ok (.bipush 7, 2) := by decide +kernel
theorem dL_isTurned_176 : decode cL_isTurned 176 = .ok (.ishr, 1) := by decide +kernel
theorem dL_isTurned_177 : decode cL_isTurned 177 = .ok (.iconst 2, 1) := by decide +kernel
theorem dL_isTurned_178 : decode cL_isTurned 178 = .ok (.invokestatic 106, 3) := by decide +kernel
theorem dL_isTurned_181 : decode cL_isTurned 181 = .ok (.ifCond .ne 38, 3) := by decide +kernel
theorem dL_isTurned_184 : decode cL_isTurned 184 = .ok (.aload_n 0, 1) := by decide +kernel
theorem dL_isTurned_185 : decode cL_isTurned 185 = .ok (.iload_n 2, 1) := by decide +kernel
theorem dL_isTurned_186 : decode cL_isTurned 186 = .ok (.ineg, 1) := by decide +kernel
theorem dL_isTurned_187 : decode cL_isTurned 187 = .ok (.invokevirtual 41, 3) := by decide +kernel
theorem dL_isTurned_190 : decode cL_isTurned 190 = .ok (.iload_n 3, 1) := by decide +kernel
theorem dL_isTurned_191 : decode cL_isTurned 191 = .ok (.if_icmp .ne 25, 3) := by decide +kernel
theorem dL_isTurned_194 : decode cL_isTurned 194 = .ok (.aload_n 0, 1) := by decide +kernel
theorem dL_isTurned_195 : decode cL_isTurned 195 = .ok (.iconst 3, 1) := by decide +kernel
theorem dL_isTurned_196 : decode cL_isTurned 196 = .ok (.invokevirtual 19, 3) := by decide +kernel
theorem dL_isTurned_199 : decode cL_isTurned 199 = .ok (.ifCond .eq 13, 3) := by decide +kernel
theorem dL_isTurned_202 : decode cL_isTurned 202 = .ok (.aload_n 0, 1) := by decide +kernel
theorem dL_isTurned_203 : decode cL_isTurned 203 = .ok (.iconst 2, 1) := by decide +kernel
theorem dL_isTurned_204 : decode cL_isTurned 204 = .ok (.invokevirtual 19, 3) := by decide +kernel
theorem dL_isTurned_207 : decode cL_isTurned 207 = .ok (.iload 4, 2) := by decide +kernel
theorem dL_isTurned_209 : decode cL_isTurned 209 = .ok (.if_icmp .ne 7, 3) := by decide +kernel
theorem dL_isTurned_212 : decode cL_isTurned 212 = .ok (.iconst 1, 1) := by decide +kernel
theorem dL_isTurned_213 : decode cL_isTurned 213 = .ok (.goto 4, 3) := by decide +kernel
theorem dL_isTurned_216 : decode cL_isTurned 216 = .ok (.iconst 0, 1) := by decide +kernel
theorem dL_isTurned_217 : decode cL_isTurned 217 = .ok (.istore 8, 2) := by decide +kernel
theorem dL_isTurned_219 : decode cL_isTurned 219 = .ok (.iload 8, 2) := by decide +kernel
theorem dL_isTurned_221 : decode cL_isTurned 221 = .ok (.ireturn, 1) := by decide +kernel
theorem dL_least_0 : decode cL_least 0 = .ok (.iload_n 0, 1) := by decide +kernel
theorem dL_least_1 : decode cL_least 1 = .ok (.iload_n 1, 1) := by decide +kernel
theorem dL_least_2 : decode cL_least 2 = .ok (.if_icmp .ge 7, 3) := by decide +kernel
theorem dL_least_5 : decode cL_least 5 = .ok (.iload_n 0, 1) := by decide +kernel
theorem dL_least_6 : decode cL_least 6 = .ok (.goto 4, 3) := by decide +kernel
theorem dL_least_9 : decode cL_least 9 = .ok (.iload_n 1, 1) := by decide +kernel
theorem dL_least_10 : decode cL_least 10 = .ok (.ireturn, 1) := by decide +kernel
theorem dL_isLearned_0 : decode cL_isLearned 0 = .ok (.aload_n 0, 1) := by decide +kernel
theorem dL_isLearned_1 : decode cL_isLearned 1 = .ok (.iconst 1, 1) := by decide +kernel
theorem dL_isLearned_2 : decode cL_isLearned 2 = .ok (.invokevirtual 19, 3) := by decide +kernel
theorem dL_isLearned_5 : decode cL_isLearned 5 = .ok (.istore_n 1, 1) := by decide +kernel
theorem dL_isLearned_6 : decode cL_isLearned 6 = .ok (.iload_n 1, 1) := by decide +kernel
theorem dL_isLearned_7 : decode cL_isLearned 7 = .ok (.sipush 510, 3) := by decide +kernel
theorem dL_isLearned_10 : decode cL_isLearned 10 = .ok (.idiv, 1) := by decide +kernel
theorem dL_isLearned_11 : decode cL_isLearned 11 = .ok (.istore_n 2, 1) := by decide +kernel
theorem dL_isLearned_12 : decode cL_isLearned 12 = .ok (.iconst 0, 1) := by decide +kernel
theorem dL_isLearned_13 : decode cL_isLearned 13 = .ok (.istore_n 3, 1) := by decide +kernel
theorem dL_isLearned_14 : decode cL_isLearned 14 = .ok (.iconst 3, 1) := by decide +kernel
theorem dL_isLearned_15 : decode cL_isLearned 15 = .ok (.newarray .int, 2) := by decide +kernel
theorem dL_isLearned_17 : decode cL_isLearned 17 = .ok (.astore 4, 2) := by decide +kernel
theorem dL_isLearned_19 : decode cL_isLearned 19 = .ok (.iconst 0, 1) := by decide +kernel
theorem dL_isLearned_20 : decode cL_isLearned 20 = .ok (.istore 5, 2) := by decide +kernel
theorem dL_isLearned_22 : decode cL_isLearned 22 = .ok (.iload 5, 2) := by decide +kernel
theorem dL_isLearned_24 : decode cL_isLearned 24 = .ok (.iconst 3, 1) := by decide +kernel
theorem dL_isLearned_25 : decode cL_isLearned 25 = .ok (.if_icmp .ge 21, 3) := by decide +kernel
theorem dL_isLearned_28 : decode cL_isLearned 28 = .ok (.aload 4, 2) := by decide +kernel
theorem dL_isLearned_30 : decode cL_isLearned 30 = .ok (.iload 5, 2) := by decide +kernel
theorem dL_isLearned_32 : decode cL_isLearned 32 = .ok (.aload_n 0, 1) := by decide +kernel
theorem dL_isLearned_33 : decode cL_isLearned 33 = .ok (.iload 5, 2) := by decide +kernel
theorem dL_isLearned_35 : decode cL_isLearned 35 = .ok (.iload_n 2, 1) := by decide +kernel
theorem dL_isLearned_36 : decode cL_isLearned 36 = .ok (.invokevirtual 25, 3) := by decide +kernel
theorem dL_isLearned_39 : decode cL_isLearned 39 = .ok (.iastore, 1) := by decide +kernel
theorem dL_isLearned_40 : decode cL_isLearned 40 = .ok (.iinc 5 1, 3) := by decide +kernel
theorem dL_isLearned_43 : decode cL_isLearned 43 = .ok (.goto (-21), 3) := by decide +kernel
theorem dL_isLearned_46 : decode cL_isLearned 46 = .ok (.aload_n 0, 1) := by decide +kernel
theorem dL_isLearned_47 : decode cL_isLearned 47 = .ok (.invokevirtual 113, 3) := by decide +kernel
theorem dL_isLearned_50 : decode cL_isLearned 50 = .ok (.istore 5, 2) := by decide +kernel
theorem dL_isLearned_52 : decode cL_isLearned 52 = .ok (.iload 5, 2) := by decide +kernel
theorem dL_isLearned_54 : decode cL_isLearned 54 = .ok (.ifCond .lt 7, 3) := by decide +kernel
theorem dL_isLearned_57 : decode cL_isLearned 57 = .ok (.iconst 1, 1) := by decide +kernel
theorem dL_isLearned_58 : decode cL_isLearned 58 = .ok (.goto 4, 3) := by decide +kernel
theorem dL_isLearned_61 : decode cL_isLearned 61 = .ok (.iconst 0, 1) := by decide +kernel
theorem dL_isLearned_62 : decode cL_isLearned 62 = .ok (.istore 6, 2) := by decide +kernel
theorem dL_isLearned_64 : decode cL_isLearned 64 = .ok (.iconst 0, 1) := by decide +kernel
theorem dL_isLearned_65 : decode cL_isLearned 65 = .ok (.istore 7, 2) := by decide +kernel
theorem dL_isLearned_67 : decode cL_isLearned 67 = .ok (.iload 7, 2) := by decide +kernel
theorem dL_isLearned_69 : decode cL_isLearned 69 = .ok (.iconst 3, 1) := by decide +kernel
theorem dL_isLearned_70 : decode cL_isLearned 70 = .ok (.if_icmp .ge 92, 3) := by decide +kernel
theorem dL_isLearned_73 : decode cL_isLearned 73 = .ok (.iload 6, 2) := by decide +kernel
theorem dL_isLearned_75 : decode cL_isLearned 75 = .ok (.ifCond .eq 87, 3) := by decide +kernel
theorem dL_isLearned_78 : decode cL_isLearned 78 = .ok (.aload_n 0, 1) := by decide +kernel
theorem dL_isLearned_79 : decode cL_isLearned 79 = .ok (.iload 7, 2) := by decide +kernel
theorem dL_isLearned_81 : decode cL_isLearned 81 = .ok (.iload_n 2, 1) := by decide +kernel
theorem dL_isLearned_82 : decode cL_isLearned 82 = .ok (.invokevirtual 25, 3) := by decide +kernel
theorem dL_isLearned_85 : decode cL_isLearned 85 = .ok (.istore 8, 2) := by decide +kernel
theorem dL_isLearned_87 : decode cL_isLearned 87 = .ok (.iload_n 3, 1) := by decide +kernel
theorem dL_isLearned_88 : decode cL_isLearned 88 = .ok (.iload 8, 2) := by decide +kernel
theorem dL_isLearned_90 : decode cL_isLearned 90 = .ok (.aload 4, 2) := by decide +kernel
theorem dL_isLearned_92 : decode cL_isLearned 92 = .ok (.iload 7, 2) := by decide +kernel
theorem dL_isLearned_94 : decode cL_isLearned 94 = .ok (.iaload, 1) := by decide +kernel
theorem dL_isLearned_95 : decode cL_isLearned 95 = .ok (.if_icmp .ne 7, 3) := by decide +kernel
theorem dL_isLearned_98 : decode cL_isLearned 98 = .ok (.iconst 0, 1) := by decide +kernel
theorem dL_isLearned_99 : decode cL_isLearned 99 = .ok (.goto 4, 3) := by decide +kernel
theorem dL_isLearned_102 : decode cL_isLearned 102 = .ok (.iconst 1, 1) := by decide +kernel
theorem dL_isLearned_103 : decode cL_isLearned 103 = .ok (.iadd, 1) := by decide +kernel
theorem dL_isLearned_104 : decode cL_isLearned 104 = .ok (.istore_n 3, 1) := by decide +kernel
theorem dL_isLearned_105 : decode cL_isLearned 105 = .ok (.iload 8, 2) := by decide +kernel
theorem dL_isLearned_107 : decode cL_isLearned 107 = .ok (.bipush 81, 2) := by decide +kernel
theorem dL_isLearned_109 : decode cL_isLearned 109 = .ok (.if_icmp .le 44, 3) := by decide +kernel
theorem dL_isLearned_112 : decode cL_isLearned 112 = .ok (.iload 8, 2) := by decide +kernel
theorem dL_isLearned_114 : decode cL_isLearned 114 = .ok (.bipush 119, 2) := by decide +kernel
theorem dL_isLearned_116 : decode cL_isLearned 116 = .ok (.if_icmp .ge 37, 3) := by decide +kernel
theorem dL_isLearned_119 : decode cL_isLearned 119 = .ok (.aload_n 0, 1) := by decide +kernel
theorem dL_isLearned_120 : decode cL_isLearned 120 = .ok (.iload 7, 2) := by decide +kernel
theorem dL_isLearned_122 : decode cL_isLearned 122 = .ok (.invokevirtual 30, 3) := by decide +kernel
theorem dL_isLearned_125 : decode cL_isLearned 125 = .ok (.iload 8, 2) := by decide +kernel
theorem dL_isLearned_127 : decode cL_isLearned 127 = .ok (.isub, 1) := by decide +kernel
theorem dL_isLearned_128 : decode cL_isLearned 128 = .ok (.bipush 100, 2) := by decide +kernel
theorem dL_isLearned_130 : decode cL_isLearned 130 = .ok (.iadd, 1) := by decide +kernel
theorem dL_isLearned_131 : decode cL_isLearned 131 = .ok (.iload 7, 2) := by decide +kernel
theorem dL_isLearned_133 : decode cL_isLearned 133 = .ok (.invokestatic 98, 3) := by decide +kernel
theorem dL_isLearned_136 : decode cL_isLearned 136 = .ok (.invokestatic 9, 3) := by decide +kernel
theorem dL_isLearned_139 : decode cL_isLearned 139 = .ok (.iload_n 1, 1) := by decide +kernel
theorem dL_isLearned_140 : decode cL_isLearned 140 = .ok (.iload 7, 2) := by decide +kernel
theorem dL_isLearned_142 : decode cL_isLearned 142 = .ok (.invokestatic 98, 3) := by decide +kernel
theorem dL_isLearned_145 : decode cL_isLearned 145 = .ok (.irem, 1) := by decide +kernel
theorem dL_isLearned_146 : decode cL_isLearned 146 = .ok (.if_icmp .ne 7, 3) := by decide +kernel
theorem dL_isLearned_149 : decode cL_isLearned 149 = .ok (.iconst 1, 1) := by decide +kernel
theorem dL_isLearned_150 : decode cL_isLearned 150 = .ok (.goto 4, 3) := by decide +kernel
theorem dL_isLearned_153 : decode cL_isLearned 153 = .ok (.iconst 0, 1) := by decide +kernel
theorem dL_isLearned_154 : decode cL_isLearned 154 = .ok (.istore 6, 2) := by decide +kernel
theorem dL_isLearned_156 : decode cL_isLearned 156 = .ok (.iinc 7 1, 3) := by decide +kernel
theorem dL_isLearned_159 : decode cL_isLearned 159 = .ok (.goto (-92), 3) := by decide +kernel
theorem dL_isLearned_162 : decode cL_isLearned 162 = .ok (.iload 6, 2) := by decide +kernel
theorem dL_isLearned_164 : decode cL_isLearned 164 = .ok (.ifCond .eq 71, 3) := by decide +kernel
theorem dL_isLearned_167 : decode cL_isLearned 167 = .ok (.iload 5, 2) := by decide +kernel
theorem dL_isLearned_169 : decode cL_isLearned 169 = .ok (.iload_n 3, 1) := by decide +kernel
theorem dL_isLearned_170 : decode cL_isLearned 170 = .ok (.if_icmp .ne 65, 3) := by decide +kernel
theorem dL_isLearned_173 : decode cL_isLearned 173 = .ok (.aload_n 0, 1) := by decide +kernel
theorem dL_isLearned_174 : decode cL_isLearned 174 = .ok (.iload_n 2, 1) := by decide +kernel
theorem dL_isLearned_175 : decode cL_isLearned 175 = .ok (.iconst 0, 1) := by decide +kernel
theorem dL_isLearned_176 : decode cL_isLearned 176 = .ok (.invokestatic 101, 3) := by decide +kernel
theorem dL_isLearned_179 : decode cL_isLearned 179 = .ok (.iload_n 1, 1) := by decide +kernel
theorem dL_isLearned_180 : decode cL_isLearned 180 = .ok (.if_icmp .ne 55, 3) := by decide +kernel
theorem dL_isLearned_183 : decode cL_isLearned 183 = .ok (.aload_n 0, 1) := by decide +kernel
theorem dL_isLearned_184 : decode cL_isLearned 184 = .ok (.iload_n 2, 1) := by decide +kernel
theorem dL_isLearned_185 : decode cL_isLearned 185 = .ok (.iconst 1, 1) := by decide +kernel
theorem dL_isLearned_186 : decode cL_isLearned 186 = .ok (.invokestatic 101, 3) := by decide +kernel
theorem dL_isLearned_189 : decode cL_isLearned 189 = .ok (.ifCond .ne 46, 3) := by decide +kernel
theorem dL_isLearned_192 : decode cL_isLearned 192 = .ok (.aload_n 0, 1) := by decide +kernel
theorem dL_isLearned_193 : decode cL_isLearned 193 = .ok (.iconst 2, 1) := by decide +kernel
theorem dL_isLearned_194 : decode cL_isLearned 194 = .ok (.invokevirtual 66, 3) := by decide +kernel
theorem dL_isLearned_197 : decode cL_isLearned 197 = .ok (.sipush 510, 3) := by decide +kernel
theorem dL_isLearned_200 : decode cL_isLearned 200 = .ok (.idiv, 1) := by decide +kernel
theorem dL_isLearned_201 : decode cL_isLearned 201 = .ok (.iload_n 2, 1) := by decide +kernel
theorem dL_isLearned_202 : decode cL_isLearned 202 = .ok (.if_icmp .ne 29, 3) := by decide +kernel
theorem dL_isLearned_205 : decode cL_isLearned 205 = .ok (.aload_n 0, 1) := by decide +kernel
theorem dL_isLearned_206 : decode cL_isLearned 206 = .ok (.iconst 0, 1) := by decide +kernel
theorem dL_isLearned_207 : decode cL_isLearned 207 = .ok (.invokevirtual 66, 3) := by decide +kernel
theorem dL_isLearned_210 : decode cL_isLearned 210 = .ok (.iload_n 1, 1) := by decide +kernel
theorem dL_isLearned_211 : decode cL_isLearned 211 = .ok (.if_icmp .ne 24, 3) := by decide +kernel
theorem dL_isLearned_214 : decode cL_isLearned 214 = .ok (.aload_n 0, 1) := by decide +kernel
theorem dL_isLearned_215 : decode cL_isLearned 215 = .ok (.iconst 1, 1) := by decide +kernel
theorem dL_isLearned_216 : decode cL_isLearned 216 = .ok (.invokevirtual 66, 3) := by decide +kernel
theorem dL_isLearned_219 : decode cL_isLearned 219 = .ok (.ifCond .ne 16, 3) := by decide +kernel
theorem dL_isLearned_222 : decode cL_isLearned 222 = .ok (.aload_n 0, 1) := by decide +kernel
theorem dL_isLearned_223 : decode cL_isLearned 223 = .ok (.iconst 3, 1) := by decide +kernel
theorem dL_isLearned_224 : decode cL_isLearned 224 = .ok (.invokevirtual 66, 3) := by decide +kernel
theorem dL_isLearned_227 : decode cL_isLearned 227 = .ok (.iconst 2, 1) := by decide +kernel
theorem dL_isLearned_228 : decode cL_isLearned 228 = .ok (.if_icmp .ne 7, 3) := by decide +kernel
theorem dL_isLearned_231 : decode cL_isLearned 231 = .ok (.iconst 1, 1) := by decide +kernel
theorem dL_isLearned_232 : decode cL_isLearned 232 = .ok (.goto 4, 3) := by decide +kernel
theorem dL_isLearned_235 : decode cL_isLearned 235 = .ok (.iconst 0, 1) := by decide +kernel
theorem dL_isLearned_236 : decode cL_isLearned 236 = .ok (.ireturn, 1) := by decide +kernel
theorem dL_acts_0 : decode cL_acts 0 = .ok (.iload_n 1, 1) := by decide +kernel
theorem dL_acts_1 : decode cL_acts 1 = .ok (.bipush 14, 2) := by decide +kernel
theorem dL_acts_3 : decode cL_acts 3 = .ok (.invokestatic 106, 3) := by decide +kernel
theorem dL_acts_6 : decode cL_acts 6 = .ok (.tableswitch 445 0 12 #[66, 66, 66, 72, 90, 112, 131, 131, 211, 241, 350, 389, 394], 66) := by decide +kernel
theorem dL_acts_72 : decode cL_acts 72 = .ok (.aload_n 0, 1) := by decide +kernel
theorem dL_acts_73 : decode cL_acts 73 = .ok (.iload_n 2, 1) := by decide +kernel
theorem dL_acts_74 : decode cL_acts 74 = .ok (.invokestatic 116, 3) := by decide +kernel
theorem dL_acts_77 : decode cL_acts 77 = .ok (.ireturn, 1) := by decide +kernel
theorem dL_acts_78 : decode cL_acts 78 = .ok (.aload_n 0, 1) := by decide +kernel
theorem dL_acts_79 : decode cL_acts 79 = .ok (.iload_n 2, 1) := by decide +kernel
theorem dL_acts_80 : decode cL_acts 80 = .ok (.iconst 2, 1) := by decide +kernel
theorem dL_acts_81 : decode cL_acts 81 = .ok (.invokestatic 106, 3) := by decide +kernel
theorem dL_acts_84 : decode cL_acts 84 = .ok (.invokevirtual 44, 3) := by decide +kernel
theorem dL_acts_87 : decode cL_acts 87 = .ok (.ifCond .lt 7, 3) := by decide +kernel
theorem dL_acts_90 : decode cL_acts 90 = .ok (.iconst 1, 1) := by decide +kernel
theorem dL_acts_91 : decode cL_acts 91 = .ok (.goto 4, 3) := by decide +kernel
theorem dL_acts_94 : decode cL_acts 94 = .ok (.iconst 0, 1) := by decide +kernel
theorem dL_acts_95 : decode cL_acts 95 = .ok (.ireturn, 1) := by decide +kernel
theorem dL_acts_96 : decode cL_acts 96 = .ok (.aload_n 0, 1) := by decide +kernel
theorem dL_acts_97 : decode cL_acts 97 = .ok (.iconst 1, 1) := by decide +kernel
theorem dL_acts_98 : decode cL_acts 98 = .ok (.iload_n 2, 1) := by decide +kernel
theorem dL_acts_99 : decode cL_acts 99 = .ok (.bipush 9, 2) := by decide +kernel
theorem dL_acts_101 : decode cL_acts 101 = .ok (.invokestatic 106, 3) := by decide +kernel
theorem dL_acts_104 : decode cL_acts 104 = .ok (.iadd, 1) := by decide +kernel
theorem dL_acts_105 : decode cL_acts 105 = .ok (.invokevirtual 47, 3) := by decide +kernel
theorem dL_acts_108 : decode cL_acts 108 = .ok (.iconst (-1), 1) := by decide +kernel
theorem dL_acts_109 : decode cL_acts 109 = .ok (.if_icmp .eq 7, 3) := by decide +kernel
theorem dL_acts_112 : decode cL_acts 112 = .ok (.iconst 1, 1) := by decide +kernel
theorem dL_acts_113 : decode cL_acts 113 = .ok (.goto 4, 3) := by decide +kernel
theorem dL_acts_116 : decode cL_acts 116 = .ok (.iconst 0, 1) := by decide +kernel
theorem dL_acts_117 : decode cL_acts 117 = .ok (.ireturn, 1) := by decide +kernel
theorem dL_acts_118 : decode cL_acts 118 = .ok (.aload_n 0, 1) := by decide +kernel
theorem dL_acts_119 : decode cL_acts 119 = .ok (.iload_n 2, 1) := by decide +kernel
theorem dL_acts_120 : decode cL_acts 120 = .ok (.bipush 40, 2) := by decide +kernel
theorem dL_acts_122 : decode cL_acts 122 = .ok (.invokestatic 106, 3) := by decide +kernel
theorem dL_acts_125 : decode cL_acts 125 = .ok (.invokevirtual 50, 3) := by decide +kernel
theorem dL_acts_128 : decode cL_acts 128 = .ok (.ifCond .lt 7, 3) := by decide +kernel
theorem dL_acts_131 : decode cL_acts 131 = .ok (.iconst 1, 1) := by decide +kernel
theorem dL_acts_132 : decode cL_acts 132 = .ok (.goto 4, 3) := by decide +kernel
theorem dL_acts_135 : decode cL_acts 135 = .ok (.iconst 0, 1) := by decide +kernel
theorem dL_acts_136 : decode cL_acts 136 = .ok (.ireturn, 1) := by decide +kernel
theorem dL_acts_137 : decode cL_acts 137 = .ok (.iload_n 2, 1) := by decide +kernel
theorem dL_acts_138 : decode cL_acts 138 = .ok (.iconst 3, 1) := by decide +kernel
theorem dL_acts_139 : decode cL_acts 139 = .ok (.invokestatic 106, 3) := by decide +kernel
theorem dL_acts_142 : decode cL_acts 142 = .ok (.istore_n 3, 1) := by decide +kernel
theorem dL_acts_143 : decode cL_acts 143 = .ok (.iload_n 2, 1) := by decide +kernel
theorem dL_acts_144 : decode cL_acts 144 = .ok (.bipush 6, 2) := by decide +kernel
theorem dL_acts_146 : decode cL_acts 146 = .ok (.ishr, 1) := by decide +kernel
theorem dL_acts_147 : decode cL_acts 147 = .ok (.bipush 19, 2) := by decide +kernel
theorem dL_acts_149 : decode cL_acts 149 = .ok (.invokestatic 106, 3) := by decide +kernel
theorem dL_acts_152 : decode cL_acts 152 = .ok (.bipush 9, 2) := by decide +kernel
theorem dL_acts_154 : decode cL_acts 154 = .ok (.isub, 1) := by decide +kernel
theorem dL_acts_155 : decode cL_acts 155 = .ok (.istore 4, 2) := by decide +kernel
theorem dL_acts_157 : decode cL_acts 157 = .ok (.aload_n 0, 1) := by decide +kernel
theorem dL_acts_158 : decode cL_acts 158 = .ok (.iload_n 3, 1) := by decide +kernel
theorem dL_acts_159 : decode cL_acts 159 = .ok (.iload_n 2, 1) := by decide +kernel
theorem dL_acts_160 : decode cL_acts 160 = .ok (.iconst 2, 1) := by decide +kernel
theorem dL_acts_161 : decode cL_acts 161 = .ok (.ishr, 1) := by decide +kernel
theorem dL_acts_162 : decode cL_acts 162 = .ok (.bipush 8, 2) := by decide +kernel
theorem dL_acts_164 : decode cL_acts 164 = .ok (.invokestatic 106, 3) := by decide +kernel
theorem dL_acts_167 : decode cL_acts 167 = .ok (.iload 4, 2) := by decide +kernel
theorem dL_acts_169 : decode cL_acts 169 = .ok (.invokevirtual 53, 3) := by decide +kernel
theorem dL_acts_172 : decode cL_acts 172 = .ok (.istore 5, 2) := by decide +kernel
theorem dL_acts_174 : decode cL_acts 174 = .ok (.iload 5, 2) := by decide +kernel
theorem dL_acts_176 : decode cL_acts 176 = .ok (.bipush 90, 2) := by decide +kernel
theorem dL_acts_178 : decode cL_acts 178 = .ok (.if_icmp .le 37, 3) := by decide +kernel
theorem dL_acts_181 : decode cL_acts 181 = .ok (.iload 5, 2) := by decide +kernel
theorem dL_acts_183 : decode cL_acts 183 = .ok (.bipush 110, 2) := by decide +kernel
theorem dL_acts_185 : decode cL_acts 185 = .ok (.if_icmp .ge 30, 3) := by decide +kernel
theorem dL_acts_188 : decode cL_acts 188 = .ok (.aload_n 0, 1) := by decide +kernel
theorem dL_acts_189 : decode cL_acts 189 = .ok (.iload_n 3, 1) := by decide +kernel
theorem dL_acts_190 : decode cL_acts 190 = .ok (.iload_n 2, 1) := by decide +kernel
theorem dL_acts_191 : decode cL_acts 191 = .ok (.iconst 2, 1) := by decide +kernel
theorem dL_acts_192 : decode cL_acts 192 = .ok (.ishr, 1) := by decide +kernel
theorem dL_acts_193 : decode cL_acts 193 = .ok (.bipush 8, 2) := by decide +kernel
theorem dL_acts_195 : decode cL_acts 195 = .ok (.invokestatic 106, 3) := by decide +kernel
theorem dL_acts_198 : decode cL_acts 198 = .ok (.iload 4, 2) := by decide +kernel
theorem dL_acts_200 : decode cL_acts 200 = .ok (.invokevirtual 53, 3) := by decide +kernel
theorem dL_acts_203 : decode cL_acts 203 = .ok (.iload 4, 2) := by decide +kernel
theorem dL_acts_205 : decode cL_acts 205 = .ok (.bipush 100, 2) := by decide +kernel
theorem dL_acts_207 : decode cL_acts 207 = .ok (.iadd, 1) := by decide +kernel
theorem dL_acts_208 : decode cL_acts 208 = .ok (.if_icmp .ne 7, 3) := by decide +kernel
theorem dL_acts_211 : decode cL_acts 211 = .ok (.iconst 1, 1) := by decide +kernel
theorem dL_acts_212 : decode cL_acts 212 = .ok (.goto 4, 3) := by decide +kernel
theorem dL_acts_215 : decode cL_acts 215 = .ok (.iconst 0, 1) := by decide +kernel
theorem dL_acts_216 : decode cL_acts 216 = .ok (.ireturn, 1) := by decide +kernel
theorem dL_acts_217 : decode cL_acts 217 = .ok (.aload_n 0, 1) := by decide +kernel
theorem dL_acts_218 : decode cL_acts 218 = .ok (.iload_n 2, 1) := by decide +kernel
theorem dL_acts_219 : decode cL_acts 219 = .ok (.iconst 3, 1) := by decide +kernel
theorem dL_acts_220 : decode cL_acts 220 = .ok (.invokestatic 106, 3) := by decide +kernel
theorem dL_acts_223 : decode cL_acts 223 = .ok (.iload_n 2, 1) := by decide +kernel
theorem dL_acts_224 : decode cL_acts 224 = .ok (.iconst 2, 1) := by decide +kernel
theorem dL_acts_225 : decode cL_acts 225 = .ok (.ishr, 1) := by decide +kernel
theorem dL_acts_226 : decode cL_acts 226 = .ok (.bipush 7, 2) := by decide +kernel
theorem dL_acts_228 : decode cL_acts 228 = .ok (.invokestatic 106, 3) := by decide +kernel
theorem dL_acts_231 : decode cL_acts 231 = .ok (.iconst 3, 1) := by decide +kernel
theorem dL_acts_232 : decode cL_acts 232 = .ok (.isub, 1) := by decide +kernel
theorem dL_acts_233 : decode cL_acts 233 = .ok (.invokevirtual 57, 3) := by decide +kernel
theorem dL_acts_236 : decode cL_acts 236 = .ok (.bipush 90, 2) := by decide +kernel
theorem dL_acts_238 : decode cL_acts 238 = .ok (.if_icmp .le 7, 3) := by decide +kernel
theorem dL_acts_241 : decode cL_acts 241 = .ok (.iconst 1, 1) := by decide +kernel
theorem dL_acts_242 : decode cL_acts 242 = .ok (.goto 4, 3) := by decide +kernel
theorem dL_acts_245 : decode cL_acts 245 = .ok (.iconst 0, 1) := by decide +kernel
theorem dL_acts_246 : decode cL_acts 246 = .ok (.ireturn, 1) := by decide +kernel
theorem dL_acts_247 : decode cL_acts 247 = .ok (.iload_n 2, 1) := by decide +kernel
theorem dL_acts_248 : decode cL_acts 248 = .ok (.iconst 4, 1) := by decide +kernel
theorem dL_acts_249 : decode cL_acts 249 = .ok (.invokestatic 106, 3) := by decide +kernel
theorem dL_acts_252 : decode cL_acts 252 = .ok (.istore_n 3, 1) := by decide +kernel
theorem dL_acts_253 : decode cL_acts 253 = .ok (.iload_n 3, 1) := by decide +kernel
theorem dL_acts_254 : decode cL_acts 254 = .ok (.ifCond .ne 14, 3) := by decide +kernel
theorem dL_acts_257 : decode cL_acts 257 = .ok (.iload_n 2, 1) := by decide +kernel
theorem dL_acts_258 : decode cL_acts 258 = .ok (.iconst 2, 1) := by decide +kernel
theorem dL_acts_259 : decode cL_acts 259 = .ok (.ishr, 1) := by decide +kernel
theorem dL_acts_260 : decode cL_acts 260 = .ok (.bipush 41, 2) := by decide +kernel
theorem dL_acts_262 : decode cL_acts 262 = .ok (.invokestatic 106, 3) := by decide +kernel
theorem dL_acts_265 : decode cL_acts 265 = .ok (.goto 48, 3) := by decide +kernel
theorem dL_acts_268 : decode cL_acts 268 = .ok (.iload_n 3, 1) := by decide +kernel
theorem dL_acts_269 : decode cL_acts 269 = .ok (.iconst 1, 1) := by decide +kernel
theorem dL_acts_270 : decode cL_acts 270 = .ok (.if_icmp .ne 14, 3) := by decide +kernel
theorem dL_acts_273 : decode cL_acts 273 = .ok (.iload_n 2, 1) := by decide +kernel
theorem dL_acts_274 : decode cL_acts 274 = .ok (.iconst 2, 1) := by decide +kernel
theorem dL_acts_275 : decode cL_acts 275 = .ok (.ishr, 1) := by decide +kernel
theorem dL_acts_276 : decode cL_acts 276 = .ok (.bipush 33, 2) := by decide +kernel
theorem dL_acts_278 : decode cL_acts 278 = .ok (.invokestatic 106, 3) := by decide +kernel
theorem dL_acts_281 : decode cL_acts 281 = .ok (.goto 32, 3) := by decide +kernel
theorem dL_acts_284 : decode cL_acts 284 = .ok (.iload_n 3, 1) := by decide +kernel
theorem dL_acts_285 : decode cL_acts 285 = .ok (.iconst 2, 1) := by decide +kernel
theorem dL_acts_286 : decode cL_acts 286 = .ok (.if_icmp .ne 17, 3) := by decide +kernel
theorem dL_acts_289 : decode cL_acts 289 = .ok (.iconst 1, 1) := by decide +kernel
theorem dL_acts_290 : decode cL_acts 290 = .ok (.iload_n 2, 1) := by decide +kernel
theorem dL_acts_291 : decode cL_acts 291 = .ok (.iconst 2, 1) := by decide +kernel
theorem dL_acts_292 : decode cL_acts 292 = .ok (.ishr, 1) := by decide +kernel
theorem dL_acts_293 : decode cL_acts 293 = .ok (.sipush 4080, 3) := by decide +kernel
theorem dL_acts_296 : decode cL_acts 296 = .ok (.invokestatic 106, 3) := by decide +kernel
theorem dL_acts_299 : decode cL_acts 299 = .ok (.iadd, 1) := by decide +kernel
theorem dL_acts_300 : decode cL_acts 300 = .ok (.goto 13, 3) := by decide +kernel
theorem dL_acts_303 : decode cL_acts 303 = .ok (.iload_n 2, 1) := by decide +kernel
theorem dL_acts_304 : decode cL_acts 304 = .ok (.iconst 2, 1) := by decide +kernel
theorem dL_acts_305 : decode cL_acts 305 = .ok (.ishr, 1) := by decide +kernel
theorem dL_acts_306 : decode cL_acts 306 = .ok (.bipush 9, 2) := by decide +kernel
theorem dL_acts_308 : decode cL_acts 308 = .ok (.invokestatic 106, 3) := by decide +kernel
theorem dL_acts_311 : decode cL_acts 311 = .ok (.iconst 4, 1) := by decide +kernel
theorem dL_acts_312 : decode cL_acts 312 = .ok (.isub, 1) := by decide +kernel
theorem dL_acts_313 : decode cL_acts 313 = .ok (.istore 4, 2) := by decide +kernel
theorem dL_acts_315 : decode cL_acts 315 = .ok (.aload_n 0, 1) := by decide +kernel
theorem dL_acts_316 : decode cL_acts 316 = .ok (.iload_n 3, 1) := by decide +kernel
theorem dL_acts_317 : decode cL_acts 317 = .ok (.iload 4, 2) := by decide +kernel
theorem dL_acts_319 : decode cL_acts 319 = .ok (.invokevirtual 60, 3) := by decide +kernel
theorem dL_acts_322 : decode cL_acts 322 = .ok (.ifCond .lt 32, 3) := by decide +kernel
theorem dL_acts_325 : decode cL_acts 325 = .ok (.aload_n 0, 1) := by decide +kernel
theorem dL_acts_326 : decode cL_acts 326 = .ok (.bipush 20, 2) := by decide +kernel
theorem dL_acts_328 : decode cL_acts 328 = .ok (.iload_n 3, 1) := by decide +kernel
theorem dL_acts_329 : decode cL_acts 329 = .ok (.iadd, 1) := by decide +kernel
theorem dL_acts_330 : decode cL_acts 330 = .ok (.invokevirtual 19, 3) := by decide +kernel
theorem dL_acts_333 : decode cL_acts 333 = .ok (.iload 4, 2) := by decide +kernel
theorem dL_acts_335 : decode cL_acts 335 = .ok (.iload_n 3, 1) := by decide +kernel
theorem dL_acts_336 : decode cL_acts 336 = .ok (.iconst 3, 1) := by decide +kernel
theorem dL_acts_337 : decode cL_acts 337 = .ok (.if_icmp .ne 8, 3) := by decide +kernel
theorem dL_acts_340 : decode cL_acts 340 = .ok (.bipush 100, 2) := by decide +kernel
theorem dL_acts_342 : decode cL_acts 342 = .ok (.goto 4, 3) := by decide +kernel
theorem dL_acts_345 : decode cL_acts 345 = .ok (.iconst 0, 1) := by decide +kernel
theorem dL_acts_346 : decode cL_acts 346 = .ok (.iadd, 1) := by decide +kernel
theorem dL_acts_347 : decode cL_acts 347 = .ok (.if_icmp .ne 7, 3) := by decide +kernel
theorem dL_acts_350 : decode cL_acts 350 = .ok (.iconst 1, 1) := by decide +kernel
theorem dL_acts_351 : decode cL_acts 351 = .ok (.goto 4, 3) := by decide +kernel
theorem dL_acts_354 : decode cL_acts 354 = .ok (.iconst 0, 1) := by decide +kernel
theorem dL_acts_355 : decode cL_acts 355 = .ok (.ireturn, 1) := by decide +kernel
theorem dL_acts_356 : decode cL_acts 356 = .ok (.aload_n 0, 1) := by decide +kernel
theorem dL_acts_357 : decode cL_acts 357 = .ok (.iload_n 2, 1) := by decide +kernel
theorem dL_acts_358 : decode cL_acts 358 = .ok (.iconst 3, 1) := by decide +kernel
theorem dL_acts_359 : decode cL_acts 359 = .ok (.invokestatic 106, 3) := by decide +kernel
theorem dL_acts_362 : decode cL_acts 362 = .ok (.iload_n 2, 1) := by decide +kernel
theorem dL_acts_363 : decode cL_acts 363 = .ok (.iconst 2, 1) := by decide +kernel
theorem dL_acts_364 : decode cL_acts 364 = .ok (.ishr, 1) := by decide +kernel
theorem dL_acts_365 : decode cL_acts 365 = .ok (.bipush 8, 2) := by decide +kernel
theorem dL_acts_367 : decode cL_acts 367 = .ok (.invokestatic 106, 3) := by decide +kernel
theorem dL_acts_370 : decode cL_acts 370 = .ok (.iload_n 2, 1) := by decide +kernel
theorem dL_acts_371 : decode cL_acts 371 = .ok (.iconst 5, 1) := by decide +kernel
theorem dL_acts_372 : decode cL_acts 372 = .ok (.ishr, 1) := by decide +kernel
theorem dL_acts_373 : decode cL_acts 373 = .ok (.bipush 41, 2) := by decide +kernel
theorem dL_acts_375 : decode cL_acts 375 = .ok (.invokestatic 106, 3) := by decide +kernel
theorem dL_acts_378 : decode cL_acts 378 = .ok (.bipush 20, 2) := by decide +kernel
theorem dL_acts_380 : decode cL_acts 380 = .ok (.isub, 1) := by decide +kernel
theorem dL_acts_381 : decode cL_acts 381 = .ok (.invokevirtual 63, 3) := by decide +kernel
theorem dL_acts_384 : decode cL_acts 384 = .ok (.bipush 79, 2) := by decide +kernel
theorem dL_acts_386 : decode cL_acts 386 = .ok (.if_icmp .le 7, 3) := by decide +kernel
theorem dL_acts_389 : decode cL_acts 389 = .ok (.iconst 1, 1) := by decide +kernel
theorem dL_acts_390 : decode cL_acts 390 = .ok (.goto 4, 3) := by decide +kernel
theorem dL_acts_393 : decode cL_acts 393 = .ok (.iconst 0, 1) := by decide +kernel
theorem dL_acts_394 : decode cL_acts 394 = .ok (.ireturn, 1) := by decide +kernel
theorem dL_acts_395 : decode cL_acts 395 = .ok (.aload_n 0, 1) := by decide +kernel
theorem dL_acts_396 : decode cL_acts 396 = .ok (.invokestatic 120, 3) := by decide +kernel
theorem dL_acts_399 : decode cL_acts 399 = .ok (.ireturn, 1) := by decide +kernel
theorem dL_acts_400 : decode cL_acts 400 = .ok (.aload_n 0, 1) := by decide +kernel
theorem dL_acts_401 : decode cL_acts 401 = .ok (.bipush 6, 2) := by decide +kernel
theorem dL_acts_403 : decode cL_acts 403 = .ok (.invokevirtual 19, 3) := by decide +kernel
theorem dL_acts_406 : decode cL_acts 406 = .ok (.bipush (-4), 2) := by decide +kernel
theorem dL_acts_408 : decode cL_acts 408 = .ok (.if_icmp .ne 7, 3) := by decide +kernel
theorem dL_acts_411 : decode cL_acts 411 = .ok (.iconst 0, 1) := by decide +kernel
theorem dL_acts_412 : decode cL_acts 412 = .ok (.goto 4, 3) := by decide +kernel
theorem dL_acts_415 : decode cL_acts 415 = .ok (.iconst 1, 1) := by decide +kernel
theorem dL_acts_416 : decode cL_acts 416 = .ok (.istore_n 3, 1) := by decide +kernel
theorem dL_acts_417 : decode cL_acts 417 = .ok (.aload_n 0, 1) := by decide +kernel
theorem dL_acts_418 : decode cL_acts 418 = .ok (.invokevirtual 124, 3) := by decide +kernel
theorem dL_acts_421 : decode cL_acts 421 = .ok (.iload_n 3, 1) := by decide +kernel
theorem dL_acts_422 : decode cL_acts 422 = .ok (.if_icmp .ne 27, 3) := by decide +kernel
theorem dL_acts_425 : decode cL_acts 425 = .ok (.aload_n 0, 1) := by decide +kernel
theorem dL_acts_426 : decode cL_acts 426 = .ok (.bipush 6, 2) := by decide +kernel
theorem dL_acts_428 : decode cL_acts 428 = .ok (.invokevirtual 19, 3) := by decide +kernel
theorem dL_acts_431 : decode cL_acts 431 = .ok (.bipush (-4), 2) := by decide +kernel
theorem dL_acts_433 : decode cL_acts 433 = .ok (.if_icmp .ne 16, 3) := by decide +kernel
theorem dL_acts_436 : decode cL_acts 436 = .ok (.aload_n 0, 1) := by decide +kernel
theorem dL_acts_437 : decode cL_acts 437 = .ok (.bipush 7, 2) := by decide +kernel
theorem dL_acts_439 : decode cL_acts 439 = .ok (.invokevirtual 19, 3) := by decide +kernel
theorem dL_acts_442 : decode cL_acts 442 = .ok (.ifCond .ne 7, 3) := by decide +kernel
theorem dL_acts_445 : decode cL_acts 445 = .ok (.iconst 1, 1) := by decide +kernel
theorem dL_acts_446 : decode cL_acts 446 = .ok (.goto 4, 3) := by decide +kernel
theorem dL_acts_449 : decode cL_acts 449 = .ok (.iconst 0, 1) := by decide +kernel
theorem dL_acts_450 : decode cL_acts 450 = .ok (.ireturn, 1) := by decide +kernel
theorem dL_acts_451 : decode cL_acts 451 = .ok (.aload_n 0, 1) := by decide +kernel
theorem dL_acts_452 : decode cL_acts 452 = .ok (.invokestatic 127, 3) := by decide +kernel
theorem dL_acts_455 : decode cL_acts 455 = .ok (.ireturn, 1) := by decide +kernel
theorem dL_law_0 : decode cL_law 0 = .ok (.new 20, 3) := by decide +kernel
theorem dL_law_3 : decode cL_law 3 = .ok (.dup, 1) := by decide +kernel
theorem dL_law_4 : decode cL_law 4 = .ok (.invokespecial 130, 3) := by decide +kernel
theorem dL_law_7 : decode cL_law 7 = .ok (.astore_n 1, 1) := by decide +kernel
theorem dL_law_8 : decode cL_law 8 = .ok (.aload_n 1, 1) := by decide +kernel
theorem dL_law_9 : decode cL_law 9 = .ok (.invokevirtual 131, 3) := by decide +kernel
theorem dL_law_12 : decode cL_law 12 = .ok (.bipush (-2), 2) := by decide +kernel
theorem dL_law_14 : decode cL_law 14 = .ok (.if_icmp .ne 21, 3) := by decide +kernel
theorem dL_law_17 : decode cL_law 17 = .ok (.aload_n 1, 1) := by decide +kernel
theorem dL_law_18 : decode cL_law 18 = .ok (.invokestatic 134, 3) := by decide +kernel
theorem dL_law_21 : decode cL_law 21 = .ok (.ifCond .eq 14, 3) := by decide +kernel
theorem dL_law_24 : decode cL_law 24 = .ok (.aload_n 1, 1) := by decide +kernel
theorem dL_law_25 : decode cL_law 25 = .ok (.invokestatic 137, 3) := by decide +kernel
theorem dL_law_28 : decode cL_law 28 = .ok (.ifCond .eq 7, 3) := by decide +kernel
theorem dL_law_31 : decode cL_law 31 = .ok (.iconst 1, 1) := by decide +kernel
theorem dL_law_32 : decode cL_law 32 = .ok (.goto 4, 3) := by decide +kernel
theorem dL_law_35 : decode cL_law 35 = .ok (.iconst 0, 1) := by decide +kernel
theorem dL_law_36 : decode cL_law 36 = .ok (.istore_n 2, 1) := by decide +kernel
theorem dL_law_37 : decode cL_law 37 = .ok (.iconst 0, 1) := by decide +kernel
theorem dL_law_38 : decode cL_law 38 = .ok (.istore_n 3, 1) := by decide +kernel
theorem dL_law_39 : decode cL_law 39 = .ok (.iload_n 3, 1) := by decide +kernel
theorem dL_law_40 : decode cL_law 40 = .ok (.bipush 40, 2) := by decide +kernel
theorem dL_law_42 : decode cL_law 42 = .ok (.if_icmp .ge 190, 3) := by decide +kernel
theorem dL_law_45 : decode cL_law 45 = .ok (.iload_n 2, 1) := by decide +kernel
theorem dL_law_46 : decode cL_law 46 = .ok (.ifCond .eq 186, 3) := by decide +kernel
theorem dL_law_49 : decode cL_law 49 = .ok (.aload_n 0, 1) := by decide +kernel
theorem dL_law_50 : decode cL_law 50 = .ok (.iconst 2, 1) := by decide +kernel
theorem dL_law_51 : decode cL_law 51 = .ok (.iload_n 3, 1) := by decide +kernel
theorem dL_law_52 : decode cL_law 52 = .ok (.imul, 1) := by decide +kernel
theorem dL_law_53 : decode cL_law 53 = .ok (.invokestatic 140, 3) := by decide +kernel
theorem dL_law_56 : decode cL_law 56 = .ok (.istore 4, 2) := by decide +kernel
theorem dL_law_58 : decode cL_law 58 = .ok (.aload_n 0, 1) := by decide +kernel
theorem dL_law_59 : decode cL_law 59 = .ok (.iconst 2, 1) := by decide +kernel
theorem dL_law_60 : decode cL_law 60 = .ok (.iload_n 3, 1) := by decide +kernel
theorem dL_law_61 : decode cL_law 61 = .ok (.imul, 1) := by decide +kernel
theorem dL_law_62 : decode cL_law 62 = .ok (.iconst 1, 1) := by decide +kernel
theorem dL_law_63 : decode cL_law 63 = .ok (.iadd, 1) := by decide +kernel
theorem dL_law_64 : decode cL_law 64 = .ok (.invokestatic 140, 3) := by decide +kernel
theorem dL_law_67 : decode cL_law 67 = .ok (.istore 5, 2) := by decide +kernel
theorem dL_law_69 : decode cL_law 69 = .ok (.aload_n 1, 1) := by decide +kernel
theorem dL_law_70 : decode cL_law 70 = .ok (.iload 4, 2) := by decide +kernel
theorem dL_law_72 : decode cL_law 72 = .ok (.iload 5, 2) := by decide +kernel
theorem dL_law_74 : decode cL_law 74 = .ok (.invokestatic 144, 3) := by decide +kernel
theorem dL_law_77 : decode cL_law 77 = .ok (.ifCond .eq 29, 3) := by decide +kernel
theorem dL_law_80 : decode cL_law 80 = .ok (.aload_n 1, 1) := by decide +kernel
theorem dL_law_81 : decode cL_law 81 = .ok (.invokestatic 137, 3) := by decide +kernel
theorem dL_law_84 : decode cL_law 84 = .ok (.ifCond .eq 22, 3) := by decide +kernel
theorem dL_law_87 : decode cL_law 87 = .ok (.iload_n 3, 1) := by decide +kernel
theorem dL_law_88 : decode cL_law 88 = .ok (.bipush 9, 2) := by decide +kernel
theorem dL_law_90 : decode cL_law 90 = .ok (.irem, 1) := by decide +kernel
theorem dL_law_91 : decode cL_law 91 = .ok (.iconst 5, 1) := by decide +kernel
theorem dL_law_92 : decode cL_law 92 = .ok (.if_icmp .ne 10, 3) := by decide +kernel
theorem dL_law_95 : decode cL_law 95 = .ok (.aload_n 1, 1) := by decide +kernel
theorem dL_law_96 : decode cL_law 96 = .ok (.invokestatic 134, 3) := by decide +kernel
theorem dL_law_99 : decode cL_law 99 = .ok (.ifCond .eq 7, 3) := by decide +kernel
theorem dL_law_102 : decode cL_law 102 = .ok (.iconst 1, 1) := by decide +kernel
theorem dL_law_103 : decode cL_law 103 = .ok (.goto 4, 3) := by decide +kernel
theorem dL_law_106 : decode cL_law 106 = .ok (.iconst 0, 1) := by decide +kernel
theorem dL_law_107 : decode cL_law 107 = .ok (.istore_n 2, 1) := by decide +kernel
theorem dL_law_108 : decode cL_law 108 = .ok (.iload_n 2, 1) := by decide +kernel
theorem dL_law_109 : decode cL_law 109 = .ok (.ifCond .eq 117, 3) := by decide +kernel
theorem dL_law_112 : decode cL_law 112 = .ok (.iload_n 3, 1) := by decide +kernel
theorem dL_law_113 : decode cL_law 113 = .ok (.bipush 6, 2) := by decide +kernel
theorem dL_law_115 : decode cL_law 115 = .ok (.irem, 1) := by decide +kernel
theorem dL_law_116 : decode cL_law 116 = .ok (.iconst 5, 1) := by decide +kernel
theorem dL_law_117 : decode cL_law 117 = .ok (.if_icmp .ne 109, 3) := by decide +kernel
theorem dL_law_120 : decode cL_law 120 = .ok (.aload_n 1, 1) := by decide +kernel
theorem dL_law_121 : decode cL_law 121 = .ok (.invokestatic 37, 3) := by decide +kernel
theorem dL_law_124 : decode cL_law 124 = .ok (.lstore 6, 2) := by decide +kernel
theorem dL_law_126 : decode cL_law 126 = .ok (.aload_n 1, 1) := by decide +kernel
theorem dL_law_127 : decode cL_law 127 = .ok (.iload 5, 2) := by decide +kernel
theorem dL_law_129 : decode cL_law 129 = .ok (.iconst 3, 1) := by decide +kernel
theorem dL_law_130 : decode cL_law 130 = .ok (.invokestatic 106, 3) := by decide +kernel
theorem dL_law_133 : decode cL_law 133 = .ok (.iload 5, 2) := by decide +kernel
theorem dL_law_135 : decode cL_law 135 = .ok (.iconst 3, 1) := by decide +kernel
theorem dL_law_136 : decode cL_law 136 = .ok (.ishr, 1) := by decide +kernel
theorem dL_law_137 : decode cL_law 137 = .ok (.bipush 8, 2) := by decide +kernel
theorem dL_law_139 : decode cL_law 139 = .ok (.invokestatic 106, 3) := by decide +kernel
theorem dL_law_142 : decode cL_law 142 = .ok (.iload 5, 2) := by decide +kernel
theorem dL_law_144 : decode cL_law 144 = .ok (.bipush 6, 2) := by decide +kernel
theorem dL_law_146 : decode cL_law 146 = .ok (.ishr, 1) := by decide +kernel
theorem dL_law_147 : decode cL_law 147 = .ok (.bipush 41, 2) := by decide +kernel
theorem dL_law_149 : decode cL_law 149 = .ok (.invokestatic 106, 3) := by decide +kernel
theorem dL_law_152 : decode cL_law 152 = .ok (.bipush 20, 2) := by decide +kernel
theorem dL_law_154 : decode cL_law 154 = .ok (.isub, 1) := by decide +kernel
theorem dL_law_155 : decode cL_law 155 = .ok (.invokevirtual 63, 3) := by decide +kernel
theorem dL_law_158 : decode cL_law 158 = .ok (.bipush 80, 2) := by decide +kernel
theorem dL_law_160 : decode cL_law 160 = .ok (.if_icmp .lt 64, 3) := by decide +kernel
theorem dL_law_163 : decode cL_law 163 = .ok (.aload_n 1, 1) := by decide +kernel
theorem dL_law_164 : decode cL_law 164 = .ok (.iconst 0, 1) := by decide +kernel
theorem dL_law_165 : decode cL_law 165 = .ok (.iload 5, 2) := by decide +kernel
theorem dL_law_167 : decode cL_law 167 = .ok (.bipush 41, 2) := by decide +kernel
theorem dL_law_169 : decode cL_law 169 = .ok (.invokestatic 106, 3) := by decide +kernel
theorem dL_law_172 : decode cL_law 172 = .ok (.invokevirtual 60, 3) := by decide +kernel
theorem dL_law_175 : decode cL_law 175 = .ok (.ifCond .lt 49, 3) := by decide +kernel
theorem dL_law_178 : decode cL_law 178 = .ok (.aload_n 1, 1) := by decide +kernel
theorem dL_law_179 : decode cL_law 179 = .ok (.iconst 1, 1) := by decide +kernel
theorem dL_law_180 : decode cL_law 180 = .ok (.iconst 4, 1) := by decide +kernel
theorem dL_law_181 : decode cL_law 181 = .ok (.invokevirtual 57, 3) := by decide +kernel
theorem dL_law_184 : decode cL_law 184 = .ok (.bipush 90, 2) := by decide +kernel
theorem dL_law_186 : decode cL_law 186 = .ok (.if_icmp .le 38, 3) := by decide +kernel
theorem dL_law_189 : decode cL_law 189 = .ok (.aload_n 1, 1) := by decide +kernel
theorem dL_law_190 : decode cL_law 190 = .ok (.invokevirtual 131, 3) := by decide +kernel
theorem dL_law_193 : decode cL_law 193 = .ok (.ifCond .lt 31, 3) := by decide +kernel
theorem dL_law_196 : decode cL_law 196 = .ok (.aload_n 1, 1) := by decide +kernel
theorem dL_law_197 : decode cL_law 197 = .ok (.invokevirtual 131, 3) := by decide +kernel
theorem dL_law_200 : decode cL_law 200 = .ok (.ifCond .lt 24, 3) := by decide +kernel
theorem dL_law_203 : decode cL_law 203 = .ok (.aload_n 1, 1) := by decide +kernel
theorem dL_law_204 : decode cL_law 204 = .ok (.invokevirtual 131, 3) := by decide +kernel
theorem dL_law_207 : decode cL_law 207 = .ok (.ifCond .lt 17, 3) := by decide +kernel
theorem dL_law_210 : decode cL_law 210 = .ok (.aload_n 1, 1) := by decide +kernel
theorem dL_law_211 : decode cL_law 211 = .ok (.invokestatic 37, 3) := by decide +kernel
theorem dL_law_214 : decode cL_law 214 = .ok (.lload 6, 2) := by decide +kernel
theorem dL_law_216 : decode cL_law 216 = .ok (.lcmp, 1) := by decide +kernel
theorem dL_law_217 : decode cL_law 217 = .ok (.ifCond .ne 7, 3) := by decide +kernel
theorem dL_law_220 : decode cL_law 220 = .ok (.iconst 1, 1) := by decide +kernel
theorem dL_law_221 : decode cL_law 221 = .ok (.goto 4, 3) := by decide +kernel
theorem dL_law_224 : decode cL_law 224 = .ok (.iconst 0, 1) := by decide +kernel
theorem dL_law_225 : decode cL_law 225 = .ok (.istore_n 2, 1) := by decide +kernel
theorem dL_law_226 : decode cL_law 226 = .ok (.iinc 3 1, 3) := by decide +kernel
theorem dL_law_229 : decode cL_law 229 = .ok (.goto (-190), 3) := by decide +kernel
theorem dL_law_232 : decode cL_law 232 = .ok (.iload_n 2, 1) := by decide +kernel
theorem dL_law_233 : decode cL_law 233 = .ok (.ifCond .eq 21, 3) := by decide +kernel
theorem dL_law_236 : decode cL_law 236 = .ok (.aload_n 1, 1) := by decide +kernel
theorem dL_law_237 : decode cL_law 237 = .ok (.invokestatic 134, 3) := by decide +kernel
theorem dL_law_240 : decode cL_law 240 = .ok (.ifCond .eq 14, 3) := by decide +kernel
theorem dL_law_243 : decode cL_law 243 = .ok (.aload_n 1, 1) := by decide +kernel
theorem dL_law_244 : decode cL_law 244 = .ok (.invokestatic 137, 3) := by decide +kernel
theorem dL_law_247 : decode cL_law 247 = .ok (.ifCond .eq 7, 3) := by decide +kernel
theorem dL_law_250 : decode cL_law 250 = .ok (.iconst 1, 1) := by decide +kernel
theorem dL_law_251 : decode cL_law 251 = .ok (.goto 4, 3) := by decide +kernel
theorem dL_law_254 : decode cL_law 254 = .ok (.iconst 0, 1) := by decide +kernel
theorem dL_law_255 : decode cL_law 255 = .ok (.ireturn, 1) := by decide +kernel
