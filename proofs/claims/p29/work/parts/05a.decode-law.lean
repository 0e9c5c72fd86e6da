theorem dJ6_bitCount_0f7a4_0 : decode cJ6_bitCount_0f7a4 0 = .ok (.iload_n 0, 1) := by decide +kernel
theorem dJ6_bitCount_0f7a4_1 : decode cJ6_bitCount_0f7a4 1 = .ok (.iload_n 0, 1) := by decide +kernel
theorem dJ6_bitCount_0f7a4_2 : decode cJ6_bitCount_0f7a4 2 = .ok (.iconst 1, 1) := by decide +kernel
theorem dJ6_bitCount_0f7a4_3 : decode cJ6_bitCount_0f7a4 3 = .ok (.iushr, 1) := by decide +kernel
theorem dJ6_bitCount_0f7a4_4 : decode cJ6_bitCount_0f7a4 4 = .ok (.ldc_w 265, 3) := by decide +kernel
theorem dJ6_bitCount_0f7a4_7 : decode cJ6_bitCount_0f7a4 7 = .ok (.iand, 1) := by decide +kernel
theorem dJ6_bitCount_0f7a4_8 : decode cJ6_bitCount_0f7a4 8 = .ok (.isub, 1) := by decide +kernel
theorem dJ6_bitCount_0f7a4_9 : decode cJ6_bitCount_0f7a4 9 = .ok (.istore_n 0, 1) := by decide +kernel
theorem dJ6_bitCount_0f7a4_10 : decode cJ6_bitCount_0f7a4 10 = .ok (.iload_n 0, 1) := by decide +kernel
theorem dJ6_bitCount_0f7a4_11 : decode cJ6_bitCount_0f7a4 11 = .ok (.ldc_w 266, 3) := by decide +kernel
theorem dJ6_bitCount_0f7a4_14 : decode cJ6_bitCount_0f7a4 14 = .ok (.iand, 1) := by decide +kernel
theorem dJ6_bitCount_0f7a4_15 : decode cJ6_bitCount_0f7a4 15 = .ok (.iload_n 0, 1) := by decide +kernel
theorem dJ6_bitCount_0f7a4_16 : decode cJ6_bitCount_0f7a4 16 = .ok (.iconst 2, 1) := by decide +kernel
theorem dJ6_bitCount_0f7a4_17 : decode cJ6_bitCount_0f7a4 17 = .ok (.iushr, 1) := by decide +kernel
theorem dJ6_bitCount_0f7a4_18 : decode cJ6_bitCount_0f7a4 18 = .ok (.ldc_w 266, 3) := by decide +kernel
theorem dJ6_bitCount_0f7a4_21 : decode cJ6_bitCount_0f7a4 21 = .ok (.iand, 1) := by decide +kernel
theorem dJ6_bitCount_0f7a4_22 : decode cJ6_bitCount_0f7a4 22 = .ok (.iadd, 1) := by decide +kernel
theorem dJ6_bitCount_0f7a4_23 : decode cJ6_bitCount_0f7a4 23 = .ok (.istore_n 0, 1) := by decide +kernel
theorem dJ6_bitCount_0f7a4_24 : decode cJ6_bitCount_0f7a4 24 = .ok (.iload_n 0, 1) := by decide +kernel
theorem dJ6_bitCount_0f7a4_25 : decode cJ6_bitCount_0f7a4 25 = .ok (.iload_n 0, 1) := by decide +kernel
theorem dJ6_bitCount_0f7a4_26 : decode cJ6_bitCount_0f7a4 26 = .ok (.iconst 4, 1) := by decide +kernel
theorem dJ6_bitCount_0f7a4_27 : decode cJ6_bitCount_0f7a4 27 = .ok (.iushr, 1) := by decide +kernel
theorem dJ6_bitCount_0f7a4_28 : decode cJ6_bitCount_0f7a4 28 = .ok (.iadd, 1) := by decide +kernel
theorem dJ6_bitCount_0f7a4_29 : decode cJ6_bitCount_0f7a4 29 = .ok (.ldc_w 267, 3) := by decide +kernel
theorem dJ6_bitCount_0f7a4_32 : decode cJ6_bitCount_0f7a4 32 = .ok (.iand, 1) := by decide +kernel
theorem dJ6_bitCount_0f7a4_33 : decode cJ6_bitCount_0f7a4 33 = .ok (.istore_n 0, 1) := by decide +kernel
theorem dJ6_bitCount_0f7a4_34 : decode cJ6_bitCount_0f7a4 34 = .ok (.iload_n 0, 1) := by decide +kernel
theorem dJ6_bitCount_0f7a4_35 : decode cJ6_bitCount_0f7a4 35 = .ok (.iload_n 0, 1) := by decide +kernel
theorem dJ6_bitCount_0f7a4_36 : decode cJ6_bitCount_0f7a4 36 = .ok (.bipush 8, 2) := by decide +kernel
theorem dJ6_bitCount_0f7a4_38 : decode cJ6_bitCount_0f7a4 38 = .ok (.iushr, 1) := by decide +kernel
theorem dJ6_bitCount_0f7a4_39 : decode cJ6_bitCount_0f7a4 39 = .ok (.iadd, 1) := by decide +kernel
theorem dJ6_bitCount_0f7a4_40 : decode cJ6_bitCount_0f7a4 40 = .ok (.istore_n 0, 1) := by decide +kernel
theorem dJ6_bitCount_0f7a4_41 : decode cJ6_bitCount_0f7a4 41 = .ok (.iload_n 0, 1) := by decide +kernel
theorem dJ6_bitCount_0f7a4_42 : decode cJ6_bitCount_0f7a4 42 = .ok (.iload_n 0, 1) := by decide +kernel
theorem dJ6_bitCount_0f7a4_43 : decode cJ6_bitCount_0f7a4 43 = .ok (.bipush 16, 2) := by decide +kernel
theorem dJ6_bitCount_0f7a4_45 : decode cJ6_bitCount_0f7a4 45 = .ok (.iushr, 1) := by decide +kernel
theorem dJ6_bitCount_0f7a4_46 : decode cJ6_bitCount_0f7a4 46 = .ok (.iadd, 1) := by decide +kernel
theorem dJ6_bitCount_0f7a4_47 : decode cJ6_bitCount_0f7a4 47 = .ok (.istore_n 0, 1) := by decide +kernel
theorem dJ6_bitCount_0f7a4_48 : decode cJ6_bitCount_0f7a4 48 = .ok (.iload_n 0, 1) := by decide +kernel
theorem dJ6_bitCount_0f7a4_49 : decode cJ6_bitCount_0f7a4 49 = .ok (.bipush 63, 2) := by decide +kernel
theorem dJ6_bitCount_0f7a4_51 : decode cJ6_bitCount_0f7a4 51 = .ok (.iand, 1) := by decide +kernel
theorem dJ6_bitCount_0f7a4_52 : decode cJ6_bitCount_0f7a4 52 = .ok (.ireturn, 1) := by decide +kernel
theorem dJ9_abs_0f7a4_0 : decode cJ9_abs_0f7a4 0 = .ok (.iload_n 0, 1) := by decide +kernel
theorem dJ9_abs_0f7a4_1 : decode cJ9_abs_0f7a4 1 = .ok (.ifCond .ge 8, 3) := by decide +kernel
theorem dJ9_abs_0f7a4_4 : decode cJ9_abs_0f7a4 4 = .ok (.iload_n 0, 1) := by decide +kernel
theorem dJ9_abs_0f7a4_5 : decode cJ9_abs_0f7a4 5 = .ok (.ineg, 1) := by decide +kernel
theorem dJ9_abs_0f7a4_6 : decode cJ9_abs_0f7a4 6 = .ok (.goto 4, 3) := by decide +kernel
theorem dJ9_abs_0f7a4_9 : decode cJ9_abs_0f7a4 9 = .ok (.iload_n 0, 1) := by decide +kernel
theorem dJ9_abs_0f7a4_10 : decode cJ9_abs_0f7a4 10 = .ok (.ireturn, 1) := by decide +kernel
theorem dJ9_max_7cf53_0 : decode cJ9_max_7cf53 0 = .ok (.iload_n 0, 1) := by decide +kernel
theorem dJ9_max_7cf53_1 : decode cJ9_max_7cf53 1 = .ok (.iload_n 1, 1) := by decide +kernel
theorem dJ9_max_7cf53_2 : decode cJ9_max_7cf53 2 = .ok (.if_icmp .lt 7, 3) := by decide +kernel
theorem dJ9_max_7cf53_5 : decode cJ9_max_7cf53 5 = .ok (.iload_n 0, 1) := by decide +kernel
theorem dJ9_max_7cf53_6 : decode cJ9_max_7cf53 6 = .ok (.goto 4, 3) := by decide +kernel
theorem dJ9_max_7cf53_9 : decode cJ9_max_7cf53 9 = .ok (.iload_n 1, 1) := by decide +kernel
theorem dJ9_max_7cf53_10 : decode cJ9_max_7cf53 10 = .ok (.ireturn, 1) := by decide +kernel
theorem dL_cell_0 : decode cL_cell 0 = .ok (.iload_n 1, 1) := by decide +kernel
theorem dL_cell_1 : decode cL_cell 1 = .ok (.aload_n 0, 1) := by decide +kernel
theorem dL_cell_2 : decode cL_cell 2 = .ok (.arraylength, 1) := by decide +kernel
theorem dL_cell_3 : decode cL_cell 3 = .ok (.if_icmp .ge 9, 3) := by decide +kernel
theorem dL_cell_6 : decode cL_cell 6 = .ok (.aload_n 0, 1) := by decide +kernel
theorem dL_cell_7 : decode cL_cell 7 = .ok (.iload_n 1, 1) := by decide +kernel
theorem dL_cell_8 : decode cL_cell 8 = .ok (.iaload, 1) := by decide +kernel
theorem dL_cell_9 : decode cL_cell 9 = .ok (.goto 15, 3) := by decide +kernel
theorem dL_cell_12 : decode cL_cell 12 = .ok (.sipush 7919, 3) := by decide +kernel
theorem dL_cell_15 : decode cL_cell 15 = .ok (.iload_n 1, 1) := by decide +kernel
theorem dL_cell_16 : decode cL_cell 16 = .ok (.iconst 3, 1) := by decide +kernel
theorem dL_cell_17 : decode cL_cell 17 = .ok (.iadd, 1) := by decide +kernel
theorem dL_cell_18 : decode cL_cell 18 = .ok (.imul, 1) := by decide +kernel
theorem dL_cell_19 : decode cL_cell 19 = .ok (.iload_n 1, 1) := by decide +kernel
theorem dL_cell_20 : decode cL_cell 20 = .ok (.bipush 11, 2) := by decide +kernel
theorem dL_cell_22 : decode cL_cell 22 = .ok (.iadd, 1) := by decide +kernel
theorem dL_cell_23 : decode cL_cell 23 = .ok (.imul, 1) := by decide +kernel
theorem dL_cell_24 : decode cL_cell 24 = .ok (.ireturn, 1) := by decide +kernel
theorem dL_low_0 : decode cL_low 0 = .ok (.iload_n 0, 1) := by decide +kernel
theorem dL_low_1 : decode cL_low 1 = .ok (.ldc 7, 2) := by decide +kernel
theorem dL_low_3 : decode cL_low 3 = .ok (.iand, 1) := by decide +kernel
theorem dL_low_4 : decode cL_low 4 = .ok (.iload_n 1, 1) := by decide +kernel
theorem dL_low_5 : decode cL_low 5 = .ok (.irem, 1) := by decide +kernel
theorem dL_low_6 : decode cL_low 6 = .ok (.ireturn, 1) := by decide +kernel
theorem dL_size_0 : decode cL_size 0 = .ok (.iload_n 0, 1) := by decide +kernel
theorem dL_size_1 : decode cL_size 1 = .ok (.ifCond .ge 8, 3) := by decide +kernel
theorem dL_size_4 : decode cL_size 4 = .ok (.iload_n 0, 1) := by decide +kernel
theorem dL_size_5 : decode cL_size 5 = .ok (.ineg, 1) := by decide +kernel
theorem dL_size_6 : decode cL_size 6 = .ok (.goto 4, 3) := by decide +kernel
theorem dL_size_9 : decode cL_size 9 = .ok (.iload_n 0, 1) := by decide +kernel
theorem dL_size_10 : decode cL_size 10 = .ok (.ireturn, 1) := by decide +kernel
theorem dL_has_0 : decode cL_has 0 = .ok (.iload_n 0, 1) := by decide +kernel
theorem dL_has_1 : decode cL_has 1 = .ok (.iload_n 1, 1) := by decide +kernel
theorem dL_has_2 : decode cL_has 2 = .ok (.ishr, 1) := by decide +kernel
theorem dL_has_3 : decode cL_has 3 = .ok (.iconst 1, 1) := by decide +kernel
theorem dL_has_4 : decode cL_has 4 = .ok (.iand, 1) := by decide +kernel
theorem dL_has_5 : decode cL_has 5 = .ok (.iconst 1, 1) := by decide +kernel
theorem dL_has_6 : decode cL_has 6 = .ok (.if_icmp .ne 7, 3) := by decide +kernel
theorem dL_has_9 : decode cL_has 9 = .ok (.iconst 1, 1) := by decide +kernel
theorem dL_has_10 : decode cL_has 10 = .ok (.goto 4, 3) := by decide +kernel
theorem dL_has_13 : decode cL_has 13 = .ok (.iconst 0, 1) := by decide +kernel
theorem dL_has_14 : decode cL_has 14 = .ok (.ireturn, 1) := by decide +kernel
theorem dL_isMill_0 : decode cL_isMill 0 = .ok (.aload_n 0, 1) := by decide +kernel
theorem dL_isMill_1 : decode cL_isMill 1 = .ok (.iload_n 2, 1) := by decide +kernel
theorem dL_isMill_2 : decode cL_isMill 2 = .ok (.iconst 2, 1) := by decide +kernel
theorem dL_isMill_3 : decode cL_isMill 3 = .ok (.invokevirtual 8, 3) := by decide +kernel
theorem dL_isMill_6 : decode cL_isMill 6 = .ok (.istore 4, 2) := by decide +kernel
theorem dL_isMill_8 : decode cL_isMill 8 = .ok (.aload_n 0, 1) := by decide +kernel
theorem dL_isMill_9 : decode cL_isMill 9 = .ok (.iload_n 2, 1) := by decide +kernel
theorem dL_isMill_10 : decode cL_isMill 10 = .ok (.iconst 1, 1) := by decide +kernel
theorem dL_isMill_11 : decode cL_isMill 11 = .ok (.invokevirtual 8, 3) := by decide +kernel
theorem dL_isMill_14 : decode cL_isMill 14 = .ok (.istore 5, 2) := by decide +kernel
theorem dL_isMill_16 : decode cL_isMill 16 = .ok (.aload_n 0, 1) := by decide +kernel
theorem dL_isMill_17 : decode cL_isMill 17 = .ok (.iload_n 2, 1) := by decide +kernel
theorem dL_isMill_18 : decode cL_isMill 18 = .ok (.iconst 0, 1) := by decide +kernel
theorem dL_isMill_19 : decode cL_isMill 19 = .ok (.invokevirtual 8, 3) := by decide +kernel
theorem dL_isMill_22 : decode cL_isMill 22 = .ok (.istore 6, 2) := by decide +kernel
theorem dL_isMill_24 : decode cL_isMill 24 = .ok (.iconst 0, 1) := by decide +kernel
theorem dL_isMill_25 : decode cL_isMill 25 = .ok (.istore 7, 2) := by decide +kernel
theorem dL_isMill_27 : decode cL_isMill 27 = .ok (.iconst 0, 1) := by decide +kernel
theorem dL_isMill_28 : decode cL_isMill 28 = .ok (.istore 8, 2) := by decide +kernel
theorem dL_isMill_30 : decode cL_isMill 30 = .ok (.iload_n 3, 1) := by decide +kernel
theorem dL_isMill_31 : decode cL_isMill 31 = .ok (.bipush 12, 2) := by decide +kernel
theorem dL_isMill_33 : decode cL_isMill 33 = .ok (.irem, 1) := by decide +kernel
theorem dL_isMill_34 : decode cL_isMill 34 = .ok (.iload 5, 2) := by decide +kernel
theorem dL_isMill_36 : decode cL_isMill 36 = .ok (.bipush 12, 2) := by decide +kernel
theorem dL_isMill_38 : decode cL_isMill 38 = .ok (.irem, 1) := by decide +kernel
theorem dL_isMill_39 : decode cL_isMill 39 = .ok (.isub, 1) := by decide +kernel
theorem dL_isMill_40 : decode cL_isMill 40 = .ok (.istore 9, 2) := by decide +kernel
theorem dL_isMill_42 : decode cL_isMill 42 = .ok (.iload_n 3, 1) := by decide +kernel
theorem dL_isMill_43 : decode cL_isMill 43 = .ok (.bipush 12, 2) := by decide +kernel
theorem dL_isMill_45 : decode cL_isMill 45 = .ok (.idiv, 1) := by decide +kernel
theorem dL_isMill_46 : decode cL_isMill 46 = .ok (.iload 5, 2) := by decide +kernel
theorem dL_isMill_48 : decode cL_isMill 48 = .ok (.bipush 12, 2) := by decide +kernel
theorem dL_isMill_50 : decode cL_isMill 50 = .ok (.idiv, 1) := by decide +kernel
theorem dL_isMill_51 : decode cL_isMill 51 = .ok (.isub, 1) := by decide +kernel
theorem dL_isMill_52 : decode cL_isMill 52 = .ok (.istore 10, 2) := by decide +kernel
theorem dL_isMill_54 : decode cL_isMill 54 = .ok (.iload 9, 2) := by decide +kernel
theorem dL_isMill_56 : decode cL_isMill 56 = .ok (.invokestatic 14, 3) := by decide +kernel
theorem dL_isMill_59 : decode cL_isMill 59 = .ok (.iload 10, 2) := by decide +kernel
theorem dL_isMill_61 : decode cL_isMill 61 = .ok (.invokestatic 14, 3) := by decide +kernel
theorem dL_isMill_64 : decode cL_isMill 64 = .ok (.if_icmp .le 11, 3) := by decide +kernel
theorem dL_isMill_67 : decode cL_isMill 67 = .ok (.iload 9, 2) := by decide +kernel
theorem dL_isMill_69 : decode cL_isMill 69 = .ok (.invokestatic 14, 3) := by decide +kernel
theorem dL_isMill_72 : decode cL_isMill 72 = .ok (.goto 8, 3) := by decide +kernel
theorem dL_isMill_75 : decode cL_isMill 75 = .ok (.iload 10, 2) := by decide +kernel
theorem dL_isMill_77 : decode cL_isMill 77 = .ok (.invokestatic 14, 3) := by decide +kernel
theorem dL_isMill_80 : decode cL_isMill 80 = .ok (.istore 11, 2) := by decide +kernel
theorem dL_isMill_82 : decode cL_isMill 82 = .ok (.iconst 0, 1) := by decide +kernel
theorem dL_isMill_83 : decode cL_isMill 83 = .ok (.istore 12, 2) := by decide +kernel
theorem dL_isMill_85 : decode cL_isMill 85 = .ok (.iload 12, 2) := by decide +kernel
theorem dL_isMill_87 : decode cL_isMill 87 = .ok (.bipush 24, 2) := by decide +kernel
theorem dL_isMill_89 : decode cL_isMill 89 = .ok (.if_icmp .ge 275, 3) := by decide +kernel
theorem dL_isMill_92 : decode cL_isMill 92 = .ok (.iload 4, 2) := by decide +kernel
theorem dL_isMill_94 : decode cL_isMill 94 = .ok (.iload 12, 2) := by decide +kernel
theorem dL_isMill_96 : decode cL_isMill 96 = .ok (.invokestatic 20, 3) := by decide +kernel
theorem dL_isMill_99 : decode cL_isMill 99 = .ok (.ifCond .ne 15, 3) := by decide +kernel
theorem dL_isMill_102 : decode cL_isMill 102 = .ok (.aload_n 1, 1) := by decide +kernel
theorem dL_isMill_103 : decode cL_isMill 103 = .ok (.iload 12, 2) := by decide +kernel
theorem dL_isMill_105 : decode cL_isMill 105 = .ok (.iaload, 1) := by decide +kernel
theorem dL_isMill_106 : decode cL_isMill 106 = .ok (.iconst 1, 1) := by decide +kernel
theorem dL_isMill_107 : decode cL_isMill 107 = .ok (.if_icmp .le 7, 3) := by decide +kernel
theorem dL_isMill_110 : decode cL_isMill 110 = .ok (.iconst 1, 1) := by decide +kernel
theorem dL_isMill_111 : decode cL_isMill 111 = .ok (.goto 4, 3) := by decide +kernel
theorem dL_isMill_114 : decode cL_isMill 114 = .ok (.iconst 0, 1) := by decide +kernel
theorem dL_isMill_115 : decode cL_isMill 115 = .ok (.istore 13, 2) := by decide +kernel
theorem dL_isMill_117 : decode cL_isMill 117 = .ok (.iload 13, 2) := by decide +kernel
theorem dL_isMill_119 : decode cL_isMill 119 = .ok (.ifCond .eq 26, 3) := by decide +kernel
theorem dL_isMill_122 : decode cL_isMill 122 = .ok (.iconst 2, 1) := by decide +kernel
theorem dL_isMill_123 : decode cL_isMill 123 = .ok (.aload_n 1, 1) := by decide +kernel
theorem dL_isMill_124 : decode cL_isMill 124 = .ok (.iload 12, 2) := by decide +kernel
theorem dL_isMill_126 : decode cL_isMill 126 = .ok (.iaload, 1) := by decide +kernel
theorem dL_isMill_127 : decode cL_isMill 127 = .ok (.imul, 1) := by decide +kernel
theorem dL_isMill_128 : decode cL_isMill 128 = .ok (.iload 11, 2) := by decide +kernel
theorem dL_isMill_130 : decode cL_isMill 130 = .ok (.if_icmp .le 15, 3) := by decide +kernel
theorem dL_isMill_133 : decode cL_isMill 133 = .ok (.iconst 2, 1) := by decide +kernel
theorem dL_isMill_134 : decode cL_isMill 134 = .ok (.aload_n 1, 1) := by decide +kernel
theorem dL_isMill_135 : decode cL_isMill 135 = .ok (.iload 12, 2) := by decide +kernel
theorem dL_isMill_137 : decode cL_isMill 137 = .ok (.iaload, 1) := by decide +kernel
theorem dL_isMill_138 : decode cL_isMill 138 = .ok (.imul, 1) := by decide +kernel
theorem dL_isMill_139 : decode cL_isMill 139 = .ok (.iload 11, 2) := by decide +kernel
theorem dL_isMill_141 : decode cL_isMill 141 = .ok (.isub, 1) := by decide +kernel
theorem dL_isMill_142 : decode cL_isMill 142 = .ok (.goto 4, 3) := by decide +kernel
theorem dL_isMill_145 : decode cL_isMill 145 = .ok (.iconst 0, 1) := by decide +kernel
theorem dL_isMill_146 : decode cL_isMill 146 = .ok (.istore 14, 2) := by decide +kernel
theorem dL_isMill_148 : decode cL_isMill 148 = .ok (.iload 12, 2) := by decide +kernel
theorem dL_isMill_150 : decode cL_isMill 150 = .ok (.bipush 12, 2) := by decide +kernel
theorem dL_isMill_152 : decode cL_isMill 152 = .ok (.isub, 1) := by decide +kernel
theorem dL_isMill_153 : decode cL_isMill 153 = .ok (.invokestatic 14, 3) := by decide +kernel
theorem dL_isMill_156 : decode cL_isMill 156 = .ok (.istore 15, 2) := by decide +kernel
theorem dL_isMill_158 : decode cL_isMill 158 = .ok (.iload 12, 2) := by decide +kernel
theorem dL_isMill_160 : decode cL_isMill 160 = .ok (.bipush 12, 2) := by decide +kernel
theorem dL_isMill_162 : decode cL_isMill 162 = .ok (.if_icmp .ge 7, 3) := by decide +kernel
theorem dL_isMill_165 : decode cL_isMill 165 = .ok (.iconst (-1), 1) := by decide +kernel
theorem dL_isMill_166 : decode cL_isMill 166 = .ok (.goto 15, 3) := by decide +kernel
theorem dL_isMill_169 : decode cL_isMill 169 = .ok (.iload 12, 2) := by decide +kernel
theorem dL_isMill_171 : decode cL_isMill 171 = .ok (.bipush 12, 2) := by decide +kernel
theorem dL_isMill_173 : decode cL_isMill 173 = .ok (.if_icmp .le 7, 3) := by decide +kernel
theorem dL_isMill_176 : decode cL_isMill 176 = .ok (.iconst 1, 1) := by decide +kernel
theorem dL_isMill_177 : decode cL_isMill 177 = .ok (.goto 4, 3) := by decide +kernel
theorem dL_isMill_180 : decode cL_isMill 180 = .ok (.iconst 0, 1) := by decide +kernel
theorem dL_isMill_181 : decode cL_isMill 181 = .ok (.istore 16, 2) := by decide +kernel
theorem dL_isMill_183 : decode cL_isMill 183 = .ok (.iload 12, 2) := by decide +kernel
theorem dL_isMill_185 : decode cL_isMill 185 = .ok (.bipush 9, 2) := by decide +kernel
theorem dL_isMill_187 : decode cL_isMill 187 = .ok (.if_icmp .le 14, 3) := by decide +kernel
theorem dL_isMill_190 : decode cL_isMill 190 = .ok (.iload 12, 2) := by decide +kernel
theorem dL_isMill_192 : decode cL_isMill 192 = .ok (.bipush 15, 2) := by decide +kernel
theorem dL_isMill_194 : decode cL_isMill 194 = .ok (.if_icmp .ge 7, 3) := by decide +kernel
theorem dL_isMill_197 : decode cL_isMill 197 = .ok (.iconst (-1), 1) := by decide +kernel
theorem dL_isMill_198 : decode cL_isMill 198 = .ok (.goto 4, 3) := by decide +kernel
theorem dL_isMill_201 : decode cL_isMill 201 = .ok (.iconst 0, 1) := by decide +kernel
theorem dL_isMill_202 : decode cL_isMill 202 = .ok (.istore 17, 2) := by decide +kernel
theorem dL_isMill_204 : decode cL_isMill 204 = .ok (.iload 12, 2) := by decide +kernel
theorem dL_isMill_206 : decode cL_isMill 206 = .ok (.iconst 5, 1) := by decide +kernel
theorem dL_isMill_207 : decode cL_isMill 207 = .ok (.if_icmp .le 53, 3) := by decide +kernel
theorem dL_isMill_210 : decode cL_isMill 210 = .ok (.iload 12, 2) := by decide +kernel
theorem dL_isMill_212 : decode cL_isMill 212 = .ok (.bipush 19, 2) := by decide +kernel
theorem dL_isMill_214 : decode cL_isMill 214 = .ok (.if_icmp .ge 46, 3) := by decide +kernel
theorem dL_isMill_217 : decode cL_isMill 217 = .ok (.iload 11, 2) := by decide +kernel
theorem dL_isMill_219 : decode cL_isMill 219 = .ok (.ifCond .le 41, 3) := by decide +kernel
theorem dL_isMill_222 : decode cL_isMill 222 = .ok (.iload 11, 2) := by decide +kernel
theorem dL_isMill_224 : decode cL_isMill 224 = .ok (.iload 6, 2) := by decide +kernel
theorem dL_isMill_226 : decode cL_isMill 226 = .ok (.iload 15, 2) := by decide +kernel
theorem dL_isMill_228 : decode cL_isMill 228 = .ok (.imul, 1) := by decide +kernel
theorem dL_isMill_229 : decode cL_isMill 229 = .ok (.iconst 1, 1) := by decide +kernel
theorem dL_isMill_230 : decode cL_isMill 230 = .ok (.iadd, 1) := by decide +kernel
theorem dL_isMill_231 : decode cL_isMill 231 = .ok (.iconst 2, 1) := by decide +kernel
theorem dL_isMill_232 : decode cL_isMill 232 = .ok (.idiv, 1) := by decide +kernel
theorem dL_isMill_233 : decode cL_isMill 233 = .ok (.if_icmp .gt 27, 3) := by decide +kernel
theorem dL_isMill_236 : decode cL_isMill 236 = .ok (.iload 9, 2) := by decide +kernel
theorem dL_isMill_238 : decode cL_isMill 238 = .ok (.iload 16, 2) := by decide +kernel
theorem dL_isMill_240 : decode cL_isMill 240 = .ok (.iload 11, 2) := by decide +kernel
theorem dL_isMill_242 : decode cL_isMill 242 = .ok (.imul, 1) := by decide +kernel
theorem dL_isMill_243 : decode cL_isMill 243 = .ok (.if_icmp .ne 17, 3) := by decide +kernel
theorem dL_isMill_246 : decode cL_isMill 246 = .ok (.iload 10, 2) := by decide +kernel
theorem dL_isMill_248 : decode cL_isMill 248 = .ok (.iload 17, 2) := by decide +kernel
theorem dL_isMill_250 : decode cL_isMill 250 = .ok (.iload 11, 2) := by decide +kernel
theorem dL_isMill_252 : decode cL_isMill 252 = .ok (.imul, 1) := by decide +kernel
theorem dL_isMill_253 : decode cL_isMill 253 = .ok (.if_icmp .ne 7, 3) := by decide +kernel
theorem dL_isMill_256 : decode cL_isMill 256 = .ok (.iconst 1, 1) := by decide +kernel
theorem dL_isMill_257 : decode cL_isMill 257 = .ok (.goto 4, 3) := by decide +kernel
theorem dL_isMill_260 : decode cL_isMill 260 = .ok (.iconst 0, 1) := by decide +kernel
theorem dL_isMill_261 : decode cL_isMill 261 = .ok (.istore 18, 2) := by decide +kernel
theorem dL_isMill_263 : decode cL_isMill 263 = .ok (.aload_n 0, 1) := by decide +kernel
theorem dL_isMill_264 : decode cL_isMill 264 = .ok (.iload_n 2, 1) := by decide +kernel
theorem dL_isMill_265 : decode cL_isMill 265 = .ok (.iload_n 3, 1) := by decide +kernel
theorem dL_isMill_266 : decode cL_isMill 266 = .ok (.iload 12, 2) := by decide +kernel
theorem dL_isMill_268 : decode cL_isMill 268 = .ok (.invokevirtual 24, 3) := by decide +kernel
theorem dL_isMill_271 : decode cL_isMill 271 = .ok (.iload 14, 2) := by decide +kernel
theorem dL_isMill_273 : decode cL_isMill 273 = .ok (.if_icmp .ne 47, 3) := by decide +kernel
theorem dL_isMill_276 : decode cL_isMill 276 = .ok (.aload_n 0, 1) := by decide +kernel
theorem dL_isMill_277 : decode cL_isMill 277 = .ok (.iload_n 2, 1) := by decide +kernel
theorem dL_isMill_278 : decode cL_isMill 278 = .ok (.iload_n 3, 1) := by decide +kernel
theorem dL_isMill_279 : decode cL_isMill 279 = .ok (.iload 12, 2) := by decide +kernel
theorem dL_isMill_281 : decode cL_isMill 281 = .ok (.iconst 0, 1) := by decide +kernel
theorem dL_isMill_282 : decode cL_isMill 282 = .ok (.invokevirtual 28, 3) := by decide +kernel
theorem dL_isMill_285 : decode cL_isMill 285 = .ok (.iload 18, 2) := by decide +kernel
theorem dL_isMill_287 : decode cL_isMill 287 = .ok (.ifCond .eq 7, 3) := by decide +kernel
theorem dL_isMill_290 : decode cL_isMill 290 = .ok (.iconst 1, 1) := by decide +kernel
theorem dL_isMill_291 : decode cL_isMill 291 = .ok (.goto 4, 3) := by decide +kernel
theorem dL_isMill_294 : decode cL_isMill 294 = .ok (.iconst 0, 1) := by decide +kernel
theorem dL_isMill_295 : decode cL_isMill 295 = .ok (.if_icmp .ne 25, 3) := by decide +kernel
theorem dL_isMill_298 : decode cL_isMill 298 = .ok (.aload_n 0, 1) := by decide +kernel
theorem dL_isMill_299 : decode cL_isMill 299 = .ok (.iload_n 2, 1) := by decide +kernel
theorem dL_isMill_300 : decode cL_isMill 300 = .ok (.iload_n 3, 1) := by decide +kernel
theorem dL_isMill_301 : decode cL_isMill 301 = .ok (.iload 12, 2) := by decide +kernel
theorem dL_isMill_303 : decode cL_isMill 303 = .ok (.iconst 1, 1) := by decide +kernel
theorem dL_isMill_304 : decode cL_isMill 304 = .ok (.invokevirtual 28, 3) := by decide +kernel
theorem dL_isMill_307 : decode cL_isMill 307 = .ok (.iload 18, 2) := by decide +kernel
theorem dL_isMill_309 : decode cL_isMill 309 = .ok (.ifCond .eq 7, 3) := by decide +kernel
theorem dL_isMill_312 : decode cL_isMill 312 = .ok (.iconst 1, 1) := by decide +kernel
theorem dL_isMill_313 : decode cL_isMill 313 = .ok (.goto 4, 3) := by decide +kernel
theorem dL_isMill_316 : decode cL_isMill 316 = .ok (.iconst 0, 1) := by decide +kernel
theorem dL_isMill_317 : decode cL_isMill 317 = .ok (.if_icmp .eq 5, 3) := by decide +kernel
theorem dL_isMill_320 : decode cL_isMill 320 = .ok (.iconst 0, 1) := by decide +kernel
theorem dL_isMill_321 : decode cL_isMill 321 = .ok (.ireturn, 1) := by decide +kernel
theorem dL_isMill_322 : decode cL_isMill 322 = .ok (.iload 7, 2) := by decide +kernel
theorem dL_isMill_324 : decode cL_isMill 324 = .ok (.iload 13, 2) := by decide +kernel
theorem dL_isMill_326 : decode cL_isMill 326 = .ok (.ifCond .eq 10, 3) := by decide +kernel
theorem dL_isMill_329 : decode cL_isMill 329 = .ok (.iconst 1, 1) := by decide +kernel
theorem dL_isMill_330 : decode cL_isMill 330 = .ok (.iload 12, 2) := by decide +kernel
theorem dL_isMill_332 : decode cL_isMill 332 = .ok (.ishl, 1) := by decide +kernel
theorem dL_isMill_333 : decode cL_isMill 333 = .ok (.goto 4, 3) := by decide +kernel
theorem dL_isMill_336 : decode cL_isMill 336 = .ok (.iconst 0, 1) := by decide +kernel
theorem dL_isMill_337 : decode cL_isMill 337 = .ok (.ior, 1) := by decide +kernel
theorem dL_isMill_338 : decode cL_isMill 338 = .ok (.istore 7, 2) := by decide +kernel
theorem dL_isMill_340 : decode cL_isMill 340 = .ok (.iload 8, 2) := by decide +kernel
theorem dL_isMill_342 : decode cL_isMill 342 = .ok (.iload 13, 2) := by decide +kernel
theorem dL_isMill_344 : decode cL_isMill 344 = .ok (.ifCond .eq 10, 3) := by decide +kernel
theorem dL_isMill_347 : decode cL_isMill 347 = .ok (.aload_n 1, 1) := by decide +kernel
theorem dL_isMill_348 : decode cL_isMill 348 = .ok (.iload 12, 2) := by decide +kernel
theorem dL_isMill_350 : decode cL_isMill 350 = .ok (.iaload, 1) := by decide +kernel
theorem dL_isMill_351 : decode cL_isMill 351 = .ok (.goto 4, 3) := by decide +kernel
theorem dL_isMill_354 : decode cL_isMill 354 = .ok (.iconst 0, 1) := by decide +kernel
theorem dL_isMill_355 : decode cL_isMill 355 = .ok (.iadd, 1) := by decide +kernel
theorem dL_isMill_356 : decode cL_isMill 356 = .ok (.istore 8, 2) := by decide +kernel
theorem dL_isMill_358 : decode cL_isMill 358 = .ok (.iinc 12 1, 3) := by decide +kernel
theorem dL_isMill_361 : decode cL_isMill 361 = .ok (.goto (-276), 3) := by decide +kernel
theorem dL_isMill_364 : decode cL_isMill 364 = .ok (.aload_n 0, 1) := by decide +kernel
theorem dL_isMill_365 : decode cL_isMill 365 = .ok (.iload_n 2, 1) := by decide +kernel
theorem dL_isMill_366 : decode cL_isMill 366 = .ok (.iconst 3, 1) := by decide +kernel
theorem dL_isMill_367 : decode cL_isMill 367 = .ok (.invokevirtual 8, 3) := by decide +kernel
theorem dL_isMill_370 : decode cL_isMill 370 = .ok (.iload 7, 2) := by decide +kernel
theorem dL_isMill_372 : decode cL_isMill 372 = .ok (.if_icmp .ne 53, 3) := by decide +kernel
theorem dL_isMill_375 : decode cL_isMill 375 = .ok (.aload_n 0, 1) := by decide +kernel
theorem dL_isMill_376 : decode cL_isMill 376 = .ok (.iload_n 2, 1) := by decide +kernel
theorem dL_isMill_377 : decode cL_isMill 377 = .ok (.iconst 4, 1) := by decide +kernel
theorem dL_isMill_378 : decode cL_isMill 378 = .ok (.invokevirtual 8, 3) := by decide +kernel
theorem dL_isMill_381 : decode cL_isMill 381 = .ok (.iload 8, 2) := by decide +kernel
theorem dL_isMill_383 : decode cL_isMill 383 = .ok (.if_icmp .ne 42, 3) := by decide +kernel
theorem dL_isMill_386 : decode cL_isMill 386 = .ok (.aload_n 0, 1) := by decide +kernel
theorem dL_isMill_387 : decode cL_isMill 387 = .ok (.iload 5, 2) := by decide +kernel
theorem dL_isMill_389 : decode cL_isMill 389 = .ok (.iconst 0, 1) := by decide +kernel
theorem dL_isMill_390 : decode cL_isMill 390 = .ok (.invokevirtual 32, 3) := by decide +kernel
theorem dL_isMill_393 : decode cL_isMill 393 = .ok (.iload_n 2, 1) := by decide +kernel
theorem dL_isMill_394 : decode cL_isMill 394 = .ok (.if_icmp .ne 31, 3) := by decide +kernel
theorem dL_isMill_397 : decode cL_isMill 397 = .ok (.aload_n 0, 1) := by decide +kernel
theorem dL_isMill_398 : decode cL_isMill 398 = .ok (.iload 5, 2) := by decide +kernel
theorem dL_isMill_400 : decode cL_isMill 400 = .ok (.iconst 1, 1) := by decide +kernel
theorem dL_isMill_401 : decode cL_isMill 401 = .ok (.invokevirtual 32, 3) := by decide +kernel
theorem dL_isMill_404 : decode cL_isMill 404 = .ok (.bipush (-5), 2) := by decide +kernel
theorem dL_isMill_406 : decode cL_isMill 406 = .ok (.if_icmp .ne 19, 3) := by decide +kernel
theorem dL_isMill_409 : decode cL_isMill 409 = .ok (.iload 6, 2) := by decide +kernel
theorem dL_isMill_411 : decode cL_isMill 411 = .ok (.ifCond .le 14, 3) := by decide +kernel
theorem dL_isMill_414 : decode cL_isMill 414 = .ok (.iload 6, 2) := by decide +kernel
theorem dL_isMill_416 : decode cL_isMill 416 = .ok (.bipush 6, 2) := by decide +kernel
theorem dL_isMill_418 : decode cL_isMill 418 = .ok (.if_icmp .ge 7, 3) := by decide +kernel
theorem dL_isMill_421 : decode cL_isMill 421 = .ok (.iconst 1, 1) := by decide +kernel
theorem dL_isMill_422 : decode cL_isMill 422 = .ok (.goto 4, 3) := by decide +kernel
theorem dL_isMill_425 : decode cL_isMill 425 = .ok (.iconst 0, 1) := by decide +kernel
theorem dL_isMill_426 : decode cL_isMill 426 = .ok (.ireturn, 1) := by decide +kernel
theorem dL_isHouse_0 : decode cL_isHouse 0 = .ok (.aload_n 0, 1) := by decide +kernel
theorem dL_isHouse_1 : decode cL_isHouse 1 = .ok (.iload_n 2, 1) := by decide +kernel
theorem dL_isHouse_2 : decode cL_isHouse 2 = .ok (.iconst 0, 1) := by decide +kernel
theorem dL_isHouse_3 : decode cL_isHouse 3 = .ok (.invokevirtual 35, 3) := by decide +kernel
theorem dL_isHouse_6 : decode cL_isHouse 6 = .ok (.istore 4, 2) := by decide +kernel
theorem dL_isHouse_8 : decode cL_isHouse 8 = .ok (.aload_n 0, 1) := by decide +kernel
theorem dL_isHouse_9 : decode cL_isHouse 9 = .ok (.iload_n 2, 1) := by decide +kernel
theorem dL_isHouse_10 : decode cL_isHouse 10 = .ok (.iconst 1, 1) := by decide +kernel
theorem dL_isHouse_11 : decode cL_isHouse 11 = .ok (.invokevirtual 35, 3) := by decide +kernel
theorem dL_isHouse_14 : decode cL_isHouse 14 = .ok (.iconst 2, 1) := by decide +kernel
theorem dL_isHouse_15 : decode cL_isHouse 15 = .ok (.if_icmp .le 7, 3) := by decide +kernel
theorem dL_isHouse_18 : decode cL_isHouse 18 = .ok (.iconst 1, 1) := by decide +kernel
theorem dL_isHouse_19 : decode cL_isHouse 19 = .ok (.goto 4, 3) := by decide +kernel
theorem dL_isHouse_22 : decode cL_isHouse 22 = .ok (.iconst 0, 1) := by decide +kernel
theorem dL_isHouse_23 : decode cL_isHouse 23 = .ok (.istore 5, 2) := by decide +kernel
theorem dL_isHouse_25 : decode cL_isHouse 25 = .ok (.aload_n 0, 1) := by decide +kernel
theorem dL_isHouse_26 : decode cL_isHouse 26 = .ok (.iload_n 3, 1) := by decide +kernel
theorem dL_isHouse_27 : decode cL_isHouse 27 = .ok (.iconst 2, 1) := by decide +kernel
theorem dL_isHouse_28 : decode cL_isHouse 28 = .ok (.invokevirtual 8, 3) := by decide +kernel
theorem dL_isHouse_31 : decode cL_isHouse 31 = .ok (.istore 6, 2) := by decide +kernel
theorem dL_isHouse_33 : decode cL_isHouse 33 = .ok (.iload 4, 2) := by decide +kernel
theorem dL_isHouse_35 : decode cL_isHouse 35 = .ok (.bipush 12, 2) := by decide +kernel
theorem dL_isHouse_37 : decode cL_isHouse 37 = .ok (.irem, 1) := by decide +kernel
theorem dL_isHouse_38 : decode cL_isHouse 38 = .ok (.aload_n 0, 1) := by decide +kernel
theorem dL_isHouse_39 : decode cL_isHouse 39 = .ok (.iload_n 3, 1) := by decide +kernel
theorem dL_isHouse_40 : decode cL_isHouse 40 = .ok (.iconst 1, 1) := by decide +kernel
theorem dL_isHouse_41 : decode cL_isHouse 41 = .ok (.invokevirtual 8, 3) := by decide +kernel
theorem dL_isHouse_44 : decode cL_isHouse 44 = .ok (.bipush 12, 2) := by decide +kernel
theorem dL_isHouse_46 : decode cL_isHouse 46 = .ok (.irem, 1) := by decide +kernel
theorem dL_isHouse_47 : decode cL_isHouse 47 = .ok (.isub, 1) := by decide +kernel
theorem dL_isHouse_48 : decode cL_isHouse 48 = .ok (.invokestatic 14, 3) := by decide +kernel
theorem dL_isHouse_51 : decode cL_isHouse 51 = .ok (.istore 7, 2) := by decide +kernel
theorem dL_isHouse_53 : decode cL_isHouse 53 = .ok (.iload 4, 2) := by decide +kernel
theorem dL_isHouse_55 : decode cL_isHouse 55 = .ok (.bipush 12, 2) := by decide +kernel
theorem dL_isHouse_57 : decode cL_isHouse 57 = .ok (.idiv, 1) := by decide +kernel
theorem dL_isHouse_58 : decode cL_isHouse 58 = .ok (.aload_n 0, 1) := by decide +kernel
theorem dL_isHouse_59 : decode cL_isHouse 59 = .ok (.iload_n 3, 1) := by decide +kernel
theorem dL_isHouse_60 : decode cL_isHouse 60 = .ok (.iconst 1, 1) := by decide +kernel
theorem dL_isHouse_61 : decode cL_isHouse 61 = .ok (.invokevirtual 8, 3) := by decide +kernel
theorem dL_isHouse_64 : decode cL_isHouse 64 = .ok (.bipush 12, 2) := by decide +kernel
theorem dL_isHouse_66 : decode cL_isHouse 66 = .ok (.idiv, 1) := by decide +kernel
theorem dL_isHouse_67 : decode cL_isHouse 67 = .ok (.isub, 1) := by decide +kernel
theorem dL_isHouse_68 : decode cL_isHouse 68 = .ok (.invokestatic 14, 3) := by decide +kernel
theorem dL_isHouse_71 : decode cL_isHouse 71 = .ok (.istore 8, 2) := by decide +kernel
theorem dL_isHouse_73 : decode cL_isHouse 73 = .ok (.iload 7, 2) := by decide +kernel
theorem dL_isHouse_75 : decode cL_isHouse 75 = .ok (.iload 8, 2) := by decide +kernel
theorem dL_isHouse_77 : decode cL_isHouse 77 = .ok (.if_icmp .le 8, 3) := by decide +kernel
theorem dL_isHouse_80 : decode cL_isHouse 80 = .ok (.iload 7, 2) := by decide +kernel
theorem dL_isHouse_82 : decode cL_isHouse 82 = .ok (.goto 5, 3) := by decide +kernel
theorem dL_isHouse_85 : decode cL_isHouse 85 = .ok (.iload 8, 2) := by decide +kernel
theorem dL_isHouse_87 : decode cL_isHouse 87 = .ok (.istore 7, 2) := by decide +kernel
theorem dL_isHouse_89 : decode cL_isHouse 89 = .ok (.iconst 0, 1) := by decide +kernel
theorem dL_isHouse_90 : decode cL_isHouse 90 = .ok (.istore 9, 2) := by decide +kernel
theorem dL_isHouse_92 : decode cL_isHouse 92 = .ok (.iload 9, 2) := by decide +kernel
theorem dL_isHouse_94 : decode cL_isHouse 94 = .ok (.bipush 48, 2) := by decide +kernel
theorem dL_isHouse_96 : decode cL_isHouse 96 = .ok (.if_icmp .ge 226, 3) := by decide +kernel
theorem dL_isHouse_99 : decode cL_isHouse 99 = .ok (.iload 9, 2) := by decide +kernel
theorem dL_isHouse_101 : decode cL_isHouse 101 = .ok (.iconst 2, 1) := by decide +kernel
theorem dL_isHouse_102 : decode cL_isHouse 102 = .ok (.idiv, 1) := by decide +kernel
theorem dL_isHouse_103 : decode cL_isHouse 103 = .ok (.istore 10, 2) := by decide +kernel
theorem dL_isHouse_105 : decode cL_isHouse 105 = .ok (.iload 10, 2) := by decide +kernel
theorem dL_isHouse_107 : decode cL_isHouse 107 = .ok (.bipush 6, 2) := by decide +kernel
theorem dL_isHouse_109 : decode cL_isHouse 109 = .ok (.if_icmp .lt 10, 3) := by decide +kernel
theorem dL_isHouse_112 : decode cL_isHouse 112 = .ok (.iload 10, 2) := by decide +kernel
theorem dL_isHouse_114 : decode cL_isHouse 114 = .ok (.bipush 21, 2) := by decide +kernel
theorem dL_isHouse_116 : decode cL_isHouse 116 = .ok (.if_icmp .le 7, 3) := by decide +kernel
theorem dL_isHouse_119 : decode cL_isHouse 119 = .ok (.iconst 1, 1) := by decide +kernel
theorem dL_isHouse_120 : decode cL_isHouse 120 = .ok (.goto 4, 3) := by decide +kernel
theorem dL_isHouse_123 : decode cL_isHouse 123 = .ok (.iconst 0, 1) := by decide +kernel
theorem dL_isHouse_124 : decode cL_isHouse 124 = .ok (.istore 11, 2) := by decide +kernel
theorem dL_isHouse_126 : decode cL_isHouse 126 = .ok (.iconst 2, 1) := by decide +kernel
theorem dL_isHouse_127 : decode cL_isHouse 127 = .ok (.aload_n 1, 1) := by decide +kernel
theorem dL_isHouse_128 : decode cL_isHouse 128 = .ok (.iload 10, 2) := by decide +kernel
theorem dL_isHouse_130 : decode cL_isHouse 130 = .ok (.iaload, 1) := by decide +kernel
theorem dL_isHouse_131 : decode cL_isHouse 131 = .ok (.imul, 1) := by decide +kernel
theorem dL_isHouse_132 : decode cL_isHouse 132 = .ok (.iload 7, 2) := by decide +kernel
theorem dL_isHouse_134 : decode cL_isHouse 134 = .ok (.isub, 1) := by decide +kernel
theorem dL_isHouse_135 : decode cL_isHouse 135 = .ok (.iload 11, 2) := by decide +kernel
theorem dL_isHouse_137 : decode cL_isHouse 137 = .ok (.ifCond .eq 12, 3) := by decide +kernel
theorem dL_isHouse_140 : decode cL_isHouse 140 = .ok (.aload_n 0, 1) := by decide +kernel
theorem dL_isHouse_141 : decode cL_isHouse 141 = .ok (.bipush 13, 2) := by decide +kernel
theorem dL_isHouse_143 : decode cL_isHouse 143 = .ok (.invokevirtual 38, 3) := by decide +kernel
theorem dL_isHouse_146 : decode cL_isHouse 146 = .ok (.goto 9, 3) := by decide +kernel
theorem dL_isHouse_149 : decode cL_isHouse 149 = .ok (.aload_n 0, 1) := by decide +kernel
theorem dL_isHouse_150 : decode cL_isHouse 150 = .ok (.bipush 12, 2) := by decide +kernel
theorem dL_isHouse_152 : decode cL_isHouse 152 = .ok (.invokevirtual 38, 3) := by decide +kernel
theorem dL_isHouse_155 : decode cL_isHouse 155 = .ok (.if_icmp .le 7, 3) := by decide +kernel
theorem dL_isHouse_158 : decode cL_isHouse 158 = .ok (.iconst 1, 1) := by decide +kernel
theorem dL_isHouse_159 : decode cL_isHouse 159 = .ok (.goto 4, 3) := by decide +kernel
theorem dL_isHouse_162 : decode cL_isHouse 162 = .ok (.iconst 0, 1) := by decide +kernel
theorem dL_isHouse_163 : decode cL_isHouse 163 = .ok (.istore 12, 2) := by decide +kernel
theorem dL_isHouse_165 : decode cL_isHouse 165 = .ok (.iload 9, 2) := by decide +kernel
theorem dL_isHouse_167 : decode cL_isHouse 167 = .ok (.iconst 2, 1) := by decide +kernel
theorem dL_isHouse_168 : decode cL_isHouse 168 = .ok (.irem, 1) := by decide +kernel
theorem dL_isHouse_169 : decode cL_isHouse 169 = .ok (.ifCond .ne 8, 3) := by decide +kernel
theorem dL_isHouse_172 : decode cL_isHouse 172 = .ok (.iload 12, 2) := by decide +kernel
theorem dL_isHouse_174 : decode cL_isHouse 174 = .ok (.goto 22, 3) := by decide +kernel
theorem dL_isHouse_177 : decode cL_isHouse 177 = .ok (.aload_n 0, 1) := by decide +kernel
theorem dL_isHouse_178 : decode cL_isHouse 178 = .ok (.iload_n 3, 1) := by decide +kernel
theorem dL_isHouse_179 : decode cL_isHouse 179 = .ok (.iload 4, 2) := by decide +kernel
theorem dL_isHouse_181 : decode cL_isHouse 181 = .ok (.iload 10, 2) := by decide +kernel
theorem dL_isHouse_183 : decode cL_isHouse 183 = .ok (.iconst 0, 1) := by decide +kernel
theorem dL_isHouse_184 : decode cL_isHouse 184 = .ok (.invokevirtual 28, 3) := by decide +kernel
theorem dL_isHouse_187 : decode cL_isHouse 187 = .ok (.iconst 1, 1) := by decide +kernel
theorem dL_isHouse_188 : decode cL_isHouse 188 = .ok (.if_icmp .ne 7, 3) := by decide +kernel
theorem dL_isHouse_191 : decode cL_isHouse 191 = .ok (.iconst 1, 1) := by decide +kernel
theorem dL_isHouse_192 : decode cL_isHouse 192 = .ok (.goto 4, 3) := by decide +kernel
theorem dL_isHouse_195 : decode cL_isHouse 195 = .ok (.iconst 0, 1) := by decide +kernel
theorem dL_isHouse_196 : decode cL_isHouse 196 = .ok (.istore 13, 2) := by decide +kernel
theorem dL_isHouse_198 : decode cL_isHouse 198 = .ok (.iload 10, 2) := by decide +kernel
theorem dL_isHouse_200 : decode cL_isHouse 200 = .ok (.iconst 5, 1) := by decide +kernel
theorem dL_isHouse_201 : decode cL_isHouse 201 = .ok (.if_icmp .le 14, 3) := by decide +kernel
theorem dL_isHouse_204 : decode cL_isHouse 204 = .ok (.iload 10, 2) := by decide +kernel
theorem dL_isHouse_206 : decode cL_isHouse 206 = .ok (.bipush 19, 2) := by decide +kernel
theorem dL_isHouse_208 : decode cL_isHouse 208 = .ok (.if_icmp .ge 7, 3) := by decide +kernel
theorem dL_isHouse_211 : decode cL_isHouse 211 = .ok (.iconst 1, 1) := by decide +kernel
theorem dL_isHouse_212 : decode cL_isHouse 212 = .ok (.goto 4, 3) := by decide +kernel
theorem dL_isHouse_215 : decode cL_isHouse 215 = .ok (.iconst 0, 1) := by decide +kernel
theorem dL_isHouse_216 : decode cL_isHouse 216 = .ok (.istore 14, 2) := by decide +kernel
theorem dL_isHouse_218 : decode cL_isHouse 218 = .ok (.iload 5, 2) := by decide +kernel
theorem dL_isHouse_220 : decode cL_isHouse 220 = .ok (.ifCond .eq 7, 3) := by decide +kernel
theorem dL_isHouse_223 : decode cL_isHouse 223 = .ok (.iconst 1, 1) := by decide +kernel
theorem dL_isHouse_224 : decode cL_isHouse 224 = .ok (.goto 56, 3) := by decide +kernel
theorem dL_isHouse_227 : decode cL_isHouse 227 = .ok (.iload 6, 2) := by decide +kernel
theorem dL_isHouse_229 : decode cL_isHouse 229 = .ok (.iload 10, 2) := by decide +kernel
theorem dL_isHouse_231 : decode cL_isHouse 231 = .ok (.invokestatic 20, 3) := by decide +kernel
theorem dL_isHouse_234 : decode cL_isHouse 234 = .ok (.ifCond .eq 7, 3) := by decide +kernel
theorem dL_isHouse_237 : decode cL_isHouse 237 = .ok (.iconst 3, 1) := by decide +kernel
theorem dL_isHouse_238 : decode cL_isHouse 238 = .ok (.goto 42, 3) := by decide +kernel
theorem dL_isHouse_241 : decode cL_isHouse 241 = .ok (.aload_n 1, 1) := by decide +kernel
theorem dL_isHouse_242 : decode cL_isHouse 242 = .ok (.iload 10, 2) := by decide +kernel
theorem dL_isHouse_244 : decode cL_isHouse 244 = .ok (.iaload, 1) := by decide +kernel
theorem dL_isHouse_245 : decode cL_isHouse 245 = .ok (.iconst 2, 1) := by decide +kernel
theorem dL_isHouse_246 : decode cL_isHouse 246 = .ok (.if_icmp .ge 7, 3) := by decide +kernel
theorem dL_isHouse_249 : decode cL_isHouse 249 = .ok (.iconst 4, 1) := by decide +kernel
theorem dL_isHouse_250 : decode cL_isHouse 250 = .ok (.goto 30, 3) := by decide +kernel
theorem dL_isHouse_253 : decode cL_isHouse 253 = .ok (.iload 13, 2) := by decide +kernel
theorem dL_isHouse_255 : decode cL_isHouse 255 = .ok (.ifCond .eq 7, 3) := by decide +kernel
theorem dL_isHouse_258 : decode cL_isHouse 258 = .ok (.iconst 0, 1) := by decide +kernel
theorem dL_isHouse_259 : decode cL_isHouse 259 = .ok (.goto 21, 3) := by decide +kernel
theorem dL_isHouse_262 : decode cL_isHouse 262 = .ok (.iload 9, 2) := by decide +kernel
theorem dL_isHouse_264 : decode cL_isHouse 264 = .ok (.iconst 2, 1) := by decide +kernel
theorem dL_isHouse_265 : decode cL_isHouse 265 = .ok (.irem, 1) := by decide +kernel
theorem dL_isHouse_266 : decode cL_isHouse 266 = .ok (.ifCond .eq 8, 3) := by decide +kernel
theorem dL_isHouse_269 : decode cL_isHouse 269 = .ok (.iload 14, 2) := by decide +kernel
theorem dL_isHouse_271 : decode cL_isHouse 271 = .ok (.ifCond .ne 7, 3) := by decide +kernel
theorem dL_isHouse_274 : decode cL_isHouse 274 = .ok (.iconst 5, 1) := by decide +kernel
theorem dL_isHouse_275 : decode cL_isHouse 275 = .ok (.goto 5, 3) := by decide +kernel
theorem dL_isHouse_278 : decode cL_isHouse 278 = .ok (.bipush 6, 2) := by decide +kernel
theorem dL_isHouse_280 : decode cL_isHouse 280 = .ok (.istore 15, 2) := by decide +kernel
theorem dL_isHouse_282 : decode cL_isHouse 282 = .ok (.aload_n 0, 1) := by decide +kernel
theorem dL_isHouse_283 : decode cL_isHouse 283 = .ok (.iload_n 2, 1) := by decide +kernel
theorem dL_isHouse_284 : decode cL_isHouse 284 = .ok (.iload_n 3, 1) := by decide +kernel
theorem dL_isHouse_285 : decode cL_isHouse 285 = .ok (.iload 9, 2) := by decide +kernel
theorem dL_isHouse_287 : decode cL_isHouse 287 = .ok (.iconst 2, 1) := by decide +kernel
theorem dL_isHouse_288 : decode cL_isHouse 288 = .ok (.irem, 1) := by decide +kernel
theorem dL_isHouse_289 : decode cL_isHouse 289 = .ok (.iload 10, 2) := by decide +kernel
theorem dL_isHouse_291 : decode cL_isHouse 291 = .ok (.invokevirtual 41, 3) := by decide +kernel
theorem dL_isHouse_294 : decode cL_isHouse 294 = .ok (.istore 16, 2) := by decide +kernel
theorem dL_isHouse_296 : decode cL_isHouse 296 = .ok (.iload 16, 2) := by decide +kernel
theorem dL_isHouse_298 : decode cL_isHouse 298 = .ok (.iload 15, 2) := by decide +kernel
theorem dL_isHouse_300 : decode cL_isHouse 300 = .ok (.if_icmp .eq 16, 3) := by decide +kernel
theorem dL_isHouse_303 : decode cL_isHouse 303 = .ok (.iload 16, 2) := by decide +kernel
theorem dL_isHouse_305 : decode cL_isHouse 305 = .ok (.iconst 2, 1) := by decide +kernel
theorem dL_isHouse_306 : decode cL_isHouse 306 = .ok (.if_icmp .ne 8, 3) := by decide +kernel
theorem dL_isHouse_309 : decode cL_isHouse 309 = .ok (.iload 5, 2) := by decide +kernel
theorem dL_isHouse_311 : decode cL_isHouse 311 = .ok (.ifCond .eq 5, 3) := by decide +kernel
theorem dL_isHouse_314 : decode cL_isHouse 314 = .ok (.iconst 0, 1) := by decide +kernel
theorem dL_isHouse_315 : decode cL_isHouse 315 = .ok (.ireturn, 1) := by decide +kernel
theorem dL_isHouse_316 : decode cL_isHouse 316 = .ok (.iinc 9 1, 3) := by decide +kernel
theorem dL_isHouse_319 : decode cL_isHouse 319 = .ok (.goto (-227), 3) := by decide +kernel
theorem dL_isHouse_322 : decode cL_isHouse 322 = .ok (.aload_n 0, 1) := by decide +kernel
theorem dL_isHouse_323 : decode cL_isHouse 323 = .ok (.iload_n 2, 1) := by decide +kernel
theorem dL_isHouse_324 : decode cL_isHouse 324 = .ok (.iconst 2, 1) := by decide +kernel
theorem dL_isHouse_325 : decode cL_isHouse 325 = .ok (.invokevirtual 35, 3) := by decide +kernel
theorem dL_isHouse_328 : decode cL_isHouse 328 = .ok (.iload 5, 2) := by decide +kernel
theorem dL_isHouse_330 : decode cL_isHouse 330 = .ok (.ifCond .eq 7, 3) := by decide +kernel
theorem dL_isHouse_333 : decode cL_isHouse 333 = .ok (.iconst 1, 1) := by decide +kernel
theorem dL_isHouse_334 : decode cL_isHouse 334 = .ok (.goto 4, 3) := by decide +kernel
theorem dL_isHouse_337 : decode cL_isHouse 337 = .ok (.iconst 0, 1) := by decide +kernel
theorem dL_isHouse_338 : decode cL_isHouse 338 = .ok (.if_icmp .ne 30, 3) := by decide +kernel
theorem dL_isHouse_341 : decode cL_isHouse 341 = .ok (.aload_n 0, 1) := by decide +kernel
theorem dL_isHouse_342 : decode cL_isHouse 342 = .ok (.iload 4, 2) := by decide +kernel
theorem dL_isHouse_344 : decode cL_isHouse 344 = .ok (.iconst 1, 1) := by decide +kernel
theorem dL_isHouse_345 : decode cL_isHouse 345 = .ok (.invokevirtual 32, 3) := by decide +kernel
theorem dL_isHouse_348 : decode cL_isHouse 348 = .ok (.iload_n 2, 1) := by decide +kernel
theorem dL_isHouse_349 : decode cL_isHouse 349 = .ok (.if_icmp .ne 19, 3) := by decide +kernel
theorem dL_isHouse_352 : decode cL_isHouse 352 = .ok (.aload_n 0, 1) := by decide +kernel
theorem dL_isHouse_353 : decode cL_isHouse 353 = .ok (.iload 4, 2) := by decide +kernel
theorem dL_isHouse_355 : decode cL_isHouse 355 = .ok (.iconst 0, 1) := by decide +kernel
theorem dL_isHouse_356 : decode cL_isHouse 356 = .ok (.invokevirtual 32, 3) := by decide +kernel
theorem dL_isHouse_359 : decode cL_isHouse 359 = .ok (.bipush (-5), 2) := by decide +kernel
theorem dL_isHouse_361 : decode cL_isHouse 361 = .ok (.if_icmp .ne 7, 3) := by decide +kernel
theorem dL_isHouse_364 : decode cL_isHouse 364 = .ok (.iconst 1, 1) := by decide +kernel
theorem dL_isHouse_365 : decode cL_isHouse 365 = .ok (.goto 4, 3) := by decide +kernel
theorem dL_isHouse_368 : decode cL_isHouse 368 = .ok (.iconst 0, 1) := by decide +kernel
theorem dL_isHouse_369 : decode cL_isHouse 369 = .ok (.ireturn, 1) := by decide +kernel
theorem dL_areAll_0 : decode cL_areAll 0 = .ok (.iconst 0, 1) := by decide +kernel
theorem dL_areAll_1 : decode cL_areAll 1 = .ok (.istore_n 2, 1) := by decide +kernel
theorem dL_areAll_2 : decode cL_areAll 2 = .ok (.iconst 0, 1) := by decide +kernel
theorem dL_areAll_3 : decode cL_areAll 3 = .ok (.istore_n 3, 1) := by decide +kernel
theorem dL_areAll_4 : decode cL_areAll 4 = .ok (.iconst 0, 1) := by decide +kernel
theorem dL_areAll_5 : decode cL_areAll 5 = .ok (.istore 4, 2) := by decide +kernel
theorem dL_areAll_7 : decode cL_areAll 7 = .ok (.iconst 0, 1) := by decide +kernel
theorem dL_areAll_8 : decode cL_areAll 8 = .ok (.istore 5, 2) := by decide +kernel
theorem dL_areAll_10 : decode cL_areAll 10 = .ok (.iconst 0, 1) := by decide +kernel
theorem dL_areAll_11 : decode cL_areAll 11 = .ok (.istore 6, 2) := by decide +kernel
theorem dL_areAll_13 : decode cL_areAll 13 = .ok (.iconst 0, 1) := by decide +kernel
theorem dL_areAll_14 : decode cL_areAll 14 = .ok (.istore 7, 2) := by decide +kernel
theorem dL_areAll_16 : decode cL_areAll 16 = .ok (.iload 7, 2) := by decide +kernel
theorem dL_areAll_18 : decode cL_areAll 18 = .ok (.aload_n 0, 1) := by decide +kernel
theorem dL_areAll_19 : decode cL_areAll 19 = .ok (.iconst 0, 1) := by decide +kernel
theorem dL_areAll_20 : decode cL_areAll 20 = .ok (.invokevirtual 38, 3) := by decide +kernel
theorem dL_areAll_23 : decode cL_areAll 23 = .ok (.if_icmp .ge 97, 3) := by decide +kernel
theorem dL_areAll_26 : decode cL_areAll 26 = .ok (.iload 7, 2) := by decide +kernel
theorem dL_areAll_28 : decode cL_areAll 28 = .ok (.iconst 4, 1) := by decide +kernel
theorem dL_areAll_29 : decode cL_areAll 29 = .ok (.if_icmp .ge 91, 3) := by decide +kernel
theorem dL_areAll_32 : decode cL_areAll 32 = .ok (.iload_n 2, 1) := by decide +kernel
theorem dL_areAll_33 : decode cL_areAll 33 = .ok (.aload_n 0, 1) := by decide +kernel
theorem dL_areAll_34 : decode cL_areAll 34 = .ok (.iload 7, 2) := by decide +kernel
theorem dL_areAll_36 : decode cL_areAll 36 = .ok (.iconst 5, 1) := by decide +kernel
theorem dL_areAll_37 : decode cL_areAll 37 = .ok (.invokevirtual 8, 3) := by decide +kernel
theorem dL_areAll_40 : decode cL_areAll 40 = .ok (.iadd, 1) := by decide +kernel
theorem dL_areAll_41 : decode cL_areAll 41 = .ok (.istore_n 2, 1) := by decide +kernel
theorem dL_areAll_42 : decode cL_areAll 42 = .ok (.iload 4, 2) := by decide +kernel
theorem dL_areAll_44 : decode cL_areAll 44 = .ok (.aload_n 0, 1) := by decide +kernel
theorem dL_areAll_45 : decode cL_areAll 45 = .ok (.iload 7, 2) := by decide +kernel
theorem dL_areAll_47 : decode cL_areAll 47 = .ok (.iconst 4, 1) := by decide +kernel
theorem dL_areAll_48 : decode cL_areAll 48 = .ok (.invokevirtual 8, 3) := by decide +kernel
theorem dL_areAll_51 : decode cL_areAll 51 = .ok (.iadd, 1) := by decide +kernel
theorem dL_areAll_52 : decode cL_areAll 52 = .ok (.istore 4, 2) := by decide +kernel
theorem dL_areAll_54 : decode cL_areAll 54 = .ok (.iconst 0, 1) := by decide +kernel
theorem dL_areAll_55 : decode cL_areAll 55 = .ok (.istore 8, 2) := by decide +kernel
theorem dL_areAll_57 : decode cL_areAll 57 = .ok (.iload 8, 2) := by decide +kernel
theorem dL_areAll_59 : decode cL_areAll 59 = .ok (.bipush 24, 2) := by decide +kernel
theorem dL_areAll_61 : decode cL_areAll 61 = .ok (.if_icmp .ge 53, 3) := by decide +kernel
theorem dL_areAll_64 : decode cL_areAll 64 = .ok (.iload_n 3, 1) := by decide +kernel
theorem dL_areAll_65 : decode cL_areAll 65 = .ok (.aload_n 0, 1) := by decide +kernel
theorem dL_areAll_66 : decode cL_areAll 66 = .ok (.iload 7, 2) := by decide +kernel
theorem dL_areAll_68 : decode cL_areAll 68 = .ok (.iconst 2, 1) := by decide +kernel
theorem dL_areAll_69 : decode cL_areAll 69 = .ok (.invokevirtual 8, 3) := by decide +kernel
theorem dL_areAll_72 : decode cL_areAll 72 = .ok (.iload 8, 2) := by decide +kernel
theorem dL_areAll_74 : decode cL_areAll 74 = .ok (.invokestatic 20, 3) := by decide +kernel
theorem dL_areAll_77 : decode cL_areAll 77 = .ok (.ifCond .eq 7, 3) := by decide +kernel
theorem dL_areAll_80 : decode cL_areAll 80 = .ok (.iconst 1, 1) := by decide +kernel
theorem dL_areAll_81 : decode cL_areAll 81 = .ok (.goto 4, 3) := by decide +kernel
theorem dL_areAll_84 : decode cL_areAll 84 = .ok (.iconst 0, 1) := by decide +kernel
theorem dL_areAll_85 : decode cL_areAll 85 = .ok (.iadd, 1) := by decide +kernel
theorem dL_areAll_86 : decode cL_areAll 86 = .ok (.istore_n 3, 1) := by decide +kernel
theorem dL_areAll_87 : decode cL_areAll 87 = .ok (.iload 6, 2) := by decide +kernel
theorem dL_areAll_89 : decode cL_areAll 89 = .ok (.aload_n 1, 1) := by decide +kernel
theorem dL_areAll_90 : decode cL_areAll 90 = .ok (.iload 8, 2) := by decide +kernel
theorem dL_areAll_92 : decode cL_areAll 92 = .ok (.iaload, 1) := by decide +kernel
theorem dL_areAll_93 : decode cL_areAll 93 = .ok (.iconst 1, 1) := by decide +kernel
theorem dL_areAll_94 : decode cL_areAll 94 = .ok (.if_icmp .le 10, 3) := by decide +kernel
theorem dL_areAll_97 : decode cL_areAll 97 = .ok (.aload_n 1, 1) := by decide +kernel
theorem dL_areAll_98 : decode cL_areAll 98 = .ok (.iload 8, 2) := by decide +kernel
theorem dL_areAll_100 : decode cL_areAll 100 = .ok (.iaload, 1) := by decide +kernel
theorem dL_areAll_101 : decode cL_areAll 101 = .ok (.goto 4, 3) := by decide +kernel
theorem dL_areAll_104 : decode cL_areAll 104 = .ok (.iconst 0, 1) := by decide +kernel
theorem dL_areAll_105 : decode cL_areAll 105 = .ok (.iadd, 1) := by decide +kernel
theorem dL_areAll_106 : decode cL_areAll 106 = .ok (.istore 6, 2) := by decide +kernel
theorem dL_areAll_108 : decode cL_areAll 108 = .ok (.iinc 8 1, 3) := by decide +kernel
theorem dL_areAll_111 : decode cL_areAll 111 = .ok (.goto (-54), 3) := by decide +kernel
theorem dL_areAll_114 : decode cL_areAll 114 = .ok (.iinc 7 1, 3) := by decide +kernel
theorem dL_areAll_117 : decode cL_areAll 117 = .ok (.goto (-101), 3) := by decide +kernel
theorem dL_areAll_120 : decode cL_areAll 120 = .ok (.iconst 0, 1) := by decide +kernel
theorem dL_areAll_121 : decode cL_areAll 121 = .ok (.istore 7, 2) := by decide +kernel
theorem dL_areAll_123 : decode cL_areAll 123 = .ok (.iload 7, 2) := by decide +kernel
theorem dL_areAll_125 : decode cL_areAll 125 = .ok (.aload_n 0, 1) := by decide +kernel
theorem dL_areAll_126 : decode cL_areAll 126 = .ok (.iconst 1, 1) := by decide +kernel
theorem dL_areAll_127 : decode cL_areAll 127 = .ok (.invokevirtual 38, 3) := by decide +kernel
theorem dL_areAll_130 : decode cL_areAll 130 = .ok (.if_icmp .ge 28, 3) := by decide +kernel
theorem dL_areAll_133 : decode cL_areAll 133 = .ok (.iload 7, 2) := by decide +kernel
theorem dL_areAll_135 : decode cL_areAll 135 = .ok (.bipush 10, 2) := by decide +kernel
theorem dL_areAll_137 : decode cL_areAll 137 = .ok (.if_icmp .ge 21, 3) := by decide +kernel
theorem dL_areAll_140 : decode cL_areAll 140 = .ok (.iload 5, 2) := by decide +kernel
theorem dL_areAll_142 : decode cL_areAll 142 = .ok (.aload_n 0, 1) := by decide +kernel
theorem dL_areAll_143 : decode cL_areAll 143 = .ok (.iload 7, 2) := by decide +kernel
theorem dL_areAll_145 : decode cL_areAll 145 = .ok (.iconst 3, 1) := by decide +kernel
theorem dL_areAll_146 : decode cL_areAll 146 = .ok (.invokevirtual 35, 3) := by decide +kernel
theorem dL_areAll_149 : decode cL_areAll 149 = .ok (.iadd, 1) := by decide +kernel
theorem dL_areAll_150 : decode cL_areAll 150 = .ok (.istore 5, 2) := by decide +kernel
theorem dL_areAll_152 : decode cL_areAll 152 = .ok (.iinc 7 1, 3) := by decide +kernel
theorem dL_areAll_155 : decode cL_areAll 155 = .ok (.goto (-32), 3) := by decide +kernel
theorem dL_areAll_158 : decode cL_areAll 158 = .ok (.iload_n 2, 1) := by decide +kernel
theorem dL_areAll_159 : decode cL_areAll 159 = .ok (.iload 5, 2) := by decide +kernel
theorem dL_areAll_161 : decode cL_areAll 161 = .ok (.if_icmp .ne 104, 3) := by decide +kernel
theorem dL_areAll_164 : decode cL_areAll 164 = .ok (.iload 5, 2) := by decide +kernel
theorem dL_areAll_166 : decode cL_areAll 166 = .ok (.aload_n 0, 1) := by decide +kernel
theorem dL_areAll_167 : decode cL_areAll 167 = .ok (.iconst 2, 1) := by decide +kernel
theorem dL_areAll_168 : decode cL_areAll 168 = .ok (.invokevirtual 38, 3) := by decide +kernel
theorem dL_areAll_171 : decode cL_areAll 171 = .ok (.if_icmp .gt 94, 3) := by decide +kernel
theorem dL_areAll_174 : decode cL_areAll 174 = .ok (.aload_n 0, 1) := by decide +kernel
theorem dL_areAll_175 : decode cL_areAll 175 = .ok (.bipush 8, 2) := by decide +kernel
theorem dL_areAll_177 : decode cL_areAll 177 = .ok (.invokevirtual 38, 3) := by decide +kernel
theorem dL_areAll_180 : decode cL_areAll 180 = .ok (.iload_n 3, 1) := by decide +kernel
theorem dL_areAll_181 : decode cL_areAll 181 = .ok (.if_icmp .ne 84, 3) := by decide +kernel
theorem dL_areAll_184 : decode cL_areAll 184 = .ok (.aload_n 0, 1) := by decide +kernel
theorem dL_areAll_185 : decode cL_areAll 185 = .ok (.bipush 9, 2) := by decide +kernel
theorem dL_areAll_187 : decode cL_areAll 187 = .ok (.invokevirtual 38, 3) := by decide +kernel
theorem dL_areAll_190 : decode cL_areAll 190 = .ok (.iload 4, 2) := by decide +kernel
theorem dL_areAll_192 : decode cL_areAll 192 = .ok (.if_icmp .ne 73, 3) := by decide +kernel
theorem dL_areAll_195 : decode cL_areAll 195 = .ok (.aload_n 0, 1) := by decide +kernel
theorem dL_areAll_196 : decode cL_areAll 196 = .ok (.iconst 5, 1) := by decide +kernel
theorem dL_areAll_197 : decode cL_areAll 197 = .ok (.invokevirtual 38, 3) := by decide +kernel
theorem dL_areAll_200 : decode cL_areAll 200 = .ok (.aload_n 0, 1) := by decide +kernel
theorem dL_areAll_201 : decode cL_areAll 201 = .ok (.iconst 4, 1) := by decide +kernel
theorem dL_areAll_202 : decode cL_areAll 202 = .ok (.invokevirtual 38, 3) := by decide +kernel
theorem dL_areAll_205 : decode cL_areAll 205 = .ok (.if_icmp .gt 60, 3) := by decide +kernel
theorem dL_areAll_208 : decode cL_areAll 208 = .ok (.aload_n 0, 1) := by decide +kernel
theorem dL_areAll_209 : decode cL_areAll 209 = .ok (.bipush 7, 2) := by decide +kernel
theorem dL_areAll_211 : decode cL_areAll 211 = .ok (.invokevirtual 38, 3) := by decide +kernel
theorem dL_areAll_214 : decode cL_areAll 214 = .ok (.aload_n 0, 1) := by decide +kernel
theorem dL_areAll_215 : decode cL_areAll 215 = .ok (.bipush 6, 2) := by decide +kernel
theorem dL_areAll_217 : decode cL_areAll 217 = .ok (.invokevirtual 38, 3) := by decide +kernel
theorem dL_areAll_220 : decode cL_areAll 220 = .ok (.if_icmp .gt 45, 3) := by decide +kernel
theorem dL_areAll_223 : decode cL_areAll 223 = .ok (.aload_n 0, 1) := by decide +kernel
theorem dL_areAll_224 : decode cL_areAll 224 = .ok (.invokevirtual 44, 3) := by decide +kernel
theorem dL_areAll_227 : decode cL_areAll 227 = .ok (.iload 6, 2) := by decide +kernel
theorem dL_areAll_229 : decode cL_areAll 229 = .ok (.ifCond .ne 7, 3) := by decide +kernel
theorem dL_areAll_232 : decode cL_areAll 232 = .ok (.fconst 1, 1) := by decide +kernel
theorem dL_areAll_233 : decode cL_areAll 233 = .ok (.goto 10, 3) := by decide +kernel
theorem dL_areAll_236 : decode cL_areAll 236 = .ok (.iload 4, 2) := by decide +kernel
theorem dL_areAll_238 : decode cL_areAll 238 = .ok (.i2f, 1) := by decide +kernel
theorem dL_areAll_239 : decode cL_areAll 239 = .ok (.iload 6, 2) := by decide +kernel
theorem dL_areAll_241 : decode cL_areAll 241 = .ok (.i2f, 1) := by decide +kernel
theorem dL_areAll_242 : decode cL_areAll 242 = .ok (.fdiv, 1) := by decide +kernel
theorem dL_areAll_243 : decode cL_areAll 243 = .ok (.fcmp .l, 1) := by decide +kernel
theorem dL_areAll_244 : decode cL_areAll 244 = .ok (.ifCond .ne 21, 3) := by decide +kernel
theorem dL_areAll_247 : decode cL_areAll 247 = .ok (.aload_n 0, 1) := by decide +kernel
theorem dL_areAll_248 : decode cL_areAll 248 = .ok (.aload_n 0, 1) := by decide +kernel
theorem dL_areAll_249 : decode cL_areAll 249 = .ok (.iconst 0, 1) := by decide +kernel
theorem dL_areAll_250 : decode cL_areAll 250 = .ok (.invokevirtual 38, 3) := by decide +kernel
theorem dL_areAll_253 : decode cL_areAll 253 = .ok (.iconst 0, 1) := by decide +kernel
theorem dL_areAll_254 : decode cL_areAll 254 = .ok (.invokevirtual 8, 3) := by decide +kernel
theorem dL_areAll_257 : decode cL_areAll 257 = .ok (.iconst (-1), 1) := by decide +kernel
theorem dL_areAll_258 : decode cL_areAll 258 = .ok (.if_icmp .ne 7, 3) := by decide +kernel
theorem dL_areAll_261 : decode cL_areAll 261 = .ok (.iconst 1, 1) := by decide +kernel
theorem dL_areAll_262 : decode cL_areAll 262 = .ok (.goto 4, 3) := by decide +kernel
theorem dL_areAll_265 : decode cL_areAll 265 = .ok (.iconst 0, 1) := by decide +kernel
theorem dL_areAll_266 : decode cL_areAll 266 = .ok (.ireturn, 1) := by decide +kernel
theorem dL_areHours_0 : decode cL_areHours 0 = .ok (.iconst 0, 1) := by decide +kernel
theorem dL_areHours_1 : decode cL_areHours 1 = .ok (.istore_n 3, 1) := by decide +kernel
theorem dL_areHours_2 : decode cL_areHours 2 = .ok (.bipush (-5), 2) := by decide +kernel
theorem dL_areHours_4 : decode cL_areHours 4 = .ok (.istore 4, 2) := by decide +kernel
theorem dL_areHours_6 : decode cL_areHours 6 = .ok (.iconst 0, 1) := by decide +kernel
theorem dL_areHours_7 : decode cL_areHours 7 = .ok (.istore 5, 2) := by decide +kernel
theorem dL_areHours_9 : decode cL_areHours 9 = .ok (.aload_n 0, 1) := by decide +kernel
theorem dL_areHours_10 : decode cL_areHours 10 = .ok (.iconst 1, 1) := by decide +kernel
theorem dL_areHours_11 : decode cL_areHours 11 = .ok (.invokevirtual 38, 3) := by decide +kernel
theorem dL_areHours_14 : decode cL_areHours 14 = .ok (.istore 6, 2) := by decide +kernel
theorem dL_areHours_16 : decode cL_areHours 16 = .ok (.aload_n 0, 1) := by decide +kernel
theorem dL_areHours_17 : decode cL_areHours 17 = .ok (.iload_n 2, 1) := by decide +kernel
theorem dL_areHours_18 : decode cL_areHours 18 = .ok (.iconst 3, 1) := by decide +kernel
theorem dL_areHours_19 : decode cL_areHours 19 = .ok (.invokevirtual 8, 3) := by decide +kernel
theorem dL_areHours_22 : decode cL_areHours 22 = .ok (.istore 7, 2) := by decide +kernel
theorem dL_areHours_24 : decode cL_areHours 24 = .ok (.iconst 0, 1) := by decide +kernel
theorem dL_areHours_25 : decode cL_areHours 25 = .ok (.istore 8, 2) := by decide +kernel
theorem dL_areHours_27 : decode cL_areHours 27 = .ok (.iload 8, 2) := by decide +kernel
theorem dL_areHours_29 : decode cL_areHours 29 = .ok (.bipush 24, 2) := by decide +kernel
theorem dL_areHours_31 : decode cL_areHours 31 = .ok (.if_icmp .ge 259, 3) := by decide +kernel
theorem dL_areHours_34 : decode cL_areHours 34 = .ok (.aload_n 0, 1) := by decide +kernel
theorem dL_areHours_35 : decode cL_areHours 35 = .ok (.iload_n 2, 1) := by decide +kernel
theorem dL_areHours_36 : decode cL_areHours 36 = .ok (.iload 8, 2) := by decide +kernel
theorem dL_areHours_38 : decode cL_areHours 38 = .ok (.invokevirtual 48, 3) := by decide +kernel
theorem dL_areHours_41 : decode cL_areHours 41 = .ok (.istore 9, 2) := by decide +kernel
theorem dL_areHours_43 : decode cL_areHours 43 = .ok (.iload 9, 2) := by decide +kernel
theorem dL_areHours_45 : decode cL_areHours 45 = .ok (.ifCond .lt 25, 3) := by decide +kernel
theorem dL_areHours_48 : decode cL_areHours 48 = .ok (.iload 9, 2) := by decide +kernel
theorem dL_areHours_50 : decode cL_areHours 50 = .ok (.iload 6, 2) := by decide +kernel
theorem dL_areHours_52 : decode cL_areHours 52 = .ok (.if_icmp .gt 18, 3) := by decide +kernel
theorem dL_areHours_55 : decode cL_areHours 55 = .ok (.aload_n 1, 1) := by decide +kernel
theorem dL_areHours_56 : decode cL_areHours 56 = .ok (.iload 8, 2) := by decide +kernel
theorem dL_areHours_58 : decode cL_areHours 58 = .ok (.iaload, 1) := by decide +kernel
theorem dL_areHours_59 : decode cL_areHours 59 = .ok (.iconst 2, 1) := by decide +kernel
theorem dL_areHours_60 : decode cL_areHours 60 = .ok (.if_icmp .ge 12, 3) := by decide +kernel
theorem dL_areHours_63 : decode cL_areHours 63 = .ok (.iload 9, 2) := by decide +kernel
theorem dL_areHours_65 : decode cL_areHours 65 = .ok (.iload 6, 2) := by decide +kernel
theorem dL_areHours_67 : decode cL_areHours 67 = .ok (.if_icmp .eq 5, 3) := by decide +kernel
theorem dL_areHours_70 : decode cL_areHours 70 = .ok (.iconst 0, 1) := by decide +kernel
theorem dL_areHours_71 : decode cL_areHours 71 = .ok (.ireturn, 1) := by decide +kernel
theorem dL_areHours_72 : decode cL_areHours 72 = .ok (.iload_n 3, 1) := by decide +kernel
theorem dL_areHours_73 : decode cL_areHours 73 = .ok (.aload_n 1, 1) := by decide +kernel
theorem dL_areHours_74 : decode cL_areHours 74 = .ok (.iload 8, 2) := by decide +kernel
theorem dL_areHours_76 : decode cL_areHours 76 = .ok (.iaload, 1) := by decide +kernel
theorem dL_areHours_77 : decode cL_areHours 77 = .ok (.iconst 1, 1) := by decide +kernel
theorem dL_areHours_78 : decode cL_areHours 78 = .ok (.if_icmp .le 17, 3) := by decide +kernel
theorem dL_areHours_81 : decode cL_areHours 81 = .ok (.iload 9, 2) := by decide +kernel
theorem dL_areHours_83 : decode cL_areHours 83 = .ok (.iload 6, 2) := by decide +kernel
theorem dL_areHours_85 : decode cL_areHours 85 = .ok (.if_icmp .ne 10, 3) := by decide +kernel
theorem dL_areHours_88 : decode cL_areHours 88 = .ok (.iconst 1, 1) := by decide +kernel
theorem dL_areHours_89 : decode cL_areHours 89 = .ok (.iload 8, 2) := by decide +kernel
theorem dL_areHours_91 : decode cL_areHours 91 = .ok (.ishl, 1) := by decide +kernel
theorem dL_areHours_92 : decode cL_areHours 92 = .ok (.goto 4, 3) := by decide +kernel
theorem dL_areHours_95 : decode cL_areHours 95 = .ok (.iconst 0, 1) := by decide +kernel
theorem dL_areHours_96 : decode cL_areHours 96 = .ok (.ior, 1) := by decide +kernel
theorem dL_areHours_97 : decode cL_areHours 97 = .ok (.istore_n 3, 1) := by decide +kernel
theorem dL_areHours_98 : decode cL_areHours 98 = .ok (.iload 7, 2) := by decide +kernel
theorem dL_areHours_100 : decode cL_areHours 100 = .ok (.iload 8, 2) := by decide +kernel
theorem dL_areHours_102 : decode cL_areHours 102 = .ok (.invokestatic 20, 3) := by decide +kernel
theorem dL_areHours_105 : decode cL_areHours 105 = .ok (.ifCond .eq 11, 3) := by decide +kernel
theorem dL_areHours_108 : decode cL_areHours 108 = .ok (.iload 6, 2) := by decide +kernel
theorem dL_areHours_110 : decode cL_areHours 110 = .ok (.iload 9, 2) := by decide +kernel
theorem dL_areHours_112 : decode cL_areHours 112 = .ok (.isub, 1) := by decide +kernel
theorem dL_areHours_113 : decode cL_areHours 113 = .ok (.goto 4, 3) := by decide +kernel
theorem dL_areHours_116 : decode cL_areHours 116 = .ok (.iconst 0, 1) := by decide +kernel
theorem dL_areHours_117 : decode cL_areHours 117 = .ok (.istore 10, 2) := by decide +kernel
theorem dL_areHours_119 : decode cL_areHours 119 = .ok (.iload 10, 2) := by decide +kernel
theorem dL_areHours_121 : decode cL_areHours 121 = .ok (.iload 5, 2) := by decide +kernel
theorem dL_areHours_123 : decode cL_areHours 123 = .ok (.if_icmp .gt 26, 3) := by decide +kernel
theorem dL_areHours_126 : decode cL_areHours 126 = .ok (.iload 10, 2) := by decide +kernel
theorem dL_areHours_128 : decode cL_areHours 128 = .ok (.iload 5, 2) := by decide +kernel
theorem dL_areHours_130 : decode cL_areHours 130 = .ok (.if_icmp .ne 24, 3) := by decide +kernel
theorem dL_areHours_133 : decode cL_areHours 133 = .ok (.iload 4, 2) := by decide +kernel
theorem dL_areHours_135 : decode cL_areHours 135 = .ok (.ifCond .lt 19, 3) := by decide +kernel
theorem dL_areHours_138 : decode cL_areHours 138 = .ok (.aload_n 1, 1) := by decide +kernel
theorem dL_areHours_139 : decode cL_areHours 139 = .ok (.iload 8, 2) := by decide +kernel
theorem dL_areHours_141 : decode cL_areHours 141 = .ok (.iaload, 1) := by decide +kernel
theorem dL_areHours_142 : decode cL_areHours 142 = .ok (.aload_n 1, 1) := by decide +kernel
theorem dL_areHours_143 : decode cL_areHours 143 = .ok (.iload 4, 2) := by decide +kernel
theorem dL_areHours_145 : decode cL_areHours 145 = .ok (.iaload, 1) := by decide +kernel
theorem dL_areHours_146 : decode cL_areHours 146 = .ok (.if_icmp .ge 8, 3) := by decide +kernel
theorem dL_areHours_149 : decode cL_areHours 149 = .ok (.iload 8, 2) := by decide +kernel
theorem dL_areHours_151 : decode cL_areHours 151 = .ok (.goto 5, 3) := by decide +kernel
theorem dL_areHours_154 : decode cL_areHours 154 = .ok (.iload 4, 2) := by decide +kernel
theorem dL_areHours_156 : decode cL_areHours 156 = .ok (.istore 4, 2) := by decide +kernel
theorem dL_areHours_158 : decode cL_areHours 158 = .ok (.iload 10, 2) := by decide +kernel
theorem dL_areHours_160 : decode cL_areHours 160 = .ok (.iload 5, 2) := by decide +kernel
theorem dL_areHours_162 : decode cL_areHours 162 = .ok (.if_icmp .le 8, 3) := by decide +kernel
theorem dL_areHours_165 : decode cL_areHours 165 = .ok (.iload 10, 2) := by decide +kernel
theorem dL_areHours_167 : decode cL_areHours 167 = .ok (.goto 5, 3) := by decide +kernel
theorem dL_areHours_170 : decode cL_areHours 170 = .ok (.iload 5, 2) := by decide +kernel
theorem dL_areHours_172 : decode cL_areHours 172 = .ok (.istore 5, 2) := by decide +kernel
theorem dL_areHours_174 : decode cL_areHours 174 = .ok (.bipush (-5), 2) := by decide +kernel
theorem dL_areHours_176 : decode cL_areHours 176 = .ok (.istore 11, 2) := by decide +kernel
theorem dL_areHours_178 : decode cL_areHours 178 = .ok (.iconst 0, 1) := by decide +kernel
theorem dL_areHours_179 : decode cL_areHours 179 = .ok (.istore 12, 2) := by decide +kernel
theorem dL_areHours_181 : decode cL_areHours 181 = .ok (.iconst 0, 1) := by decide +kernel
theorem dL_areHours_182 : decode cL_areHours 182 = .ok (.istore 13, 2) := by decide +kernel
theorem dL_areHours_184 : decode cL_areHours 184 = .ok (.iload 13, 2) := by decide +kernel
theorem dL_areHours_186 : decode cL_areHours 186 = .ok (.iload 6, 2) := by decide +kernel
theorem dL_areHours_188 : decode cL_areHours 188 = .ok (.if_icmp .ge 83, 3) := by decide +kernel
theorem dL_areHours_191 : decode cL_areHours 191 = .ok (.iconst 0, 1) := by decide +kernel
theorem dL_areHours_192 : decode cL_areHours 192 = .ok (.istore 14, 2) := by decide +kernel
theorem dL_areHours_194 : decode cL_areHours 194 = .ok (.iconst 0, 1) := by decide +kernel
theorem dL_areHours_195 : decode cL_areHours 195 = .ok (.istore 15, 2) := by decide +kernel
theorem dL_areHours_197 : decode cL_areHours 197 = .ok (.iload 15, 2) := by decide +kernel
theorem dL_areHours_199 : decode cL_areHours 199 = .ok (.aload_n 0, 1) := by decide +kernel
theorem dL_areHours_200 : decode cL_areHours 200 = .ok (.iconst 0, 1) := by decide +kernel
theorem dL_areHours_201 : decode cL_areHours 201 = .ok (.invokevirtual 38, 3) := by decide +kernel
theorem dL_areHours_204 : decode cL_areHours 204 = .ok (.if_icmp .ge 29, 3) := by decide +kernel
theorem dL_areHours_207 : decode cL_areHours 207 = .ok (.iload 14, 2) := by decide +kernel
theorem dL_areHours_209 : decode cL_areHours 209 = .ok (.aload_n 0, 1) := by decide +kernel
theorem dL_areHours_210 : decode cL_areHours 210 = .ok (.iload 15, 2) := by decide +kernel
theorem dL_areHours_212 : decode cL_areHours 212 = .ok (.aload_n 0, 1) := by decide +kernel
theorem dL_areHours_213 : decode cL_areHours 213 = .ok (.iload 13, 2) := by decide +kernel
theorem dL_areHours_215 : decode cL_areHours 215 = .ok (.iconst 0, 1) := by decide +kernel
theorem dL_areHours_216 : decode cL_areHours 216 = .ok (.invokevirtual 35, 3) := by decide +kernel
theorem dL_areHours_219 : decode cL_areHours 219 = .ok (.iload 8, 2) := by decide +kernel
theorem dL_areHours_221 : decode cL_areHours 221 = .ok (.invokevirtual 24, 3) := by decide +kernel
theorem dL_areHours_224 : decode cL_areHours 224 = .ok (.iadd, 1) := by decide +kernel
theorem dL_areHours_225 : decode cL_areHours 225 = .ok (.istore 14, 2) := by decide +kernel
theorem dL_areHours_227 : decode cL_areHours 227 = .ok (.iinc 15 1, 3) := by decide +kernel
theorem dL_areHours_230 : decode cL_areHours 230 = .ok (.goto (-33), 3) := by decide +kernel
theorem dL_areHours_233 : decode cL_areHours 233 = .ok (.iload 14, 2) := by decide +kernel
theorem dL_areHours_235 : decode cL_areHours 235 = .ok (.iload 12, 2) := by decide +kernel
theorem dL_areHours_237 : decode cL_areHours 237 = .ok (.if_icmp .le 8, 3) := by decide +kernel
theorem dL_areHours_240 : decode cL_areHours 240 = .ok (.iload 13, 2) := by decide +kernel
theorem dL_areHours_242 : decode cL_areHours 242 = .ok (.goto 5, 3) := by decide +kernel
theorem dL_areHours_245 : decode cL_areHours 245 = .ok (.iload 11, 2) := by decide +kernel
theorem dL_areHours_247 : decode cL_areHours 247 = .ok (.istore 11, 2) := by decide +kernel
theorem dL_areHours_249 : decode cL_areHours 249 = .ok (.iload 14, 2) := by decide +kernel
theorem dL_areHours_251 : decode cL_areHours 251 = .ok (.iload 12, 2) := by decide +kernel
theorem dL_areHours_253 : decode cL_areHours 253 = .ok (.if_icmp .le 8, 3) := by decide +kernel
theorem dL_areHours_256 : decode cL_areHours 256 = .ok (.iload 14, 2) := by decide +kernel
theorem dL_areHours_258 : decode cL_areHours 258 = .ok (.goto 5, 3) := by decide +kernel
theorem dL_areHours_261 : decode cL_areHours 261 = .ok (.iload 12, 2) := by decide +kernel
theorem dL_areHours_263 : decode cL_areHours 263 = .ok (.istore 12, 2) := by decide +kernel
theorem dL_areHours_265 : decode cL_areHours 265 = .ok (.iinc 13 1, 3) := by decide +kernel
theorem dL_areHours_268 : decode cL_areHours 268 = .ok (.goto (-84), 3) := by decide +kernel
theorem dL_areHours_271 : decode cL_areHours 271 = .ok (.aload_n 0, 1) := by decide +kernel
theorem dL_areHours_272 : decode cL_areHours 272 = .ok (.iload 8, 2) := by decide +kernel
theorem dL_areHours_274 : decode cL_areHours 274 = .ok (.invokevirtual 51, 3) := by decide +kernel
theorem dL_areHours_277 : decode cL_areHours 277 = .ok (.iload 11, 2) := by decide +kernel
theorem dL_areHours_279 : decode cL_areHours 279 = .ok (.if_icmp .eq 5, 3) := by decide +kernel
theorem dL_areHours_282 : decode cL_areHours 282 = .ok (.iconst 0, 1) := by decide +kernel
theorem dL_areHours_283 : decode cL_areHours 283 = .ok (.ireturn, 1) := by decide +kernel
theorem dL_areHours_284 : decode cL_areHours 284 = .ok (.iinc 8 1, 3) := by decide +kernel
theorem dL_areHours_287 : decode cL_areHours 287 = .ok (.goto (-260), 3) := by decide +kernel
theorem dL_areHours_290 : decode cL_areHours 290 = .ok (.aload_n 0, 1) := by decide +kernel
theorem dL_areHours_291 : decode cL_areHours 291 = .ok (.iload_n 2, 1) := by decide +kernel
theorem dL_areHours_292 : decode cL_areHours 292 = .ok (.invokevirtual 54, 3) := by decide +kernel
theorem dL_areHours_295 : decode cL_areHours 295 = .ok (.iload_n 3, 1) := by decide +kernel
theorem dL_areHours_296 : decode cL_areHours 296 = .ok (.if_icmp .ne 17, 3) := by decide +kernel
theorem dL_areHours_299 : decode cL_areHours 299 = .ok (.aload_n 0, 1) := by decide +kernel
theorem dL_areHours_300 : decode cL_areHours 300 = .ok (.iload_n 2, 1) := by decide +kernel
theorem dL_areHours_301 : decode cL_areHours 301 = .ok (.invokevirtual 57, 3) := by decide +kernel
theorem dL_areHours_304 : decode cL_areHours 304 = .ok (.iload 4, 2) := by decide +kernel
theorem dL_areHours_306 : decode cL_areHours 306 = .ok (.if_icmp .ne 7, 3) := by decide +kernel
theorem dL_areHours_309 : decode cL_areHours 309 = .ok (.iconst 1, 1) := by decide +kernel
theorem dL_areHours_310 : decode cL_areHours 310 = .ok (.goto 4, 3) := by decide +kernel
theorem dL_areHours_313 : decode cL_areHours 313 = .ok (.iconst 0, 1) := by decide +kernel
theorem dL_areHours_314 : decode cL_areHours 314 = .ok (.ireturn, 1) := by decide +kernel
theorem dL_isHeard_0 : decode cL_isHeard 0 = .ok (.aload_n 0, 1) := by decide +kernel
theorem dL_isHeard_1 : decode cL_isHeard 1 = .ok (.iload_n 1, 1) := by decide +kernel
theorem dL_isHeard_2 : decode cL_isHeard 2 = .ok (.iload_n 2, 1) := by decide +kernel
theorem dL_isHeard_3 : decode cL_isHeard 3 = .ok (.iload_n 3, 1) := by decide +kernel
theorem dL_isHeard_4 : decode cL_isHeard 4 = .ok (.iload 4, 2) := by decide +kernel
theorem dL_isHeard_6 : decode cL_isHeard 6 = .ok (.invokevirtual 41, 3) := by decide +kernel
theorem dL_isHeard_9 : decode cL_isHeard 9 = .ok (.istore 5, 2) := by decide +kernel
theorem dL_isHeard_11 : decode cL_isHeard 11 = .ok (.aload_n 0, 1) := by decide +kernel
theorem dL_isHeard_12 : decode cL_isHeard 12 = .ok (.iload_n 1, 1) := by decide +kernel
theorem dL_isHeard_13 : decode cL_isHeard 13 = .ok (.iconst 1, 1) := by decide +kernel
theorem dL_isHeard_14 : decode cL_isHeard 14 = .ok (.invokevirtual 35, 3) := by decide +kernel
theorem dL_isHeard_17 : decode cL_isHeard 17 = .ok (.istore 6, 2) := by decide +kernel
