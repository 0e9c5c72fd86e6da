theorem dL_isHeard_19 : decode cL_isHeard 19 = .ok (.aload_n 0, 1) := by decide +kernel
theorem dL_isHeard_20 : decode cL_isHeard 20 = .ok (.iload_n 1, 1) := by decide +kernel
theorem dL_isHeard_21 : decode cL_isHeard 21 = .ok (.iconst 3, 1) := by decide +kernel
theorem dL_isHeard_22 : decode cL_isHeard 22 = .ok (.invokevirtual 35, 3) := by decide +kernel
theorem dL_isHeard_25 : decode cL_isHeard 25 = .ok (.istore 7, 2) := by decide +kernel
theorem dL_isHeard_27 : decode cL_isHeard 27 = .ok (.aload_n 0, 1) := by decide +kernel
theorem dL_isHeard_28 : decode cL_isHeard 28 = .ok (.iload_n 2, 1) := by decide +kernel
theorem dL_isHeard_29 : decode cL_isHeard 29 = .ok (.iconst 5, 1) := by decide +kernel
theorem dL_isHeard_30 : decode cL_isHeard 30 = .ok (.invokevirtual 8, 3) := by decide +kernel
theorem dL_isHeard_33 : decode cL_isHeard 33 = .ok (.istore 8, 2) := by decide +kernel
theorem dL_isHeard_35 : decode cL_isHeard 35 = .ok (.aload_n 0, 1) := by decide +kernel
theorem dL_isHeard_36 : decode cL_isHeard 36 = .ok (.iconst 2, 1) := by decide +kernel
theorem dL_isHeard_37 : decode cL_isHeard 37 = .ok (.invokevirtual 38, 3) := by decide +kernel
theorem dL_isHeard_40 : decode cL_isHeard 40 = .ok (.istore 9, 2) := by decide +kernel
theorem dL_isHeard_42 : decode cL_isHeard 42 = .ok (.aload_n 0, 1) := by decide +kernel
theorem dL_isHeard_43 : decode cL_isHeard 43 = .ok (.iconst 3, 1) := by decide +kernel
theorem dL_isHeard_44 : decode cL_isHeard 44 = .ok (.invokevirtual 38, 3) := by decide +kernel
theorem dL_isHeard_47 : decode cL_isHeard 47 = .ok (.istore 10, 2) := by decide +kernel
theorem dL_isHeard_49 : decode cL_isHeard 49 = .ok (.aload_n 0, 1) := by decide +kernel
theorem dL_isHeard_50 : decode cL_isHeard 50 = .ok (.iload_n 1, 1) := by decide +kernel
theorem dL_isHeard_51 : decode cL_isHeard 51 = .ok (.iload_n 2, 1) := by decide +kernel
theorem dL_isHeard_52 : decode cL_isHeard 52 = .ok (.iload_n 3, 1) := by decide +kernel
theorem dL_isHeard_53 : decode cL_isHeard 53 = .ok (.iload 4, 2) := by decide +kernel
theorem dL_isHeard_55 : decode cL_isHeard 55 = .ok (.invokevirtual 60, 3) := by decide +kernel
theorem dL_isHeard_58 : decode cL_isHeard 58 = .ok (.istore 11, 2) := by decide +kernel
theorem dL_isHeard_60 : decode cL_isHeard 60 = .ok (.iload 5, 2) := by decide +kernel
theorem dL_isHeard_62 : decode cL_isHeard 62 = .ok (.ifCond .le 80, 3) := by decide +kernel
theorem dL_isHeard_65 : decode cL_isHeard 65 = .ok (.iload 5, 2) := by decide +kernel
theorem dL_isHeard_67 : decode cL_isHeard 67 = .ok (.iconst 3, 1) := by decide +kernel
theorem dL_isHeard_68 : decode cL_isHeard 68 = .ok (.if_icmp .le 7, 3) := by decide +kernel
theorem dL_isHeard_71 : decode cL_isHeard 71 = .ok (.iconst 1, 1) := by decide +kernel
theorem dL_isHeard_72 : decode cL_isHeard 72 = .ok (.goto 4, 3) := by decide +kernel
theorem dL_isHeard_75 : decode cL_isHeard 75 = .ok (.iconst 0, 1) := by decide +kernel
theorem dL_isHeard_76 : decode cL_isHeard 76 = .ok (.istore 12, 2) := by decide +kernel
theorem dL_isHeard_78 : decode cL_isHeard 78 = .ok (.iload 11, 2) := by decide +kernel
theorem dL_isHeard_80 : decode cL_isHeard 80 = .ok (.bipush (-10), 2) := by decide +kernel
theorem dL_isHeard_82 : decode cL_isHeard 82 = .ok (.iload 5, 2) := by decide +kernel
theorem dL_isHeard_84 : decode cL_isHeard 84 = .ok (.isub, 1) := by decide +kernel
theorem dL_isHeard_85 : decode cL_isHeard 85 = .ok (.if_icmp .ne 55, 3) := by decide +kernel
theorem dL_isHeard_88 : decode cL_isHeard 88 = .ok (.aload_n 0, 1) := by decide +kernel
theorem dL_isHeard_89 : decode cL_isHeard 89 = .ok (.iload_n 1, 1) := by decide +kernel
theorem dL_isHeard_90 : decode cL_isHeard 90 = .ok (.iconst 1, 1) := by decide +kernel
theorem dL_isHeard_91 : decode cL_isHeard 91 = .ok (.invokevirtual 35, 3) := by decide +kernel
theorem dL_isHeard_94 : decode cL_isHeard 94 = .ok (.iload 6, 2) := by decide +kernel
theorem dL_isHeard_96 : decode cL_isHeard 96 = .ok (.iload 12, 2) := by decide +kernel
theorem dL_isHeard_98 : decode cL_isHeard 98 = .ok (.iadd, 1) := by decide +kernel
theorem dL_isHeard_99 : decode cL_isHeard 99 = .ok (.if_icmp .ne 41, 3) := by decide +kernel
theorem dL_isHeard_102 : decode cL_isHeard 102 = .ok (.aload_n 0, 1) := by decide +kernel
theorem dL_isHeard_103 : decode cL_isHeard 103 = .ok (.iconst 3, 1) := by decide +kernel
theorem dL_isHeard_104 : decode cL_isHeard 104 = .ok (.invokevirtual 38, 3) := by decide +kernel
theorem dL_isHeard_107 : decode cL_isHeard 107 = .ok (.iload 10, 2) := by decide +kernel
theorem dL_isHeard_109 : decode cL_isHeard 109 = .ok (.iload 12, 2) := by decide +kernel
theorem dL_isHeard_111 : decode cL_isHeard 111 = .ok (.iadd, 1) := by decide +kernel
theorem dL_isHeard_112 : decode cL_isHeard 112 = .ok (.if_icmp .ne 28, 3) := by decide +kernel
theorem dL_isHeard_115 : decode cL_isHeard 115 = .ok (.aload_n 0, 1) := by decide +kernel
theorem dL_isHeard_116 : decode cL_isHeard 116 = .ok (.iload_n 1, 1) := by decide +kernel
theorem dL_isHeard_117 : decode cL_isHeard 117 = .ok (.iconst 3, 1) := by decide +kernel
theorem dL_isHeard_118 : decode cL_isHeard 118 = .ok (.invokevirtual 35, 3) := by decide +kernel
theorem dL_isHeard_121 : decode cL_isHeard 121 = .ok (.iload 7, 2) := by decide +kernel
theorem dL_isHeard_123 : decode cL_isHeard 123 = .ok (.if_icmp .ne 17, 3) := by decide +kernel
theorem dL_isHeard_126 : decode cL_isHeard 126 = .ok (.aload_n 0, 1) := by decide +kernel
theorem dL_isHeard_127 : decode cL_isHeard 127 = .ok (.iconst 2, 1) := by decide +kernel
theorem dL_isHeard_128 : decode cL_isHeard 128 = .ok (.invokevirtual 38, 3) := by decide +kernel
theorem dL_isHeard_131 : decode cL_isHeard 131 = .ok (.iload 9, 2) := by decide +kernel
theorem dL_isHeard_133 : decode cL_isHeard 133 = .ok (.if_icmp .ne 7, 3) := by decide +kernel
theorem dL_isHeard_136 : decode cL_isHeard 136 = .ok (.iconst 1, 1) := by decide +kernel
theorem dL_isHeard_137 : decode cL_isHeard 137 = .ok (.goto 4, 3) := by decide +kernel
theorem dL_isHeard_140 : decode cL_isHeard 140 = .ok (.iconst 0, 1) := by decide +kernel
theorem dL_isHeard_141 : decode cL_isHeard 141 = .ok (.ireturn, 1) := by decide +kernel
theorem dL_isHeard_142 : decode cL_isHeard 142 = .ok (.iload 11, 2) := by decide +kernel
theorem dL_isHeard_144 : decode cL_isHeard 144 = .ok (.ifCond .le 95, 3) := by decide +kernel
theorem dL_isHeard_147 : decode cL_isHeard 147 = .ok (.iload 11, 2) := by decide +kernel
theorem dL_isHeard_149 : decode cL_isHeard 149 = .ok (.bipush 20, 2) := by decide +kernel
theorem dL_isHeard_151 : decode cL_isHeard 151 = .ok (.if_icmp .gt 88, 3) := by decide +kernel
theorem dL_isHeard_154 : decode cL_isHeard 154 = .ok (.aload_n 0, 1) := by decide +kernel
theorem dL_isHeard_155 : decode cL_isHeard 155 = .ok (.iload_n 1, 1) := by decide +kernel
theorem dL_isHeard_156 : decode cL_isHeard 156 = .ok (.iconst 3, 1) := by decide +kernel
theorem dL_isHeard_157 : decode cL_isHeard 157 = .ok (.invokevirtual 35, 3) := by decide +kernel
theorem dL_isHeard_160 : decode cL_isHeard 160 = .ok (.iload 7, 2) := by decide +kernel
theorem dL_isHeard_162 : decode cL_isHeard 162 = .ok (.iconst 1, 1) := by decide +kernel
theorem dL_isHeard_163 : decode cL_isHeard 163 = .ok (.iadd, 1) := by decide +kernel
theorem dL_isHeard_164 : decode cL_isHeard 164 = .ok (.if_icmp .ne 75, 3) := by decide +kernel
theorem dL_isHeard_167 : decode cL_isHeard 167 = .ok (.aload_n 0, 1) := by decide +kernel
theorem dL_isHeard_168 : decode cL_isHeard 168 = .ok (.iload_n 2, 1) := by decide +kernel
theorem dL_isHeard_169 : decode cL_isHeard 169 = .ok (.iconst 5, 1) := by decide +kernel
theorem dL_isHeard_170 : decode cL_isHeard 170 = .ok (.invokevirtual 8, 3) := by decide +kernel
theorem dL_isHeard_173 : decode cL_isHeard 173 = .ok (.iload 8, 2) := by decide +kernel
theorem dL_isHeard_175 : decode cL_isHeard 175 = .ok (.iconst 1, 1) := by decide +kernel
theorem dL_isHeard_176 : decode cL_isHeard 176 = .ok (.iadd, 1) := by decide +kernel
theorem dL_isHeard_177 : decode cL_isHeard 177 = .ok (.if_icmp .ne 62, 3) := by decide +kernel
theorem dL_isHeard_180 : decode cL_isHeard 180 = .ok (.aload_n 0, 1) := by decide +kernel
theorem dL_isHeard_181 : decode cL_isHeard 181 = .ok (.iconst 2, 1) := by decide +kernel
theorem dL_isHeard_182 : decode cL_isHeard 182 = .ok (.invokevirtual 38, 3) := by decide +kernel
theorem dL_isHeard_185 : decode cL_isHeard 185 = .ok (.iload 9, 2) := by decide +kernel
theorem dL_isHeard_187 : decode cL_isHeard 187 = .ok (.iconst 1, 1) := by decide +kernel
theorem dL_isHeard_188 : decode cL_isHeard 188 = .ok (.iadd, 1) := by decide +kernel
theorem dL_isHeard_189 : decode cL_isHeard 189 = .ok (.if_icmp .ne 50, 3) := by decide +kernel
theorem dL_isHeard_192 : decode cL_isHeard 192 = .ok (.aload_n 0, 1) := by decide +kernel
theorem dL_isHeard_193 : decode cL_isHeard 193 = .ok (.iload_n 2, 1) := by decide +kernel
theorem dL_isHeard_194 : decode cL_isHeard 194 = .ok (.iconst 2, 1) := by decide +kernel
theorem dL_isHeard_195 : decode cL_isHeard 195 = .ok (.invokevirtual 8, 3) := by decide +kernel
theorem dL_isHeard_198 : decode cL_isHeard 198 = .ok (.iload 4, 2) := by decide +kernel
theorem dL_isHeard_200 : decode cL_isHeard 200 = .ok (.invokestatic 20, 3) := by decide +kernel
theorem dL_isHeard_203 : decode cL_isHeard 203 = .ok (.iload 11, 2) := by decide +kernel
theorem dL_isHeard_205 : decode cL_isHeard 205 = .ok (.aload_n 0, 1) := by decide +kernel
theorem dL_isHeard_206 : decode cL_isHeard 206 = .ok (.bipush 14, 2) := by decide +kernel
theorem dL_isHeard_208 : decode cL_isHeard 208 = .ok (.invokevirtual 38, 3) := by decide +kernel
theorem dL_isHeard_211 : decode cL_isHeard 211 = .ok (.if_icmp .lt 7, 3) := by decide +kernel
theorem dL_isHeard_214 : decode cL_isHeard 214 = .ok (.iconst 1, 1) := by decide +kernel
theorem dL_isHeard_215 : decode cL_isHeard 215 = .ok (.goto 4, 3) := by decide +kernel
theorem dL_isHeard_218 : decode cL_isHeard 218 = .ok (.iconst 0, 1) := by decide +kernel
theorem dL_isHeard_219 : decode cL_isHeard 219 = .ok (.if_icmp .ne 20, 3) := by decide +kernel
theorem dL_isHeard_222 : decode cL_isHeard 222 = .ok (.aload_n 0, 1) := by decide +kernel
theorem dL_isHeard_223 : decode cL_isHeard 223 = .ok (.iload_n 1, 1) := by decide +kernel
theorem dL_isHeard_224 : decode cL_isHeard 224 = .ok (.iload_n 2, 1) := by decide +kernel
theorem dL_isHeard_225 : decode cL_isHeard 225 = .ok (.iload_n 3, 1) := by decide +kernel
theorem dL_isHeard_226 : decode cL_isHeard 226 = .ok (.iload 4, 2) := by decide +kernel
theorem dL_isHeard_228 : decode cL_isHeard 228 = .ok (.invokevirtual 41, 3) := by decide +kernel
theorem dL_isHeard_231 : decode cL_isHeard 231 = .ok (.iconst 2, 1) := by decide +kernel
theorem dL_isHeard_232 : decode cL_isHeard 232 = .ok (.if_icmp .ne 7, 3) := by decide +kernel
theorem dL_isHeard_235 : decode cL_isHeard 235 = .ok (.iconst 1, 1) := by decide +kernel
theorem dL_isHeard_236 : decode cL_isHeard 236 = .ok (.goto 4, 3) := by decide +kernel
theorem dL_isHeard_239 : decode cL_isHeard 239 = .ok (.iconst 0, 1) := by decide +kernel
theorem dL_isHeard_240 : decode cL_isHeard 240 = .ok (.ireturn, 1) := by decide +kernel
theorem dL_isSued_0 : decode cL_isSued 0 = .ok (.aload_n 0, 1) := by decide +kernel
theorem dL_isSued_1 : decode cL_isSued 1 = .ok (.iload_n 2, 1) := by decide +kernel
theorem dL_isSued_2 : decode cL_isSued 2 = .ok (.iconst 2, 1) := by decide +kernel
theorem dL_isSued_3 : decode cL_isSued 3 = .ok (.invokevirtual 8, 3) := by decide +kernel
theorem dL_isSued_6 : decode cL_isSued 6 = .ok (.iload 4, 2) := by decide +kernel
theorem dL_isSued_8 : decode cL_isSued 8 = .ok (.invokestatic 20, 3) := by decide +kernel
theorem dL_isSued_11 : decode cL_isSued 11 = .ok (.istore 5, 2) := by decide +kernel
theorem dL_isSued_13 : decode cL_isSued 13 = .ok (.iconst 0, 1) := by decide +kernel
theorem dL_isSued_14 : decode cL_isSued 14 = .ok (.istore 6, 2) := by decide +kernel
theorem dL_isSued_16 : decode cL_isSued 16 = .ok (.iconst 0, 1) := by decide +kernel
theorem dL_isSued_17 : decode cL_isSued 17 = .ok (.istore 7, 2) := by decide +kernel
theorem dL_isSued_19 : decode cL_isSued 19 = .ok (.iload 7, 2) := by decide +kernel
theorem dL_isSued_21 : decode cL_isSued 21 = .ok (.bipush 24, 2) := by decide +kernel
theorem dL_isSued_23 : decode cL_isSued 23 = .ok (.if_icmp .ge 33, 3) := by decide +kernel
theorem dL_isSued_26 : decode cL_isSued 26 = .ok (.iload 6, 2) := by decide +kernel
theorem dL_isSued_28 : decode cL_isSued 28 = .ok (.aload_n 0, 1) := by decide +kernel
theorem dL_isSued_29 : decode cL_isSued 29 = .ok (.iload_n 2, 1) := by decide +kernel
theorem dL_isSued_30 : decode cL_isSued 30 = .ok (.iconst 2, 1) := by decide +kernel
theorem dL_isSued_31 : decode cL_isSued 31 = .ok (.invokevirtual 8, 3) := by decide +kernel
theorem dL_isSued_34 : decode cL_isSued 34 = .ok (.iload 7, 2) := by decide +kernel
theorem dL_isSued_36 : decode cL_isSued 36 = .ok (.invokestatic 20, 3) := by decide +kernel
theorem dL_isSued_39 : decode cL_isSued 39 = .ok (.ifCond .eq 7, 3) := by decide +kernel
theorem dL_isSued_42 : decode cL_isSued 42 = .ok (.iconst 1, 1) := by decide +kernel
theorem dL_isSued_43 : decode cL_isSued 43 = .ok (.goto 4, 3) := by decide +kernel
theorem dL_isSued_46 : decode cL_isSued 46 = .ok (.iconst 0, 1) := by decide +kernel
theorem dL_isSued_47 : decode cL_isSued 47 = .ok (.iadd, 1) := by decide +kernel
theorem dL_isSued_48 : decode cL_isSued 48 = .ok (.istore 6, 2) := by decide +kernel
theorem dL_isSued_50 : decode cL_isSued 50 = .ok (.iinc 7 1, 3) := by decide +kernel
theorem dL_isSued_53 : decode cL_isSued 53 = .ok (.goto (-34), 3) := by decide +kernel
theorem dL_isSued_56 : decode cL_isSued 56 = .ok (.aload_n 0, 1) := by decide +kernel
theorem dL_isSued_57 : decode cL_isSued 57 = .ok (.iload_n 3, 1) := by decide +kernel
theorem dL_isSued_58 : decode cL_isSued 58 = .ok (.iconst 1, 1) := by decide +kernel
theorem dL_isSued_59 : decode cL_isSued 59 = .ok (.invokevirtual 35, 3) := by decide +kernel
theorem dL_isSued_62 : decode cL_isSued 62 = .ok (.istore 7, 2) := by decide +kernel
theorem dL_isSued_64 : decode cL_isSued 64 = .ok (.aload_n 0, 1) := by decide +kernel
theorem dL_isSued_65 : decode cL_isSued 65 = .ok (.iload_n 3, 1) := by decide +kernel
theorem dL_isSued_66 : decode cL_isSued 66 = .ok (.iconst 3, 1) := by decide +kernel
theorem dL_isSued_67 : decode cL_isSued 67 = .ok (.invokevirtual 35, 3) := by decide +kernel
theorem dL_isSued_70 : decode cL_isSued 70 = .ok (.istore 8, 2) := by decide +kernel
theorem dL_isSued_72 : decode cL_isSued 72 = .ok (.aload_n 0, 1) := by decide +kernel
theorem dL_isSued_73 : decode cL_isSued 73 = .ok (.iload_n 2, 1) := by decide +kernel
theorem dL_isSued_74 : decode cL_isSued 74 = .ok (.iconst 5, 1) := by decide +kernel
theorem dL_isSued_75 : decode cL_isSued 75 = .ok (.invokevirtual 8, 3) := by decide +kernel
theorem dL_isSued_78 : decode cL_isSued 78 = .ok (.istore 9, 2) := by decide +kernel
theorem dL_isSued_80 : decode cL_isSued 80 = .ok (.aload_n 0, 1) := by decide +kernel
theorem dL_isSued_81 : decode cL_isSued 81 = .ok (.iconst 4, 1) := by decide +kernel
theorem dL_isSued_82 : decode cL_isSued 82 = .ok (.invokevirtual 38, 3) := by decide +kernel
theorem dL_isSued_85 : decode cL_isSued 85 = .ok (.istore 10, 2) := by decide +kernel
theorem dL_isSued_87 : decode cL_isSued 87 = .ok (.aload_n 0, 1) := by decide +kernel
theorem dL_isSued_88 : decode cL_isSued 88 = .ok (.iconst 5, 1) := by decide +kernel
theorem dL_isSued_89 : decode cL_isSued 89 = .ok (.invokevirtual 38, 3) := by decide +kernel
theorem dL_isSued_92 : decode cL_isSued 92 = .ok (.istore 11, 2) := by decide +kernel
theorem dL_isSued_94 : decode cL_isSued 94 = .ok (.aload_n 1, 1) := by decide +kernel
theorem dL_isSued_95 : decode cL_isSued 95 = .ok (.iload 4, 2) := by decide +kernel
theorem dL_isSued_97 : decode cL_isSued 97 = .ok (.iaload, 1) := by decide +kernel
theorem dL_isSued_98 : decode cL_isSued 98 = .ok (.iload 6, 2) := by decide +kernel
theorem dL_isSued_100 : decode cL_isSued 100 = .ok (.imul, 1) := by decide +kernel
theorem dL_isSued_101 : decode cL_isSued 101 = .ok (.aload_n 0, 1) := by decide +kernel
theorem dL_isSued_102 : decode cL_isSued 102 = .ok (.bipush 15, 2) := by decide +kernel
theorem dL_isSued_104 : decode cL_isSued 104 = .ok (.invokevirtual 38, 3) := by decide +kernel
theorem dL_isSued_107 : decode cL_isSued 107 = .ok (.if_icmp .le 7, 3) := by decide +kernel
theorem dL_isSued_110 : decode cL_isSued 110 = .ok (.iconst 1, 1) := by decide +kernel
theorem dL_isSued_111 : decode cL_isSued 111 = .ok (.goto 4, 3) := by decide +kernel
theorem dL_isSued_114 : decode cL_isSued 114 = .ok (.iconst 0, 1) := by decide +kernel
theorem dL_isSued_115 : decode cL_isSued 115 = .ok (.istore 12, 2) := by decide +kernel
theorem dL_isSued_117 : decode cL_isSued 117 = .ok (.aload_n 0, 1) := by decide +kernel
theorem dL_isSued_118 : decode cL_isSued 118 = .ok (.iload_n 2, 1) := by decide +kernel
theorem dL_isSued_119 : decode cL_isSued 119 = .ok (.iload_n 3, 1) := by decide +kernel
theorem dL_isSued_120 : decode cL_isSued 120 = .ok (.iload 4, 2) := by decide +kernel
theorem dL_isSued_122 : decode cL_isSued 122 = .ok (.invokevirtual 63, 3) := by decide +kernel
theorem dL_isSued_125 : decode cL_isSued 125 = .ok (.istore 13, 2) := by decide +kernel
theorem dL_isSued_127 : decode cL_isSued 127 = .ok (.iload 13, 2) := by decide +kernel
theorem dL_isSued_129 : decode cL_isSued 129 = .ok (.ifCond .ge 37, 3) := by decide +kernel
theorem dL_isSued_132 : decode cL_isSued 132 = .ok (.iload 13, 2) := by decide +kernel
theorem dL_isSued_134 : decode cL_isSued 134 = .ok (.bipush (-4), 2) := by decide +kernel
theorem dL_isSued_136 : decode cL_isSued 136 = .ok (.if_icmp .ne 28, 3) := by decide +kernel
theorem dL_isSued_139 : decode cL_isSued 139 = .ok (.aload_n 0, 1) := by decide +kernel
theorem dL_isSued_140 : decode cL_isSued 140 = .ok (.iconst 4, 1) := by decide +kernel
theorem dL_isSued_141 : decode cL_isSued 141 = .ok (.invokevirtual 38, 3) := by decide +kernel
theorem dL_isSued_144 : decode cL_isSued 144 = .ok (.iload 10, 2) := by decide +kernel
theorem dL_isSued_146 : decode cL_isSued 146 = .ok (.if_icmp .ne 18, 3) := by decide +kernel
theorem dL_isSued_149 : decode cL_isSued 149 = .ok (.aload_n 0, 1) := by decide +kernel
theorem dL_isSued_150 : decode cL_isSued 150 = .ok (.iload_n 3, 1) := by decide +kernel
theorem dL_isSued_151 : decode cL_isSued 151 = .ok (.iconst 3, 1) := by decide +kernel
theorem dL_isSued_152 : decode cL_isSued 152 = .ok (.invokevirtual 35, 3) := by decide +kernel
theorem dL_isSued_155 : decode cL_isSued 155 = .ok (.iload 8, 2) := by decide +kernel
theorem dL_isSued_157 : decode cL_isSued 157 = .ok (.if_icmp .ne 7, 3) := by decide +kernel
theorem dL_isSued_160 : decode cL_isSued 160 = .ok (.iconst 1, 1) := by decide +kernel
theorem dL_isSued_161 : decode cL_isSued 161 = .ok (.goto 4, 3) := by decide +kernel
theorem dL_isSued_164 : decode cL_isSued 164 = .ok (.iconst 0, 1) := by decide +kernel
theorem dL_isSued_165 : decode cL_isSued 165 = .ok (.ireturn, 1) := by decide +kernel
theorem dL_isSued_166 : decode cL_isSued 166 = .ok (.iload 8, 2) := by decide +kernel
theorem dL_isSued_168 : decode cL_isSued 168 = .ok (.aload_n 0, 1) := by decide +kernel
theorem dL_isSued_169 : decode cL_isSued 169 = .ok (.iload_n 3, 1) := by decide +kernel
theorem dL_isSued_170 : decode cL_isSued 170 = .ok (.iconst 3, 1) := by decide +kernel
theorem dL_isSued_171 : decode cL_isSued 171 = .ok (.invokevirtual 35, 3) := by decide +kernel
theorem dL_isSued_174 : decode cL_isSued 174 = .ok (.isub, 1) := by decide +kernel
theorem dL_isSued_175 : decode cL_isSued 175 = .ok (.istore 14, 2) := by decide +kernel
theorem dL_isSued_177 : decode cL_isSued 177 = .ok (.iload 5, 2) := by decide +kernel
theorem dL_isSued_179 : decode cL_isSued 179 = .ok (.ifCond .eq 118, 3) := by decide +kernel
theorem dL_isSued_182 : decode cL_isSued 182 = .ok (.iload 13, 2) := by decide +kernel
theorem dL_isSued_184 : decode cL_isSued 184 = .ok (.iload 12, 2) := by decide +kernel
theorem dL_isSued_186 : decode cL_isSued 186 = .ok (.ifCond .eq 7, 3) := by decide +kernel
theorem dL_isSued_189 : decode cL_isSued 189 = .ok (.iconst 1, 1) := by decide +kernel
theorem dL_isSued_190 : decode cL_isSued 190 = .ok (.goto 4, 3) := by decide +kernel
theorem dL_isSued_193 : decode cL_isSued 193 = .ok (.iconst 0, 1) := by decide +kernel
theorem dL_isSued_194 : decode cL_isSued 194 = .ok (.if_icmp .ne 103, 3) := by decide +kernel
theorem dL_isSued_197 : decode cL_isSued 197 = .ok (.aload_n 0, 1) := by decide +kernel
theorem dL_isSued_198 : decode cL_isSued 198 = .ok (.iconst 4, 1) := by decide +kernel
theorem dL_isSued_199 : decode cL_isSued 199 = .ok (.invokevirtual 38, 3) := by decide +kernel
theorem dL_isSued_202 : decode cL_isSued 202 = .ok (.iload 10, 2) := by decide +kernel
theorem dL_isSued_204 : decode cL_isSued 204 = .ok (.iconst 1, 1) := by decide +kernel
theorem dL_isSued_205 : decode cL_isSued 205 = .ok (.iadd, 1) := by decide +kernel
theorem dL_isSued_206 : decode cL_isSued 206 = .ok (.if_icmp .ne 91, 3) := by decide +kernel
theorem dL_isSued_209 : decode cL_isSued 209 = .ok (.aload_n 0, 1) := by decide +kernel
theorem dL_isSued_210 : decode cL_isSued 210 = .ok (.iconst 5, 1) := by decide +kernel
theorem dL_isSued_211 : decode cL_isSued 211 = .ok (.invokevirtual 38, 3) := by decide +kernel
theorem dL_isSued_214 : decode cL_isSued 214 = .ok (.iload 11, 2) := by decide +kernel
theorem dL_isSued_216 : decode cL_isSued 216 = .ok (.iload 13, 2) := by decide +kernel
theorem dL_isSued_218 : decode cL_isSued 218 = .ok (.iadd, 1) := by decide +kernel
theorem dL_isSued_219 : decode cL_isSued 219 = .ok (.if_icmp .ne 78, 3) := by decide +kernel
theorem dL_isSued_222 : decode cL_isSued 222 = .ok (.aload_n 0, 1) := by decide +kernel
theorem dL_isSued_223 : decode cL_isSued 223 = .ok (.iload_n 3, 1) := by decide +kernel
theorem dL_isSued_224 : decode cL_isSued 224 = .ok (.iconst 1, 1) := by decide +kernel
theorem dL_isSued_225 : decode cL_isSued 225 = .ok (.invokevirtual 35, 3) := by decide +kernel
theorem dL_isSued_228 : decode cL_isSued 228 = .ok (.iload 7, 2) := by decide +kernel
theorem dL_isSued_230 : decode cL_isSued 230 = .ok (.iload 13, 2) := by decide +kernel
theorem dL_isSued_232 : decode cL_isSued 232 = .ok (.iadd, 1) := by decide +kernel
theorem dL_isSued_233 : decode cL_isSued 233 = .ok (.if_icmp .ne 64, 3) := by decide +kernel
theorem dL_isSued_236 : decode cL_isSued 236 = .ok (.iload 12, 2) := by decide +kernel
theorem dL_isSued_238 : decode cL_isSued 238 = .ok (.ifCond .eq 17, 3) := by decide +kernel
theorem dL_isSued_241 : decode cL_isSued 241 = .ok (.iload 14, 2) := by decide +kernel
theorem dL_isSued_243 : decode cL_isSued 243 = .ok (.ifCond .le 54, 3) := by decide +kernel
theorem dL_isSued_246 : decode cL_isSued 246 = .ok (.iload 14, 2) := by decide +kernel
theorem dL_isSued_248 : decode cL_isSued 248 = .ok (.iconst 3, 1) := by decide +kernel
theorem dL_isSued_249 : decode cL_isSued 249 = .ok (.if_icmp .ge 48, 3) := by decide +kernel
theorem dL_isSued_252 : decode cL_isSued 252 = .ok (.goto 8, 3) := by decide +kernel
theorem dL_isSued_255 : decode cL_isSued 255 = .ok (.iload 14, 2) := by decide +kernel
theorem dL_isSued_257 : decode cL_isSued 257 = .ok (.ifCond .ne 40, 3) := by decide +kernel
theorem dL_isSued_260 : decode cL_isSued 260 = .ok (.aload_n 0, 1) := by decide +kernel
theorem dL_isSued_261 : decode cL_isSued 261 = .ok (.iload_n 2, 1) := by decide +kernel
theorem dL_isSued_262 : decode cL_isSued 262 = .ok (.iconst 5, 1) := by decide +kernel
theorem dL_isSued_263 : decode cL_isSued 263 = .ok (.invokevirtual 8, 3) := by decide +kernel
theorem dL_isSued_266 : decode cL_isSued 266 = .ok (.iload 9, 2) := by decide +kernel
theorem dL_isSued_268 : decode cL_isSued 268 = .ok (.iload 14, 2) := by decide +kernel
theorem dL_isSued_270 : decode cL_isSued 270 = .ok (.isub, 1) := by decide +kernel
theorem dL_isSued_271 : decode cL_isSued 271 = .ok (.if_icmp .ne 26, 3) := by decide +kernel
theorem dL_isSued_274 : decode cL_isSued 274 = .ok (.iload 12, 2) := by decide +kernel
theorem dL_isSued_276 : decode cL_isSued 276 = .ok (.ifCond .ne 17, 3) := by decide +kernel
theorem dL_isSued_279 : decode cL_isSued 279 = .ok (.aload_n 0, 1) := by decide +kernel
theorem dL_isSued_280 : decode cL_isSued 280 = .ok (.iload_n 2, 1) := by decide +kernel
theorem dL_isSued_281 : decode cL_isSued 281 = .ok (.iconst 2, 1) := by decide +kernel
theorem dL_isSued_282 : decode cL_isSued 282 = .ok (.invokevirtual 8, 3) := by decide +kernel
theorem dL_isSued_285 : decode cL_isSued 285 = .ok (.iload 4, 2) := by decide +kernel
theorem dL_isSued_287 : decode cL_isSued 287 = .ok (.invokestatic 20, 3) := by decide +kernel
theorem dL_isSued_290 : decode cL_isSued 290 = .ok (.ifCond .eq 7, 3) := by decide +kernel
theorem dL_isSued_293 : decode cL_isSued 293 = .ok (.iconst 1, 1) := by decide +kernel
theorem dL_isSued_294 : decode cL_isSued 294 = .ok (.goto 4, 3) := by decide +kernel
theorem dL_isSued_297 : decode cL_isSued 297 = .ok (.iconst 0, 1) := by decide +kernel
theorem dL_isSued_298 : decode cL_isSued 298 = .ok (.ireturn, 1) := by decide +kernel
theorem dL_isVoted_0 : decode cL_isVoted 0 = .ok (.aload_n 0, 1) := by decide +kernel
theorem dL_isVoted_1 : decode cL_isVoted 1 = .ok (.iload_n 1, 1) := by decide +kernel
theorem dL_isVoted_2 : decode cL_isVoted 2 = .ok (.iconst 2, 1) := by decide +kernel
theorem dL_isVoted_3 : decode cL_isVoted 3 = .ok (.invokevirtual 8, 3) := by decide +kernel
theorem dL_isVoted_6 : decode cL_isVoted 6 = .ok (.istore_n 3, 1) := by decide +kernel
theorem dL_isVoted_7 : decode cL_isVoted 7 = .ok (.aload_n 0, 1) := by decide +kernel
theorem dL_isVoted_8 : decode cL_isVoted 8 = .ok (.iload_n 1, 1) := by decide +kernel
theorem dL_isVoted_9 : decode cL_isVoted 9 = .ok (.iload_n 2, 1) := by decide +kernel
theorem dL_isVoted_10 : decode cL_isVoted 10 = .ok (.invokevirtual 48, 3) := by decide +kernel
theorem dL_isVoted_13 : decode cL_isVoted 13 = .ok (.istore 4, 2) := by decide +kernel
theorem dL_isVoted_15 : decode cL_isVoted 15 = .ok (.aload_n 0, 1) := by decide +kernel
theorem dL_isVoted_16 : decode cL_isVoted 16 = .ok (.bipush 6, 2) := by decide +kernel
theorem dL_isVoted_18 : decode cL_isVoted 18 = .ok (.invokevirtual 38, 3) := by decide +kernel
theorem dL_isVoted_21 : decode cL_isVoted 21 = .ok (.istore 5, 2) := by decide +kernel
theorem dL_isVoted_23 : decode cL_isVoted 23 = .ok (.aload_n 0, 1) := by decide +kernel
theorem dL_isVoted_24 : decode cL_isVoted 24 = .ok (.bipush 7, 2) := by decide +kernel
theorem dL_isVoted_26 : decode cL_isVoted 26 = .ok (.invokevirtual 38, 3) := by decide +kernel
theorem dL_isVoted_29 : decode cL_isVoted 29 = .ok (.istore 6, 2) := by decide +kernel
theorem dL_isVoted_31 : decode cL_isVoted 31 = .ok (.aload_n 0, 1) := by decide +kernel
theorem dL_isVoted_32 : decode cL_isVoted 32 = .ok (.iconst 1, 1) := by decide +kernel
theorem dL_isVoted_33 : decode cL_isVoted 33 = .ok (.invokevirtual 38, 3) := by decide +kernel
theorem dL_isVoted_36 : decode cL_isVoted 36 = .ok (.istore 7, 2) := by decide +kernel
theorem dL_isVoted_38 : decode cL_isVoted 38 = .ok (.aload_n 0, 1) := by decide +kernel
theorem dL_isVoted_39 : decode cL_isVoted 39 = .ok (.iload_n 1, 1) := by decide +kernel
theorem dL_isVoted_40 : decode cL_isVoted 40 = .ok (.iload_n 2, 1) := by decide +kernel
theorem dL_isVoted_41 : decode cL_isVoted 41 = .ok (.invokevirtual 66, 3) := by decide +kernel
theorem dL_isVoted_44 : decode cL_isVoted 44 = .ok (.istore 8, 2) := by decide +kernel
theorem dL_isVoted_46 : decode cL_isVoted 46 = .ok (.iload_n 3, 1) := by decide +kernel
theorem dL_isVoted_47 : decode cL_isVoted 47 = .ok (.iload_n 2, 1) := by decide +kernel
theorem dL_isVoted_48 : decode cL_isVoted 48 = .ok (.invokestatic 20, 3) := by decide +kernel
theorem dL_isVoted_51 : decode cL_isVoted 51 = .ok (.ifCond .eq 8, 3) := by decide +kernel
theorem dL_isVoted_54 : decode cL_isVoted 54 = .ok (.iload 7, 2) := by decide +kernel
theorem dL_isVoted_56 : decode cL_isVoted 56 = .ok (.ifCond .ne 27, 3) := by decide +kernel
theorem dL_isVoted_59 : decode cL_isVoted 59 = .ok (.iload 8, 2) := by decide +kernel
theorem dL_isVoted_61 : decode cL_isVoted 61 = .ok (.bipush (-4), 2) := by decide +kernel
theorem dL_isVoted_63 : decode cL_isVoted 63 = .ok (.if_icmp .ne 18, 3) := by decide +kernel
theorem dL_isVoted_66 : decode cL_isVoted 66 = .ok (.aload_n 0, 1) := by decide +kernel
theorem dL_isVoted_67 : decode cL_isVoted 67 = .ok (.bipush 6, 2) := by decide +kernel
theorem dL_isVoted_69 : decode cL_isVoted 69 = .ok (.invokevirtual 38, 3) := by decide +kernel
theorem dL_isVoted_72 : decode cL_isVoted 72 = .ok (.iload 5, 2) := by decide +kernel
theorem dL_isVoted_74 : decode cL_isVoted 74 = .ok (.if_icmp .ne 7, 3) := by decide +kernel
theorem dL_isVoted_77 : decode cL_isVoted 77 = .ok (.iconst 1, 1) := by decide +kernel
theorem dL_isVoted_78 : decode cL_isVoted 78 = .ok (.goto 4, 3) := by decide +kernel
theorem dL_isVoted_81 : decode cL_isVoted 81 = .ok (.iconst 0, 1) := by decide +kernel
theorem dL_isVoted_82 : decode cL_isVoted 82 = .ok (.ireturn, 1) := by decide +kernel
theorem dL_isVoted_83 : decode cL_isVoted 83 = .ok (.iconst 2, 1) := by decide +kernel
theorem dL_isVoted_84 : decode cL_isVoted 84 = .ok (.iload 4, 2) := by decide +kernel
theorem dL_isVoted_86 : decode cL_isVoted 86 = .ok (.imul, 1) := by decide +kernel
theorem dL_isVoted_87 : decode cL_isVoted 87 = .ok (.iload 7, 2) := by decide +kernel
theorem dL_isVoted_89 : decode cL_isVoted 89 = .ok (.if_icmp .le 7, 3) := by decide +kernel
theorem dL_isVoted_92 : decode cL_isVoted 92 = .ok (.iconst 1, 1) := by decide +kernel
theorem dL_isVoted_93 : decode cL_isVoted 93 = .ok (.goto 4, 3) := by decide +kernel
theorem dL_isVoted_96 : decode cL_isVoted 96 = .ok (.iconst 0, 1) := by decide +kernel
theorem dL_isVoted_97 : decode cL_isVoted 97 = .ok (.istore 9, 2) := by decide +kernel
theorem dL_isVoted_99 : decode cL_isVoted 99 = .ok (.iload 8, 2) := by decide +kernel
theorem dL_isVoted_101 : decode cL_isVoted 101 = .ok (.iload 4, 2) := by decide +kernel
theorem dL_isVoted_103 : decode cL_isVoted 103 = .ok (.if_icmp .ne 65, 3) := by decide +kernel
theorem dL_isVoted_106 : decode cL_isVoted 106 = .ok (.aload_n 0, 1) := by decide +kernel
theorem dL_isVoted_107 : decode cL_isVoted 107 = .ok (.bipush 6, 2) := by decide +kernel
theorem dL_isVoted_109 : decode cL_isVoted 109 = .ok (.invokevirtual 38, 3) := by decide +kernel
theorem dL_isVoted_112 : decode cL_isVoted 112 = .ok (.iload 5, 2) := by decide +kernel
theorem dL_isVoted_114 : decode cL_isVoted 114 = .ok (.iconst 1, 1) := by decide +kernel
theorem dL_isVoted_115 : decode cL_isVoted 115 = .ok (.iadd, 1) := by decide +kernel
theorem dL_isVoted_116 : decode cL_isVoted 116 = .ok (.if_icmp .ne 52, 3) := by decide +kernel
theorem dL_isVoted_119 : decode cL_isVoted 119 = .ok (.aload_n 0, 1) := by decide +kernel
theorem dL_isVoted_120 : decode cL_isVoted 120 = .ok (.bipush 7, 2) := by decide +kernel
theorem dL_isVoted_122 : decode cL_isVoted 122 = .ok (.invokevirtual 38, 3) := by decide +kernel
theorem dL_isVoted_125 : decode cL_isVoted 125 = .ok (.iload 6, 2) := by decide +kernel
theorem dL_isVoted_127 : decode cL_isVoted 127 = .ok (.iload 9, 2) := by decide +kernel
theorem dL_isVoted_129 : decode cL_isVoted 129 = .ok (.ifCond .eq 7, 3) := by decide +kernel
theorem dL_isVoted_132 : decode cL_isVoted 132 = .ok (.iconst 1, 1) := by decide +kernel
theorem dL_isVoted_133 : decode cL_isVoted 133 = .ok (.goto 4, 3) := by decide +kernel
theorem dL_isVoted_136 : decode cL_isVoted 136 = .ok (.iconst 0, 1) := by decide +kernel
theorem dL_isVoted_137 : decode cL_isVoted 137 = .ok (.iadd, 1) := by decide +kernel
theorem dL_isVoted_138 : decode cL_isVoted 138 = .ok (.if_icmp .ne 30, 3) := by decide +kernel
theorem dL_isVoted_141 : decode cL_isVoted 141 = .ok (.aload_n 0, 1) := by decide +kernel
theorem dL_isVoted_142 : decode cL_isVoted 142 = .ok (.iload_n 1, 1) := by decide +kernel
theorem dL_isVoted_143 : decode cL_isVoted 143 = .ok (.iconst 2, 1) := by decide +kernel
theorem dL_isVoted_144 : decode cL_isVoted 144 = .ok (.invokevirtual 8, 3) := by decide +kernel
theorem dL_isVoted_147 : decode cL_isVoted 147 = .ok (.iload 9, 2) := by decide +kernel
theorem dL_isVoted_149 : decode cL_isVoted 149 = .ok (.ifCond .eq 11, 3) := by decide +kernel
theorem dL_isVoted_152 : decode cL_isVoted 152 = .ok (.iload_n 3, 1) := by decide +kernel
theorem dL_isVoted_153 : decode cL_isVoted 153 = .ok (.iconst 1, 1) := by decide +kernel
theorem dL_isVoted_154 : decode cL_isVoted 154 = .ok (.iload_n 2, 1) := by decide +kernel
theorem dL_isVoted_155 : decode cL_isVoted 155 = .ok (.ishl, 1) := by decide +kernel
theorem dL_isVoted_156 : decode cL_isVoted 156 = .ok (.isub, 1) := by decide +kernel
theorem dL_isVoted_157 : decode cL_isVoted 157 = .ok (.goto 4, 3) := by decide +kernel
theorem dL_isVoted_160 : decode cL_isVoted 160 = .ok (.iload_n 3, 1) := by decide +kernel
theorem dL_isVoted_161 : decode cL_isVoted 161 = .ok (.if_icmp .ne 7, 3) := by decide +kernel
theorem dL_isVoted_164 : decode cL_isVoted 164 = .ok (.iconst 1, 1) := by decide +kernel
theorem dL_isVoted_165 : decode cL_isVoted 165 = .ok (.goto 4, 3) := by decide +kernel
theorem dL_isVoted_168 : decode cL_isVoted 168 = .ok (.iconst 0, 1) := by decide +kernel
theorem dL_isVoted_169 : decode cL_isVoted 169 = .ok (.ireturn, 1) := by decide +kernel
theorem dL_does_0 : decode cL_does 0 = .ok (.aload_n 0, 1) := by decide +kernel
theorem dL_does_1 : decode cL_does 1 = .ok (.iconst 0, 1) := by decide +kernel
theorem dL_does_2 : decode cL_does 2 = .ok (.invokevirtual 38, 3) := by decide +kernel
theorem dL_does_5 : decode cL_does 5 = .ok (.istore 4, 2) := by decide +kernel
theorem dL_does_7 : decode cL_does 7 = .ok (.aload_n 0, 1) := by decide +kernel
theorem dL_does_8 : decode cL_does 8 = .ok (.iconst 1, 1) := by decide +kernel
theorem dL_does_9 : decode cL_does 9 = .ok (.invokevirtual 38, 3) := by decide +kernel
theorem dL_does_12 : decode cL_does 12 = .ok (.istore 5, 2) := by decide +kernel
theorem dL_does_14 : decode cL_does 14 = .ok (.iload_n 3, 1) := by decide +kernel
theorem dL_does_15 : decode cL_does 15 = .ok (.bipush 96, 2) := by decide +kernel
theorem dL_does_17 : decode cL_does 17 = .ok (.invokestatic 69, 3) := by decide +kernel
theorem dL_does_20 : decode cL_does 20 = .ok (.istore 6, 2) := by decide +kernel
theorem dL_does_22 : decode cL_does 22 = .ok (.aload_n 0, 1) := by decide +kernel
theorem dL_does_23 : decode cL_does 23 = .ok (.iload 6, 2) := by decide +kernel
theorem dL_does_25 : decode cL_does 25 = .ok (.iconst 0, 1) := by decide +kernel
theorem dL_does_26 : decode cL_does 26 = .ok (.invokevirtual 32, 3) := by decide +kernel
theorem dL_does_29 : decode cL_does 29 = .ok (.ifCond .ge 13, 3) := by decide +kernel
theorem dL_does_32 : decode cL_does 32 = .ok (.aload_n 0, 1) := by decide +kernel
theorem dL_does_33 : decode cL_does 33 = .ok (.iload 6, 2) := by decide +kernel
theorem dL_does_35 : decode cL_does 35 = .ok (.iconst 1, 1) := by decide +kernel
theorem dL_does_36 : decode cL_does 36 = .ok (.invokevirtual 32, 3) := by decide +kernel
theorem dL_does_39 : decode cL_does 39 = .ok (.ifCond .lt 7, 3) := by decide +kernel
theorem dL_does_42 : decode cL_does 42 = .ok (.iconst 1, 1) := by decide +kernel
theorem dL_does_43 : decode cL_does 43 = .ok (.goto 4, 3) := by decide +kernel
theorem dL_does_46 : decode cL_does 46 = .ok (.iconst 0, 1) := by decide +kernel
theorem dL_does_47 : decode cL_does 47 = .ok (.istore 7, 2) := by decide +kernel
theorem dL_does_49 : decode cL_does 49 = .ok (.iload_n 3, 1) := by decide +kernel
theorem dL_does_50 : decode cL_does 50 = .ok (.iconst 4, 1) := by decide +kernel
theorem dL_does_51 : decode cL_does 51 = .ok (.ishr, 1) := by decide +kernel
theorem dL_does_52 : decode cL_does 52 = .ok (.bipush 24, 2) := by decide +kernel
theorem dL_does_54 : decode cL_does 54 = .ok (.invokestatic 69, 3) := by decide +kernel
theorem dL_does_57 : decode cL_does 57 = .ok (.istore 8, 2) := by decide +kernel
theorem dL_does_59 : decode cL_does 59 = .ok (.iload 4, 2) := by decide +kernel
theorem dL_does_61 : decode cL_does 61 = .ok (.ifCond .ne 7, 3) := by decide +kernel
theorem dL_does_64 : decode cL_does 64 = .ok (.iconst 0, 1) := by decide +kernel
theorem dL_does_65 : decode cL_does 65 = .ok (.goto 11, 3) := by decide +kernel
theorem dL_does_68 : decode cL_does 68 = .ok (.iload_n 2, 1) := by decide +kernel
theorem dL_does_69 : decode cL_does 69 = .ok (.iconst 5, 1) := by decide +kernel
theorem dL_does_70 : decode cL_does 70 = .ok (.ishr, 1) := by decide +kernel
theorem dL_does_71 : decode cL_does 71 = .ok (.iload 4, 2) := by decide +kernel
theorem dL_does_73 : decode cL_does 73 = .ok (.invokestatic 69, 3) := by decide +kernel
theorem dL_does_76 : decode cL_does 76 = .ok (.istore 9, 2) := by decide +kernel
theorem dL_does_78 : decode cL_does 78 = .ok (.iload 5, 2) := by decide +kernel
theorem dL_does_80 : decode cL_does 80 = .ok (.ifCond .ne 7, 3) := by decide +kernel
theorem dL_does_83 : decode cL_does 83 = .ok (.iconst 0, 1) := by decide +kernel
theorem dL_does_84 : decode cL_does 84 = .ok (.goto 12, 3) := by decide +kernel
theorem dL_does_87 : decode cL_does 87 = .ok (.iload_n 2, 1) := by decide +kernel
theorem dL_does_88 : decode cL_does 88 = .ok (.bipush 8, 2) := by decide +kernel
theorem dL_does_90 : decode cL_does 90 = .ok (.ishr, 1) := by decide +kernel
theorem dL_does_91 : decode cL_does 91 = .ok (.iload 5, 2) := by decide +kernel
theorem dL_does_93 : decode cL_does 93 = .ok (.invokestatic 69, 3) := by decide +kernel
theorem dL_does_96 : decode cL_does 96 = .ok (.istore 10, 2) := by decide +kernel
theorem dL_does_98 : decode cL_does 98 = .ok (.iload_n 2, 1) := by decide +kernel
theorem dL_does_99 : decode cL_does 99 = .ok (.bipush 18, 2) := by decide +kernel
theorem dL_does_101 : decode cL_does 101 = .ok (.invokestatic 69, 3) := by decide +kernel
theorem dL_does_104 : decode cL_does 104 = .ok (.tableswitch 429 0 11 #[64, 64, 112, 112, 112, 151, 151, 262, 366, 366, 396, 396], 64) := by decide +kernel
theorem dL_does_168 : decode cL_does 168 = .ok (.aload_n 0, 1) := by decide +kernel
theorem dL_does_169 : decode cL_does 169 = .ok (.iconst 1, 1) := by decide +kernel
theorem dL_does_170 : decode cL_does 170 = .ok (.iload_n 3, 1) := by decide +kernel
theorem dL_does_171 : decode cL_does 171 = .ok (.bipush 7, 2) := by decide +kernel
theorem dL_does_173 : decode cL_does 173 = .ok (.ishr, 1) := by decide +kernel
theorem dL_does_174 : decode cL_does 174 = .ok (.iconst 5, 1) := by decide +kernel
theorem dL_does_175 : decode cL_does 175 = .ok (.invokestatic 69, 3) := by decide +kernel
theorem dL_does_178 : decode cL_does 178 = .ok (.iadd, 1) := by decide +kernel
theorem dL_does_179 : decode cL_does 179 = .ok (.iload 6, 2) := by decide +kernel
theorem dL_does_181 : decode cL_does 181 = .ok (.invokevirtual 72, 3) := by decide +kernel
theorem dL_does_184 : decode cL_does 184 = .ok (.iload 7, 2) := by decide +kernel
theorem dL_does_186 : decode cL_does 186 = .ok (.ifCond .eq 8, 3) := by decide +kernel
theorem dL_does_189 : decode cL_does 189 = .ok (.bipush (-4), 2) := by decide +kernel
theorem dL_does_191 : decode cL_does 191 = .ok (.goto 16, 3) := by decide +kernel
theorem dL_does_194 : decode cL_does 194 = .ok (.iload 4, 2) := by decide +kernel
theorem dL_does_196 : decode cL_does 196 = .ok (.iconst 4, 1) := by decide +kernel
theorem dL_does_197 : decode cL_does 197 = .ok (.if_icmp .ne 8, 3) := by decide +kernel
theorem dL_does_200 : decode cL_does 200 = .ok (.bipush (-3), 2) := by decide +kernel
theorem dL_does_202 : decode cL_does 202 = .ok (.goto 5, 3) := by decide +kernel
theorem dL_does_205 : decode cL_does 205 = .ok (.iload 4, 2) := by decide +kernel
theorem dL_does_207 : decode cL_does 207 = .ok (.if_icmp .ne 7, 3) := by decide +kernel
theorem dL_does_210 : decode cL_does 210 = .ok (.iconst 1, 1) := by decide +kernel
theorem dL_does_211 : decode cL_does 211 = .ok (.goto 4, 3) := by decide +kernel
theorem dL_does_214 : decode cL_does 214 = .ok (.iconst 0, 1) := by decide +kernel
theorem dL_does_215 : decode cL_does 215 = .ok (.ireturn, 1) := by decide +kernel
theorem dL_does_216 : decode cL_does 216 = .ok (.aload_n 0, 1) := by decide +kernel
theorem dL_does_217 : decode cL_does 217 = .ok (.iload 6, 2) := by decide +kernel
theorem dL_does_219 : decode cL_does 219 = .ok (.invokevirtual 75, 3) := by decide +kernel
theorem dL_does_222 : decode cL_does 222 = .ok (.iload 7, 2) := by decide +kernel
theorem dL_does_224 : decode cL_does 224 = .ok (.ifCond .eq 8, 3) := by decide +kernel
theorem dL_does_227 : decode cL_does 227 = .ok (.bipush (-4), 2) := by decide +kernel
theorem dL_does_229 : decode cL_does 229 = .ok (.goto 17, 3) := by decide +kernel
theorem dL_does_232 : decode cL_does 232 = .ok (.iload 5, 2) := by decide +kernel
theorem dL_does_234 : decode cL_does 234 = .ok (.bipush 10, 2) := by decide +kernel
theorem dL_does_236 : decode cL_does 236 = .ok (.if_icmp .ne 8, 3) := by decide +kernel
theorem dL_does_239 : decode cL_does 239 = .ok (.bipush (-3), 2) := by decide +kernel
theorem dL_does_241 : decode cL_does 241 = .ok (.goto 5, 3) := by decide +kernel
theorem dL_does_244 : decode cL_does 244 = .ok (.iload 5, 2) := by decide +kernel
theorem dL_does_246 : decode cL_does 246 = .ok (.if_icmp .ne 7, 3) := by decide +kernel
theorem dL_does_249 : decode cL_does 249 = .ok (.iconst 1, 1) := by decide +kernel
theorem dL_does_250 : decode cL_does 250 = .ok (.goto 4, 3) := by decide +kernel
theorem dL_does_253 : decode cL_does 253 = .ok (.iconst 0, 1) := by decide +kernel
theorem dL_does_254 : decode cL_does 254 = .ok (.ireturn, 1) := by decide +kernel
theorem dL_does_255 : decode cL_does 255 = .ok (.iload_n 3, 1) := by decide +kernel
theorem dL_does_256 : decode cL_does 256 = .ok (.bipush 24, 2) := by decide +kernel
theorem dL_does_258 : decode cL_does 258 = .ok (.invokestatic 69, 3) := by decide +kernel
theorem dL_does_261 : decode cL_does 261 = .ok (.istore 11, 2) := by decide +kernel
theorem dL_does_263 : decode cL_does 263 = .ok (.iload 11, 2) := by decide +kernel
theorem dL_does_265 : decode cL_does 265 = .ok (.iload_n 3, 1) := by decide +kernel
theorem dL_does_266 : decode cL_does 266 = .ok (.iconst 5, 1) := by decide +kernel
theorem dL_does_267 : decode cL_does 267 = .ok (.ishr, 1) := by decide +kernel
theorem dL_does_268 : decode cL_does 268 = .ok (.bipush 24, 2) := by decide +kernel
theorem dL_does_270 : decode cL_does 270 = .ok (.iload 11, 2) := by decide +kernel
theorem dL_does_272 : decode cL_does 272 = .ok (.isub, 1) := by decide +kernel
theorem dL_does_273 : decode cL_does 273 = .ok (.invokestatic 69, 3) := by decide +kernel
theorem dL_does_276 : decode cL_does 276 = .ok (.iadd, 1) := by decide +kernel
theorem dL_does_277 : decode cL_does 277 = .ok (.istore 12, 2) := by decide +kernel
theorem dL_does_279 : decode cL_does 279 = .ok (.iload_n 3, 1) := by decide +kernel
theorem dL_does_280 : decode cL_does 280 = .ok (.bipush 10, 2) := by decide +kernel
theorem dL_does_282 : decode cL_does 282 = .ok (.ishr, 1) := by decide +kernel
theorem dL_does_283 : decode cL_does 283 = .ok (.bipush 10, 2) := by decide +kernel
theorem dL_does_285 : decode cL_does 285 = .ok (.invokestatic 69, 3) := by decide +kernel
theorem dL_does_288 : decode cL_does 288 = .ok (.istore 13, 2) := by decide +kernel
theorem dL_does_290 : decode cL_does 290 = .ok (.iconst 0, 1) := by decide +kernel
theorem dL_does_291 : decode cL_does 291 = .ok (.istore 14, 2) := by decide +kernel
theorem dL_does_293 : decode cL_does 293 = .ok (.iload 11, 2) := by decide +kernel
theorem dL_does_295 : decode cL_does 295 = .ok (.istore 15, 2) := by decide +kernel
theorem dL_does_297 : decode cL_does 297 = .ok (.iload 15, 2) := by decide +kernel
theorem dL_does_299 : decode cL_does 299 = .ok (.iload 12, 2) := by decide +kernel
theorem dL_does_301 : decode cL_does 301 = .ok (.if_icmp .gt 34, 3) := by decide +kernel
theorem dL_does_304 : decode cL_does 304 = .ok (.iload 14, 2) := by decide +kernel
theorem dL_does_306 : decode cL_does 306 = .ok (.aload_n 1, 1) := by decide +kernel
theorem dL_does_307 : decode cL_does 307 = .ok (.iload 15, 2) := by decide +kernel
theorem dL_does_309 : decode cL_does 309 = .ok (.iaload, 1) := by decide +kernel
theorem dL_does_310 : decode cL_does 310 = .ok (.iload 13, 2) := by decide +kernel
theorem dL_does_312 : decode cL_does 312 = .ok (.if_icmp .ne 7, 3) := by decide +kernel
theorem dL_does_315 : decode cL_does 315 = .ok (.iconst 0, 1) := by decide +kernel
theorem dL_does_316 : decode cL_does 316 = .ok (.goto 4, 3) := by decide +kernel
theorem dL_does_319 : decode cL_does 319 = .ok (.iconst 1, 1) := by decide +kernel
theorem dL_does_320 : decode cL_does 320 = .ok (.iadd, 1) := by decide +kernel
theorem dL_does_321 : decode cL_does 321 = .ok (.istore 14, 2) := by decide +kernel
theorem dL_does_323 : decode cL_does 323 = .ok (.aload_n 1, 1) := by decide +kernel
theorem dL_does_324 : decode cL_does 324 = .ok (.iload 15, 2) := by decide +kernel
theorem dL_does_326 : decode cL_does 326 = .ok (.iload 13, 2) := by decide +kernel
theorem dL_does_328 : decode cL_does 328 = .ok (.iastore, 1) := by decide +kernel
theorem dL_does_329 : decode cL_does 329 = .ok (.iinc 15 1, 3) := by decide +kernel
theorem dL_does_332 : decode cL_does 332 = .ok (.goto (-35), 3) := by decide +kernel
theorem dL_does_335 : decode cL_does 335 = .ok (.aload_n 0, 1) := by decide +kernel
theorem dL_does_336 : decode cL_does 336 = .ok (.iload 11, 2) := by decide +kernel
theorem dL_does_338 : decode cL_does 338 = .ok (.iload 12, 2) := by decide +kernel
theorem dL_does_340 : decode cL_does 340 = .ok (.iload 13, 2) := by decide +kernel
theorem dL_does_342 : decode cL_does 342 = .ok (.invokevirtual 78, 3) := by decide +kernel
theorem dL_does_345 : decode cL_does 345 = .ok (.iload 14, 2) := by decide +kernel
theorem dL_does_347 : decode cL_does 347 = .ok (.ifCond .ne 8, 3) := by decide +kernel
theorem dL_does_350 : decode cL_does 350 = .ok (.bipush (-5), 2) := by decide +kernel
theorem dL_does_352 : decode cL_does 352 = .ok (.goto 5, 3) := by decide +kernel
theorem dL_does_355 : decode cL_does 355 = .ok (.iload 14, 2) := by decide +kernel
theorem dL_does_357 : decode cL_does 357 = .ok (.if_icmp .ne 7, 3) := by decide +kernel
theorem dL_does_360 : decode cL_does 360 = .ok (.iconst 1, 1) := by decide +kernel
theorem dL_does_361 : decode cL_does 361 = .ok (.goto 4, 3) := by decide +kernel
theorem dL_does_364 : decode cL_does 364 = .ok (.iconst 0, 1) := by decide +kernel
theorem dL_does_365 : decode cL_does 365 = .ok (.ireturn, 1) := by decide +kernel
theorem dL_does_366 : decode cL_does 366 = .ok (.iload_n 2, 1) := by decide +kernel
theorem dL_does_367 : decode cL_does 367 = .ok (.iconst 5, 1) := by decide +kernel
theorem dL_does_368 : decode cL_does 368 = .ok (.ishr, 1) := by decide +kernel
theorem dL_does_369 : decode cL_does 369 = .ok (.iconst 4, 1) := by decide +kernel
theorem dL_does_370 : decode cL_does 370 = .ok (.invokestatic 69, 3) := by decide +kernel
theorem dL_does_373 : decode cL_does 373 = .ok (.istore 15, 2) := by decide +kernel
theorem dL_does_375 : decode cL_does 375 = .ok (.iload 15, 2) := by decide +kernel
theorem dL_does_377 : decode cL_does 377 = .ok (.iconst 2, 1) := by decide +kernel
theorem dL_does_378 : decode cL_does 378 = .ok (.if_icmp .ge 12, 3) := by decide +kernel
theorem dL_does_381 : decode cL_does 381 = .ok (.iload_n 3, 1) := by decide +kernel
theorem dL_does_382 : decode cL_does 382 = .ok (.bipush 21, 2) := by decide +kernel
theorem dL_does_384 : decode cL_does 384 = .ok (.invokestatic 69, 3) := by decide +kernel
theorem dL_does_387 : decode cL_does 387 = .ok (.goto 25, 3) := by decide +kernel
theorem dL_does_390 : decode cL_does 390 = .ok (.iload 15, 2) := by decide +kernel
theorem dL_does_392 : decode cL_does 392 = .ok (.iconst 2, 1) := by decide +kernel
theorem dL_does_393 : decode cL_does 393 = .ok (.if_icmp .ne 13, 3) := by decide +kernel
theorem dL_does_396 : decode cL_does 396 = .ok (.iconst 1, 1) := by decide +kernel
theorem dL_does_397 : decode cL_does 397 = .ok (.iload_n 3, 1) := by decide +kernel
theorem dL_does_398 : decode cL_does 398 = .ok (.iconst 4, 1) := by decide +kernel
theorem dL_does_399 : decode cL_does 399 = .ok (.invokestatic 69, 3) := by decide +kernel
theorem dL_does_402 : decode cL_does 402 = .ok (.iadd, 1) := by decide +kernel
theorem dL_does_403 : decode cL_does 403 = .ok (.goto 9, 3) := by decide +kernel
theorem dL_does_406 : decode cL_does 406 = .ok (.iload_n 3, 1) := by decide +kernel
theorem dL_does_407 : decode cL_does 407 = .ok (.bipush 60, 2) := by decide +kernel
theorem dL_does_409 : decode cL_does 409 = .ok (.invokestatic 69, 3) := by decide +kernel
theorem dL_does_412 : decode cL_does 412 = .ok (.istore 16, 2) := by decide +kernel
theorem dL_does_414 : decode cL_does 414 = .ok (.aload_n 0, 1) := by decide +kernel
theorem dL_does_415 : decode cL_does 415 = .ok (.bipush 12, 2) := by decide +kernel
theorem dL_does_417 : decode cL_does 417 = .ok (.iload 15, 2) := by decide +kernel
theorem dL_does_419 : decode cL_does 419 = .ok (.iadd, 1) := by decide +kernel
theorem dL_does_420 : decode cL_does 420 = .ok (.invokevirtual 38, 3) := by decide +kernel
theorem dL_does_423 : decode cL_does 423 = .ok (.istore 17, 2) := by decide +kernel
theorem dL_does_425 : decode cL_does 425 = .ok (.aload_n 0, 1) := by decide +kernel
theorem dL_does_426 : decode cL_does 426 = .ok (.iload 15, 2) := by decide +kernel
theorem dL_does_428 : decode cL_does 428 = .ok (.iload 16, 2) := by decide +kernel
theorem dL_does_430 : decode cL_does 430 = .ok (.invokevirtual 81, 3) := by decide +kernel
theorem dL_does_433 : decode cL_does 433 = .ok (.iload 17, 2) := by decide +kernel
theorem dL_does_435 : decode cL_does 435 = .ok (.iload 16, 2) := by decide +kernel
theorem dL_does_437 : decode cL_does 437 = .ok (.if_icmp .ne 8, 3) := by decide +kernel
theorem dL_does_440 : decode cL_does 440 = .ok (.bipush (-5), 2) := by decide +kernel
theorem dL_does_442 : decode cL_does 442 = .ok (.goto 5, 3) := by decide +kernel
theorem dL_does_445 : decode cL_does 445 = .ok (.iload 17, 2) := by decide +kernel
theorem dL_does_447 : decode cL_does 447 = .ok (.if_icmp .ne 21, 3) := by decide +kernel
theorem dL_does_450 : decode cL_does 450 = .ok (.aload_n 0, 1) := by decide +kernel
theorem dL_does_451 : decode cL_does 451 = .ok (.bipush 12, 2) := by decide +kernel
theorem dL_does_453 : decode cL_does 453 = .ok (.iload 15, 2) := by decide +kernel
theorem dL_does_455 : decode cL_does 455 = .ok (.iadd, 1) := by decide +kernel
theorem dL_does_456 : decode cL_does 456 = .ok (.invokevirtual 38, 3) := by decide +kernel
theorem dL_does_459 : decode cL_does 459 = .ok (.iload 16, 2) := by decide +kernel
theorem dL_does_461 : decode cL_does 461 = .ok (.if_icmp .ne 7, 3) := by decide +kernel
theorem dL_does_464 : decode cL_does 464 = .ok (.iconst 1, 1) := by decide +kernel
theorem dL_does_465 : decode cL_does 465 = .ok (.goto 4, 3) := by decide +kernel
theorem dL_does_468 : decode cL_does 468 = .ok (.iconst 0, 1) := by decide +kernel
theorem dL_does_469 : decode cL_does 469 = .ok (.ireturn, 1) := by decide +kernel
theorem dL_does_470 : decode cL_does 470 = .ok (.iload 4, 2) := by decide +kernel
theorem dL_does_472 : decode cL_does 472 = .ok (.ifCond .eq 22, 3) := by decide +kernel
theorem dL_does_475 : decode cL_does 475 = .ok (.iload 5, 2) := by decide +kernel
theorem dL_does_477 : decode cL_does 477 = .ok (.ifCond .eq 17, 3) := by decide +kernel
theorem dL_does_480 : decode cL_does 480 = .ok (.aload_n 0, 1) := by decide +kernel
theorem dL_does_481 : decode cL_does 481 = .ok (.aload_n 1, 1) := by decide +kernel
theorem dL_does_482 : decode cL_does 482 = .ok (.iload 9, 2) := by decide +kernel
theorem dL_does_484 : decode cL_does 484 = .ok (.iload 10, 2) := by decide +kernel
theorem dL_does_486 : decode cL_does 486 = .ok (.iload 8, 2) := by decide +kernel
theorem dL_does_488 : decode cL_does 488 = .ok (.invokestatic 84, 3) := by decide +kernel
theorem dL_does_491 : decode cL_does 491 = .ok (.ifCond .eq 7, 3) := by decide +kernel
theorem dL_does_494 : decode cL_does 494 = .ok (.iconst 1, 1) := by decide +kernel
theorem dL_does_495 : decode cL_does 495 = .ok (.goto 4, 3) := by decide +kernel
theorem dL_does_498 : decode cL_does 498 = .ok (.iconst 0, 1) := by decide +kernel
theorem dL_does_499 : decode cL_does 499 = .ok (.ireturn, 1) := by decide +kernel
theorem dL_does_500 : decode cL_does 500 = .ok (.iload 4, 2) := by decide +kernel
theorem dL_does_502 : decode cL_does 502 = .ok (.ifCond .ne 22, 3) := by decide +kernel
theorem dL_does_505 : decode cL_does 505 = .ok (.aload_n 0, 1) := by decide +kernel
theorem dL_does_506 : decode cL_does 506 = .ok (.iconst 0, 1) := by decide +kernel
theorem dL_does_507 : decode cL_does 507 = .ok (.iload 8, 2) := by decide +kernel
theorem dL_does_509 : decode cL_does 509 = .ok (.invokevirtual 66, 3) := by decide +kernel
theorem dL_does_512 : decode cL_does 512 = .ok (.iconst (-1), 1) := by decide +kernel
theorem dL_does_513 : decode cL_does 513 = .ok (.if_icmp .ne 7, 3) := by decide +kernel
theorem dL_does_516 : decode cL_does 516 = .ok (.iconst 1, 1) := by decide +kernel
theorem dL_does_517 : decode cL_does 517 = .ok (.goto 15, 3) := by decide +kernel
theorem dL_does_520 : decode cL_does 520 = .ok (.iconst 0, 1) := by decide +kernel
theorem dL_does_521 : decode cL_does 521 = .ok (.goto 11, 3) := by decide +kernel
theorem dL_does_524 : decode cL_does 524 = .ok (.aload_n 0, 1) := by decide +kernel
theorem dL_does_525 : decode cL_does 525 = .ok (.iload 9, 2) := by decide +kernel
theorem dL_does_527 : decode cL_does 527 = .ok (.iload 8, 2) := by decide +kernel
theorem dL_does_529 : decode cL_does 529 = .ok (.invokestatic 88, 3) := by decide +kernel
theorem dL_does_532 : decode cL_does 532 = .ok (.ireturn, 1) := by decide +kernel
theorem dL_does_533 : decode cL_does 533 = .ok (.iload 4, 2) := by decide +kernel
theorem dL_does_535 : decode cL_does 535 = .ok (.ifCond .eq 8, 3) := by decide +kernel
theorem dL_does_538 : decode cL_does 538 = .ok (.iload 5, 2) := by decide +kernel
theorem dL_does_540 : decode cL_does 540 = .ok (.ifCond .ne 23, 3) := by decide +kernel
theorem dL_does_543 : decode cL_does 543 = .ok (.aload_n 0, 1) := by decide +kernel
theorem dL_does_544 : decode cL_does 544 = .ok (.iconst 0, 1) := by decide +kernel
theorem dL_does_545 : decode cL_does 545 = .ok (.iconst 0, 1) := by decide +kernel
theorem dL_does_546 : decode cL_does 546 = .ok (.iconst 0, 1) := by decide +kernel
theorem dL_does_547 : decode cL_does 547 = .ok (.iconst 0, 1) := by decide +kernel
theorem dL_does_548 : decode cL_does 548 = .ok (.invokevirtual 60, 3) := by decide +kernel
theorem dL_does_551 : decode cL_does 551 = .ok (.iconst (-1), 1) := by decide +kernel
theorem dL_does_552 : decode cL_does 552 = .ok (.if_icmp .ne 7, 3) := by decide +kernel
theorem dL_does_555 : decode cL_does 555 = .ok (.iconst 1, 1) := by decide +kernel
theorem dL_does_556 : decode cL_does 556 = .ok (.goto 23, 3) := by decide +kernel
theorem dL_does_559 : decode cL_does 559 = .ok (.iconst 0, 1) := by decide +kernel
theorem dL_does_560 : decode cL_does 560 = .ok (.goto 19, 3) := by decide +kernel
theorem dL_does_563 : decode cL_does 563 = .ok (.aload_n 0, 1) := by decide +kernel
theorem dL_does_564 : decode cL_does 564 = .ok (.iload 10, 2) := by decide +kernel
theorem dL_does_566 : decode cL_does 566 = .ok (.iload 9, 2) := by decide +kernel
theorem dL_does_568 : decode cL_does 568 = .ok (.iload_n 3, 1) := by decide +kernel
theorem dL_does_569 : decode cL_does 569 = .ok (.bipush 9, 2) := by decide +kernel
theorem dL_does_571 : decode cL_does 571 = .ok (.ishr, 1) := by decide +kernel
theorem dL_does_572 : decode cL_does 572 = .ok (.iconst 1, 1) := by decide +kernel
theorem dL_does_573 : decode cL_does 573 = .ok (.iand, 1) := by decide +kernel
theorem dL_does_574 : decode cL_does 574 = .ok (.iload 8, 2) := by decide +kernel
theorem dL_does_576 : decode cL_does 576 = .ok (.invokestatic 92, 3) := by decide +kernel
theorem dL_does_579 : decode cL_does 579 = .ok (.ireturn, 1) := by decide +kernel
theorem dL_law_0 : decode cL_law 0 = .ok (.new 9, 3) := by decide +kernel
theorem dL_law_3 : decode cL_law 3 = .ok (.dup, 1) := by decide +kernel
theorem dL_law_4 : decode cL_law 4 = .ok (.invokespecial 96, 3) := by decide +kernel
theorem dL_law_7 : decode cL_law 7 = .ok (.astore_n 1, 1) := by decide +kernel
theorem dL_law_8 : decode cL_law 8 = .ok (.bipush 24, 2) := by decide +kernel
theorem dL_law_10 : decode cL_law 10 = .ok (.newarray .int, 2) := by decide +kernel
theorem dL_law_12 : decode cL_law 12 = .ok (.astore_n 2, 1) := by decide +kernel
theorem dL_law_13 : decode cL_law 13 = .ok (.iconst 0, 1) := by decide +kernel
theorem dL_law_14 : decode cL_law 14 = .ok (.istore_n 3, 1) := by decide +kernel
theorem dL_law_15 : decode cL_law 15 = .ok (.iload_n 3, 1) := by decide +kernel
theorem dL_law_16 : decode cL_law 16 = .ok (.bipush 24, 2) := by decide +kernel
theorem dL_law_18 : decode cL_law 18 = .ok (.if_icmp .ge 13, 3) := by decide +kernel
theorem dL_law_21 : decode cL_law 21 = .ok (.aload_n 2, 1) := by decide +kernel
theorem dL_law_22 : decode cL_law 22 = .ok (.iload_n 3, 1) := by decide +kernel
theorem dL_law_23 : decode cL_law 23 = .ok (.iconst 3, 1) := by decide +kernel
theorem dL_law_24 : decode cL_law 24 = .ok (.iastore, 1) := by decide +kernel
theorem dL_law_25 : decode cL_law 25 = .ok (.iinc 3 1, 3) := by decide +kernel
theorem dL_law_28 : decode cL_law 28 = .ok (.goto (-13), 3) := by decide +kernel
theorem dL_law_31 : decode cL_law 31 = .ok (.aload_n 1, 1) := by decide +kernel
theorem dL_law_32 : decode cL_law 32 = .ok (.invokevirtual 44, 3) := by decide +kernel
theorem dL_law_35 : decode cL_law 35 = .ok (.fconst 1, 1) := by decide +kernel
theorem dL_law_36 : decode cL_law 36 = .ok (.fcmp .l, 1) := by decide +kernel
theorem dL_law_37 : decode cL_law 37 = .ok (.ifCond .ne 40, 3) := by decide +kernel
theorem dL_law_40 : decode cL_law 40 = .ok (.aload_n 1, 1) := by decide +kernel
theorem dL_law_41 : decode cL_law 41 = .ok (.iconst 5, 1) := by decide +kernel
theorem dL_law_42 : decode cL_law 42 = .ok (.invokevirtual 51, 3) := by decide +kernel
theorem dL_law_45 : decode cL_law 45 = .ok (.bipush (-5), 2) := by decide +kernel
theorem dL_law_47 : decode cL_law 47 = .ok (.if_icmp .ne 30, 3) := by decide +kernel
theorem dL_law_50 : decode cL_law 50 = .ok (.aload_n 1, 1) := by decide +kernel
theorem dL_law_51 : decode cL_law 51 = .ok (.invokevirtual 97, 3) := by decide +kernel
theorem dL_law_54 : decode cL_law 54 = .ok (.bipush (-5), 2) := by decide +kernel
theorem dL_law_56 : decode cL_law 56 = .ok (.if_icmp .ne 21, 3) := by decide +kernel
theorem dL_law_59 : decode cL_law 59 = .ok (.aload_n 1, 1) := by decide +kernel
theorem dL_law_60 : decode cL_law 60 = .ok (.invokevirtual 101, 3) := by decide +kernel
theorem dL_law_63 : decode cL_law 63 = .ok (.bipush (-5), 2) := by decide +kernel
theorem dL_law_65 : decode cL_law 65 = .ok (.if_icmp .ne 12, 3) := by decide +kernel
theorem dL_law_68 : decode cL_law 68 = .ok (.aload_n 1, 1) := by decide +kernel
theorem dL_law_69 : decode cL_law 69 = .ok (.invokevirtual 104, 3) := by decide +kernel
theorem dL_law_72 : decode cL_law 72 = .ok (.bipush (-100), 2) := by decide +kernel
theorem dL_law_74 : decode cL_law 74 = .ok (.if_icmp .eq 5, 3) := by decide +kernel
theorem dL_law_77 : decode cL_law 77 = .ok (.iconst 0, 1) := by decide +kernel
theorem dL_law_78 : decode cL_law 78 = .ok (.ireturn, 1) := by decide +kernel
theorem dL_law_79 : decode cL_law 79 = .ok (.iconst 0, 1) := by decide +kernel
theorem dL_law_80 : decode cL_law 80 = .ok (.istore_n 3, 1) := by decide +kernel
theorem dL_law_81 : decode cL_law 81 = .ok (.iload_n 3, 1) := by decide +kernel
theorem dL_law_82 : decode cL_law 82 = .ok (.bipush 120, 2) := by decide +kernel
theorem dL_law_84 : decode cL_law 84 = .ok (.if_icmp .ge 177, 3) := by decide +kernel
theorem dL_law_87 : decode cL_law 87 = .ok (.aload_n 0, 1) := by decide +kernel
theorem dL_law_88 : decode cL_law 88 = .ok (.iconst 2, 1) := by decide +kernel
theorem dL_law_89 : decode cL_law 89 = .ok (.iload_n 3, 1) := by decide +kernel
theorem dL_law_90 : decode cL_law 90 = .ok (.imul, 1) := by decide +kernel
theorem dL_law_91 : decode cL_law 91 = .ok (.invokestatic 107, 3) := by decide +kernel
theorem dL_law_94 : decode cL_law 94 = .ok (.istore 4, 2) := by decide +kernel
theorem dL_law_96 : decode cL_law 96 = .ok (.aload_n 1, 1) := by decide +kernel
theorem dL_law_97 : decode cL_law 97 = .ok (.aload_n 2, 1) := by decide +kernel
theorem dL_law_98 : decode cL_law 98 = .ok (.iload 4, 2) := by decide +kernel
theorem dL_law_100 : decode cL_law 100 = .ok (.aload_n 0, 1) := by decide +kernel
theorem dL_law_101 : decode cL_law 101 = .ok (.iconst 2, 1) := by decide +kernel
theorem dL_law_102 : decode cL_law 102 = .ok (.iload_n 3, 1) := by decide +kernel
theorem dL_law_103 : decode cL_law 103 = .ok (.imul, 1) := by decide +kernel
theorem dL_law_104 : decode cL_law 104 = .ok (.iconst 1, 1) := by decide +kernel
theorem dL_law_105 : decode cL_law 105 = .ok (.iadd, 1) := by decide +kernel
theorem dL_law_106 : decode cL_law 106 = .ok (.invokestatic 107, 3) := by decide +kernel
theorem dL_law_109 : decode cL_law 109 = .ok (.invokestatic 111, 3) := by decide +kernel
theorem dL_law_112 : decode cL_law 112 = .ok (.ifCond .eq 11, 3) := by decide +kernel
theorem dL_law_115 : decode cL_law 115 = .ok (.aload_n 1, 1) := by decide +kernel
theorem dL_law_116 : decode cL_law 116 = .ok (.aload_n 2, 1) := by decide +kernel
theorem dL_law_117 : decode cL_law 117 = .ok (.invokestatic 115, 3) := by decide +kernel
theorem dL_law_120 : decode cL_law 120 = .ok (.ifCond .ne 5, 3) := by decide +kernel
theorem dL_law_123 : decode cL_law 123 = .ok (.iconst 0, 1) := by decide +kernel
theorem dL_law_124 : decode cL_law 124 = .ok (.ireturn, 1) := by decide +kernel
theorem dL_law_125 : decode cL_law 125 = .ok (.aload_n 1, 1) := by decide +kernel
theorem dL_law_126 : decode cL_law 126 = .ok (.iconst 0, 1) := by decide +kernel
theorem dL_law_127 : decode cL_law 127 = .ok (.invokevirtual 38, 3) := by decide +kernel
theorem dL_law_130 : decode cL_law 130 = .ok (.istore 5, 2) := by decide +kernel
theorem dL_law_132 : decode cL_law 132 = .ok (.aload_n 1, 1) := by decide +kernel
theorem dL_law_133 : decode cL_law 133 = .ok (.iconst 1, 1) := by decide +kernel
theorem dL_law_134 : decode cL_law 134 = .ok (.invokevirtual 38, 3) := by decide +kernel
theorem dL_law_137 : decode cL_law 137 = .ok (.istore 6, 2) := by decide +kernel
theorem dL_law_139 : decode cL_law 139 = .ok (.iload 5, 2) := by decide +kernel
theorem dL_law_141 : decode cL_law 141 = .ok (.ifCond .le 37, 3) := by decide +kernel
theorem dL_law_144 : decode cL_law 144 = .ok (.iload_n 3, 1) := by decide +kernel
theorem dL_law_145 : decode cL_law 145 = .ok (.iconst 3, 1) := by decide +kernel
theorem dL_law_146 : decode cL_law 146 = .ok (.irem, 1) := by decide +kernel
theorem dL_law_147 : decode cL_law 147 = .ok (.iconst 1, 1) := by decide +kernel
theorem dL_law_148 : decode cL_law 148 = .ok (.if_icmp .ne 30, 3) := by decide +kernel
theorem dL_law_151 : decode cL_law 151 = .ok (.aload_n 1, 1) := by decide +kernel
theorem dL_law_152 : decode cL_law 152 = .ok (.aload_n 2, 1) := by decide +kernel
theorem dL_law_153 : decode cL_law 153 = .ok (.iload 4, 2) := by decide +kernel
theorem dL_law_155 : decode cL_law 155 = .ok (.iconst 5, 1) := by decide +kernel
theorem dL_law_156 : decode cL_law 156 = .ok (.ishr, 1) := by decide +kernel
theorem dL_law_157 : decode cL_law 157 = .ok (.iload 5, 2) := by decide +kernel
theorem dL_law_159 : decode cL_law 159 = .ok (.invokestatic 69, 3) := by decide +kernel
theorem dL_law_162 : decode cL_law 162 = .ok (.iload 4, 2) := by decide +kernel
theorem dL_law_164 : decode cL_law 164 = .ok (.bipush 7, 2) := by decide +kernel
theorem dL_law_166 : decode cL_law 166 = .ok (.ishr, 1) := by decide +kernel
theorem dL_law_167 : decode cL_law 167 = .ok (.bipush 96, 2) := by decide +kernel
theorem dL_law_169 : decode cL_law 169 = .ok (.invokestatic 69, 3) := by decide +kernel
theorem dL_law_172 : decode cL_law 172 = .ok (.invokestatic 119, 3) := by decide +kernel
theorem dL_law_175 : decode cL_law 175 = .ok (.ifCond .eq 78, 3) := by decide +kernel
theorem dL_law_178 : decode cL_law 178 = .ok (.iload 5, 2) := by decide +kernel
theorem dL_law_180 : decode cL_law 180 = .ok (.ifCond .le 42, 3) := by decide +kernel
theorem dL_law_183 : decode cL_law 183 = .ok (.iload 6, 2) := by decide +kernel
theorem dL_law_185 : decode cL_law 185 = .ok (.ifCond .le 37, 3) := by decide +kernel
theorem dL_law_188 : decode cL_law 188 = .ok (.iload_n 3, 1) := by decide +kernel
theorem dL_law_189 : decode cL_law 189 = .ok (.iconst 4, 1) := by decide +kernel
theorem dL_law_190 : decode cL_law 190 = .ok (.irem, 1) := by decide +kernel
theorem dL_law_191 : decode cL_law 191 = .ok (.iconst 2, 1) := by decide +kernel
theorem dL_law_192 : decode cL_law 192 = .ok (.if_icmp .ne 30, 3) := by decide +kernel
theorem dL_law_195 : decode cL_law 195 = .ok (.aload_n 1, 1) := by decide +kernel
theorem dL_law_196 : decode cL_law 196 = .ok (.aload_n 2, 1) := by decide +kernel
theorem dL_law_197 : decode cL_law 197 = .ok (.iload 4, 2) := by decide +kernel
theorem dL_law_199 : decode cL_law 199 = .ok (.bipush 8, 2) := by decide +kernel
theorem dL_law_201 : decode cL_law 201 = .ok (.ishr, 1) := by decide +kernel
theorem dL_law_202 : decode cL_law 202 = .ok (.iload 6, 2) := by decide +kernel
theorem dL_law_204 : decode cL_law 204 = .ok (.invokestatic 69, 3) := by decide +kernel
theorem dL_law_207 : decode cL_law 207 = .ok (.iload 4, 2) := by decide +kernel
theorem dL_law_209 : decode cL_law 209 = .ok (.iconst 5, 1) := by decide +kernel
theorem dL_law_210 : decode cL_law 210 = .ok (.ishr, 1) := by decide +kernel
theorem dL_law_211 : decode cL_law 211 = .ok (.iload 5, 2) := by decide +kernel
theorem dL_law_213 : decode cL_law 213 = .ok (.invokestatic 69, 3) := by decide +kernel
theorem dL_law_216 : decode cL_law 216 = .ok (.invokestatic 122, 3) := by decide +kernel
theorem dL_law_219 : decode cL_law 219 = .ok (.ifCond .eq 34, 3) := by decide +kernel
theorem dL_law_222 : decode cL_law 222 = .ok (.iload 5, 2) := by decide +kernel
theorem dL_law_224 : decode cL_law 224 = .ok (.ifCond .le 31, 3) := by decide +kernel
theorem dL_law_227 : decode cL_law 227 = .ok (.iload_n 3, 1) := by decide +kernel
theorem dL_law_228 : decode cL_law 228 = .ok (.bipush 20, 2) := by decide +kernel
theorem dL_law_230 : decode cL_law 230 = .ok (.irem, 1) := by decide +kernel
theorem dL_law_231 : decode cL_law 231 = .ok (.bipush 13, 2) := by decide +kernel
theorem dL_law_233 : decode cL_law 233 = .ok (.if_icmp .ne 22, 3) := by decide +kernel
theorem dL_law_236 : decode cL_law 236 = .ok (.aload_n 1, 1) := by decide +kernel
theorem dL_law_237 : decode cL_law 237 = .ok (.aload_n 2, 1) := by decide +kernel
theorem dL_law_238 : decode cL_law 238 = .ok (.iload 4, 2) := by decide +kernel
theorem dL_law_240 : decode cL_law 240 = .ok (.iconst 5, 1) := by decide +kernel
theorem dL_law_241 : decode cL_law 241 = .ok (.ishr, 1) := by decide +kernel
theorem dL_law_242 : decode cL_law 242 = .ok (.iload 5, 2) := by decide +kernel
theorem dL_law_244 : decode cL_law 244 = .ok (.invokestatic 69, 3) := by decide +kernel
theorem dL_law_247 : decode cL_law 247 = .ok (.invokestatic 125, 3) := by decide +kernel
theorem dL_law_250 : decode cL_law 250 = .ok (.ifCond .ne 5, 3) := by decide +kernel
theorem dL_law_253 : decode cL_law 253 = .ok (.iconst 0, 1) := by decide +kernel
theorem dL_law_254 : decode cL_law 254 = .ok (.ireturn, 1) := by decide +kernel
theorem dL_law_255 : decode cL_law 255 = .ok (.iinc 3 1, 3) := by decide +kernel
theorem dL_law_258 : decode cL_law 258 = .ok (.goto (-177), 3) := by decide +kernel
theorem dL_law_261 : decode cL_law 261 = .ok (.aload_n 1, 1) := by decide +kernel
theorem dL_law_262 : decode cL_law 262 = .ok (.iconst 1, 1) := by decide +kernel
theorem dL_law_263 : decode cL_law 263 = .ok (.bipush 96, 2) := by decide +kernel
theorem dL_law_265 : decode cL_law 265 = .ok (.invokevirtual 72, 3) := by decide +kernel
theorem dL_law_268 : decode cL_law 268 = .ok (.iconst (-1), 1) := by decide +kernel
theorem dL_law_269 : decode cL_law 269 = .ok (.if_icmp .ne 86, 3) := by decide +kernel
theorem dL_law_272 : decode cL_law 272 = .ok (.aload_n 1, 1) := by decide +kernel
theorem dL_law_273 : decode cL_law 273 = .ok (.bipush 6, 2) := by decide +kernel
theorem dL_law_275 : decode cL_law 275 = .ok (.bipush 95, 2) := by decide +kernel
theorem dL_law_277 : decode cL_law 277 = .ok (.invokevirtual 72, 3) := by decide +kernel
theorem dL_law_280 : decode cL_law 280 = .ok (.bipush (-2), 2) := by decide +kernel
theorem dL_law_282 : decode cL_law 282 = .ok (.if_icmp .ne 73, 3) := by decide +kernel
theorem dL_law_285 : decode cL_law 285 = .ok (.aload_n 1, 1) := by decide +kernel
theorem dL_law_286 : decode cL_law 286 = .ok (.iconst 3, 1) := by decide +kernel
theorem dL_law_287 : decode cL_law 287 = .ok (.iconst 2, 1) := by decide +kernel
theorem dL_law_288 : decode cL_law 288 = .ok (.iconst 1, 1) := by decide +kernel
theorem dL_law_289 : decode cL_law 289 = .ok (.invokevirtual 78, 3) := by decide +kernel
theorem dL_law_292 : decode cL_law 292 = .ok (.iconst (-1), 1) := by decide +kernel
theorem dL_law_293 : decode cL_law 293 = .ok (.if_icmp .ne 62, 3) := by decide +kernel
theorem dL_law_296 : decode cL_law 296 = .ok (.aload_n 1, 1) := by decide +kernel
theorem dL_law_297 : decode cL_law 297 = .ok (.iconst 0, 1) := by decide +kernel
theorem dL_law_298 : decode cL_law 298 = .ok (.iconst 0, 1) := by decide +kernel
theorem dL_law_299 : decode cL_law 299 = .ok (.bipush 10, 2) := by decide +kernel
theorem dL_law_301 : decode cL_law 301 = .ok (.invokevirtual 78, 3) := by decide +kernel
theorem dL_law_304 : decode cL_law 304 = .ok (.bipush (-2), 2) := by decide +kernel
theorem dL_law_306 : decode cL_law 306 = .ok (.if_icmp .ne 49, 3) := by decide +kernel
theorem dL_law_309 : decode cL_law 309 = .ok (.aload_n 1, 1) := by decide +kernel
theorem dL_law_310 : decode cL_law 310 = .ok (.iconst 2, 1) := by decide +kernel
theorem dL_law_311 : decode cL_law 311 = .ok (.iconst 0, 1) := by decide +kernel
theorem dL_law_312 : decode cL_law 312 = .ok (.invokevirtual 81, 3) := by decide +kernel
theorem dL_law_315 : decode cL_law 315 = .ok (.bipush (-2), 2) := by decide +kernel
theorem dL_law_317 : decode cL_law 317 = .ok (.if_icmp .ne 38, 3) := by decide +kernel
theorem dL_law_320 : decode cL_law 320 = .ok (.aload_n 1, 1) := by decide +kernel
theorem dL_law_321 : decode cL_law 321 = .ok (.iconst 0, 1) := by decide +kernel
theorem dL_law_322 : decode cL_law 322 = .ok (.iconst 2, 1) := by decide +kernel
theorem dL_law_323 : decode cL_law 323 = .ok (.invokevirtual 32, 3) := by decide +kernel
theorem dL_law_326 : decode cL_law 326 = .ok (.bipush (-2), 2) := by decide +kernel
theorem dL_law_328 : decode cL_law 328 = .ok (.if_icmp .ne 27, 3) := by decide +kernel
theorem dL_law_331 : decode cL_law 331 = .ok (.aload_n 1, 1) := by decide +kernel
theorem dL_law_332 : decode cL_law 332 = .ok (.iconst 4, 1) := by decide +kernel
theorem dL_law_333 : decode cL_law 333 = .ok (.invokevirtual 54, 3) := by decide +kernel
theorem dL_law_336 : decode cL_law 336 = .ok (.iconst (-1), 1) := by decide +kernel
theorem dL_law_337 : decode cL_law 337 = .ok (.if_icmp .ne 18, 3) := by decide +kernel
theorem dL_law_340 : decode cL_law 340 = .ok (.aload_n 1, 1) := by decide +kernel
theorem dL_law_341 : decode cL_law 341 = .ok (.bipush 16, 2) := by decide +kernel
theorem dL_law_343 : decode cL_law 343 = .ok (.invokevirtual 38, 3) := by decide +kernel
theorem dL_law_346 : decode cL_law 346 = .ok (.bipush (-2), 2) := by decide +kernel
theorem dL_law_348 : decode cL_law 348 = .ok (.if_icmp .ne 7, 3) := by decide +kernel
theorem dL_law_351 : decode cL_law 351 = .ok (.iconst 1, 1) := by decide +kernel
theorem dL_law_352 : decode cL_law 352 = .ok (.goto 4, 3) := by decide +kernel
theorem dL_law_355 : decode cL_law 355 = .ok (.iconst 0, 1) := by decide +kernel
theorem dL_law_356 : decode cL_law 356 = .ok (.ireturn, 1) := by decide +kernel
