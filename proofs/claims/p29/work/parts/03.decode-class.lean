theorem dX0_mayEnd_0 : decode cX0_mayEnd 0 = .ok (.iload_n 0, 1) := by decide +kernel
theorem dX0_mayEnd_1 : decode cX0_mayEnd 1 = .ok (.iconst 1, 1) := by decide +kernel
theorem dX0_mayEnd_2 : decode cX0_mayEnd 2 = .ok (.if_icmp .eq 15, 3) := by decide +kernel
theorem dX0_mayEnd_5 : decode cX0_mayEnd 5 = .ok (.iload_n 0, 1) := by decide +kernel
theorem dX0_mayEnd_6 : decode cX0_mayEnd 6 = .ok (.bipush 15, 2) := by decide +kernel
theorem dX0_mayEnd_8 : decode cX0_mayEnd 8 = .ok (.if_icmp .eq 9, 3) := by decide +kernel
theorem dX0_mayEnd_11 : decode cX0_mayEnd 11 = .ok (.iload_n 0, 1) := by decide +kernel
theorem dX0_mayEnd_12 : decode cX0_mayEnd 12 = .ok (.bipush 16, 2) := by decide +kernel
theorem dX0_mayEnd_14 : decode cX0_mayEnd 14 = .ok (.if_icmp .ne 7, 3) := by decide +kernel
theorem dX0_mayEnd_17 : decode cX0_mayEnd 17 = .ok (.iconst 1, 1) := by decide +kernel
theorem dX0_mayEnd_18 : decode cX0_mayEnd 18 = .ok (.goto 4, 3) := by decide +kernel
theorem dX0_mayEnd_21 : decode cX0_mayEnd 21 = .ok (.iconst 0, 1) := by decide +kernel
theorem dX0_mayEnd_22 : decode cX0_mayEnd 22 = .ok (.ireturn, 1) := by decide +kernel
set_option maxRecDepth 20000 in
theorem ggX0_after_X0_afterPartName : GoodIn wsX0_after wsX0_afterPartName := goodIn_r _ [4] (by decide +kernel) (by decide +kernel)
set_option maxRecDepth 20000 in
theorem gX0_after_X0_afterPartName : GoodIn wsX0_after (va_wsS RX0 9 yX0_afterPartName wsX0_afterPartName) := goodIn_app (goodIn_of _ (by decide +kernel)) ggX0_after_X0_afterPartName
set_option maxRecDepth 20000 in
theorem ggX0_after_X0_afterPart : GoodIn wsX0_after wsX0_afterPart := goodIn_r _ [7] (by decide +kernel) (by decide +kernel)
set_option maxRecDepth 20000 in
theorem gX0_after_X0_afterPart : GoodIn wsX0_after (va_wsS RX0 13 yX0_afterPart wsX0_afterPart) := goodIn_app (goodIn_of _ (by decide +kernel)) ggX0_after_X0_afterPart
set_option maxRecDepth 20000 in
theorem ggX0_after_X0_isIn : GoodIn wsX0_after wsX0_isIn := goodIn_r _ [10] (by decide +kernel) (by decide +kernel)
set_option maxRecDepth 20000 in
theorem gX0_after_X0_isIn : GoodIn wsX0_after (va_wsS RX0 16 yX0_isIn wsX0_isIn) := goodIn_app (goodIn_of _ (by decide +kernel)) ggX0_after_X0_isIn
set_option maxRecDepth 20000 in
theorem ggX0_after_X0_afterHourDigit : GoodIn wsX0_after wsX0_afterHourDigit := goodIn_r _ [13, 8, 9, 3, 10] (by decide +kernel) (by decide +kernel)
set_option maxRecDepth 20000 in
theorem gX0_after_X0_afterHourDigit : GoodIn wsX0_after (va_wsS RX0 20 yX0_afterHourDigit wsX0_afterHourDigit) := goodIn_app (goodIn_of _ (by decide +kernel)) ggX0_after_X0_afterHourDigit
set_option maxRecDepth 20000 in
theorem ggX0_after_X0_afterWindHour : GoodIn wsX0_after wsX0_afterWindHour := goodIn_r _ [16] (by decide +kernel) (by decide +kernel)
set_option maxRecDepth 20000 in
theorem gX0_after_X0_afterWindHour : GoodIn wsX0_after (va_wsS RX0 24 yX0_afterWindHour wsX0_afterWindHour) := goodIn_app (goodIn_of _ (by decide +kernel)) ggX0_after_X0_afterWindHour
theorem dX0_after_0 : decode cX0_after 0 = .ok (.iload_n 0, 1) := by decide +kernel
theorem dX0_after_1 : decode cX0_after 1 = .ok (.tableswitch 336 0 16 #[83, 88, 93, 110, 122, 139, 156, 167, 188, 209, 214, 231, 249, 267, 286, 296, 316], 83) := by decide +kernel
theorem dX0_after_84 : decode cX0_after 84 = .ok (.iload_n 1, 1) := by decide +kernel
theorem dX0_after_85 : decode cX0_after 85 = .ok (.invokestatic 9, 3) := by decide +kernel
theorem dX0_after_88 : decode cX0_after 88 = .ok (.ireturn, 1) := by decide +kernel
theorem dX0_after_89 : decode cX0_after 89 = .ok (.iload_n 1, 1) := by decide +kernel
theorem dX0_after_90 : decode cX0_after 90 = .ok (.invokestatic 13, 3) := by decide +kernel
theorem dX0_after_93 : decode cX0_after 93 = .ok (.ireturn, 1) := by decide +kernel
theorem dX0_after_94 : decode cX0_after 94 = .ok (.iload_n 1, 1) := by decide +kernel
theorem dX0_after_95 : decode cX0_after 95 = .ok (.bipush 49, 2) := by decide +kernel
theorem dX0_after_97 : decode cX0_after 97 = .ok (.bipush 53, 2) := by decide +kernel
theorem dX0_after_99 : decode cX0_after 99 = .ok (.invokestatic 16, 3) := by decide +kernel
theorem dX0_after_102 : decode cX0_after 102 = .ok (.ifCond .eq 7, 3) := by decide +kernel
theorem dX0_after_105 : decode cX0_after 105 = .ok (.iconst 3, 1) := by decide +kernel
theorem dX0_after_106 : decode cX0_after 106 = .ok (.goto 4, 3) := by decide +kernel
theorem dX0_after_109 : decode cX0_after 109 = .ok (.iconst (-1), 1) := by decide +kernel
theorem dX0_after_110 : decode cX0_after 110 = .ok (.ireturn, 1) := by decide +kernel
theorem dX0_after_111 : decode cX0_after 111 = .ok (.iload_n 1, 1) := by decide +kernel
theorem dX0_after_112 : decode cX0_after 112 = .ok (.bipush 64, 2) := by decide +kernel
theorem dX0_after_114 : decode cX0_after 114 = .ok (.if_icmp .ne 7, 3) := by decide +kernel
theorem dX0_after_117 : decode cX0_after 117 = .ok (.iconst 4, 1) := by decide +kernel
theorem dX0_after_118 : decode cX0_after 118 = .ok (.goto 4, 3) := by decide +kernel
theorem dX0_after_121 : decode cX0_after 121 = .ok (.iconst (-1), 1) := by decide +kernel
theorem dX0_after_122 : decode cX0_after 122 = .ok (.ireturn, 1) := by decide +kernel
theorem dX0_after_123 : decode cX0_after 123 = .ok (.iload_n 1, 1) := by decide +kernel
theorem dX0_after_124 : decode cX0_after 124 = .ok (.bipush 97, 2) := by decide +kernel
theorem dX0_after_126 : decode cX0_after 126 = .ok (.bipush 108, 2) := by decide +kernel
theorem dX0_after_128 : decode cX0_after 128 = .ok (.invokestatic 16, 3) := by decide +kernel
theorem dX0_after_131 : decode cX0_after 131 = .ok (.ifCond .eq 7, 3) := by decide +kernel
theorem dX0_after_134 : decode cX0_after 134 = .ok (.iconst 5, 1) := by decide +kernel
theorem dX0_after_135 : decode cX0_after 135 = .ok (.goto 4, 3) := by decide +kernel
theorem dX0_after_138 : decode cX0_after 138 = .ok (.iconst (-1), 1) := by decide +kernel
theorem dX0_after_139 : decode cX0_after 139 = .ok (.ireturn, 1) := by decide +kernel
theorem dX0_after_140 : decode cX0_after 140 = .ok (.iload_n 1, 1) := by decide +kernel
theorem dX0_after_141 : decode cX0_after 141 = .ok (.bipush 48, 2) := by decide +kernel
theorem dX0_after_143 : decode cX0_after 143 = .ok (.bipush 55, 2) := by decide +kernel
theorem dX0_after_145 : decode cX0_after 145 = .ok (.invokestatic 16, 3) := by decide +kernel
theorem dX0_after_148 : decode cX0_after 148 = .ok (.ifCond .eq 7, 3) := by decide +kernel
theorem dX0_after_151 : decode cX0_after 151 = .ok (.iconst 1, 1) := by decide +kernel
theorem dX0_after_152 : decode cX0_after 152 = .ok (.goto 4, 3) := by decide +kernel
theorem dX0_after_155 : decode cX0_after 155 = .ok (.iconst (-1), 1) := by decide +kernel
theorem dX0_after_156 : decode cX0_after 156 = .ok (.ireturn, 1) := by decide +kernel
theorem dX0_after_157 : decode cX0_after 157 = .ok (.iload_n 1, 1) := by decide +kernel
theorem dX0_after_158 : decode cX0_after 158 = .ok (.bipush 7, 2) := by decide +kernel
theorem dX0_after_160 : decode cX0_after 160 = .ok (.bipush 8, 2) := by decide +kernel
theorem dX0_after_162 : decode cX0_after 162 = .ok (.bipush 9, 2) := by decide +kernel
theorem dX0_after_164 : decode cX0_after 164 = .ok (.invokestatic 20, 3) := by decide +kernel
theorem dX0_after_167 : decode cX0_after 167 = .ok (.ireturn, 1) := by decide +kernel
theorem dX0_after_168 : decode cX0_after 168 = .ok (.iload_n 1, 1) := by decide +kernel
theorem dX0_after_169 : decode cX0_after 169 = .ok (.bipush 48, 2) := by decide +kernel
theorem dX0_after_171 : decode cX0_after 171 = .ok (.bipush 57, 2) := by decide +kernel
theorem dX0_after_173 : decode cX0_after 173 = .ok (.invokestatic 16, 3) := by decide +kernel
theorem dX0_after_176 : decode cX0_after 176 = .ok (.ifCond .eq 8, 3) := by decide +kernel
theorem dX0_after_179 : decode cX0_after 179 = .ok (.bipush 9, 2) := by decide +kernel
theorem dX0_after_181 : decode cX0_after 181 = .ok (.goto 7, 3) := by decide +kernel
theorem dX0_after_184 : decode cX0_after 184 = .ok (.iload_n 1, 1) := by decide +kernel
theorem dX0_after_185 : decode cX0_after 185 = .ok (.invokestatic 24, 3) := by decide +kernel
theorem dX0_after_188 : decode cX0_after 188 = .ok (.ireturn, 1) := by decide +kernel
theorem dX0_after_189 : decode cX0_after 189 = .ok (.iload_n 1, 1) := by decide +kernel
theorem dX0_after_190 : decode cX0_after 190 = .ok (.bipush 48, 2) := by decide +kernel
theorem dX0_after_192 : decode cX0_after 192 = .ok (.bipush 51, 2) := by decide +kernel
theorem dX0_after_194 : decode cX0_after 194 = .ok (.invokestatic 16, 3) := by decide +kernel
theorem dX0_after_197 : decode cX0_after 197 = .ok (.ifCond .eq 8, 3) := by decide +kernel
theorem dX0_after_200 : decode cX0_after 200 = .ok (.bipush 9, 2) := by decide +kernel
theorem dX0_after_202 : decode cX0_after 202 = .ok (.goto 7, 3) := by decide +kernel
theorem dX0_after_205 : decode cX0_after 205 = .ok (.iload_n 1, 1) := by decide +kernel
theorem dX0_after_206 : decode cX0_after 206 = .ok (.invokestatic 24, 3) := by decide +kernel
theorem dX0_after_209 : decode cX0_after 209 = .ok (.ireturn, 1) := by decide +kernel
theorem dX0_after_210 : decode cX0_after 210 = .ok (.iload_n 1, 1) := by decide +kernel
theorem dX0_after_211 : decode cX0_after 211 = .ok (.invokestatic 24, 3) := by decide +kernel
theorem dX0_after_214 : decode cX0_after 214 = .ok (.ireturn, 1) := by decide +kernel
theorem dX0_after_215 : decode cX0_after 215 = .ok (.iload_n 1, 1) := by decide +kernel
theorem dX0_after_216 : decode cX0_after 216 = .ok (.bipush 48, 2) := by decide +kernel
theorem dX0_after_218 : decode cX0_after 218 = .ok (.bipush 57, 2) := by decide +kernel
theorem dX0_after_220 : decode cX0_after 220 = .ok (.invokestatic 16, 3) := by decide +kernel
theorem dX0_after_223 : decode cX0_after 223 = .ok (.ifCond .eq 7, 3) := by decide +kernel
theorem dX0_after_226 : decode cX0_after 226 = .ok (.iconst 1, 1) := by decide +kernel
theorem dX0_after_227 : decode cX0_after 227 = .ok (.goto 4, 3) := by decide +kernel
theorem dX0_after_230 : decode cX0_after 230 = .ok (.iconst (-1), 1) := by decide +kernel
theorem dX0_after_231 : decode cX0_after 231 = .ok (.ireturn, 1) := by decide +kernel
theorem dX0_after_232 : decode cX0_after 232 = .ok (.iload_n 1, 1) := by decide +kernel
theorem dX0_after_233 : decode cX0_after 233 = .ok (.bipush 48, 2) := by decide +kernel
theorem dX0_after_235 : decode cX0_after 235 = .ok (.bipush 57, 2) := by decide +kernel
theorem dX0_after_237 : decode cX0_after 237 = .ok (.invokestatic 16, 3) := by decide +kernel
theorem dX0_after_240 : decode cX0_after 240 = .ok (.ifCond .eq 8, 3) := by decide +kernel
theorem dX0_after_243 : decode cX0_after 243 = .ok (.bipush 12, 2) := by decide +kernel
theorem dX0_after_245 : decode cX0_after 245 = .ok (.goto 4, 3) := by decide +kernel
theorem dX0_after_248 : decode cX0_after 248 = .ok (.iconst (-1), 1) := by decide +kernel
theorem dX0_after_249 : decode cX0_after 249 = .ok (.ireturn, 1) := by decide +kernel
theorem dX0_after_250 : decode cX0_after 250 = .ok (.iload_n 1, 1) := by decide +kernel
theorem dX0_after_251 : decode cX0_after 251 = .ok (.bipush 48, 2) := by decide +kernel
theorem dX0_after_253 : decode cX0_after 253 = .ok (.bipush 51, 2) := by decide +kernel
theorem dX0_after_255 : decode cX0_after 255 = .ok (.invokestatic 16, 3) := by decide +kernel
theorem dX0_after_258 : decode cX0_after 258 = .ok (.ifCond .eq 8, 3) := by decide +kernel
theorem dX0_after_261 : decode cX0_after 261 = .ok (.bipush 13, 2) := by decide +kernel
theorem dX0_after_263 : decode cX0_after 263 = .ok (.goto 4, 3) := by decide +kernel
theorem dX0_after_266 : decode cX0_after 266 = .ok (.iconst (-1), 1) := by decide +kernel
theorem dX0_after_267 : decode cX0_after 267 = .ok (.ireturn, 1) := by decide +kernel
theorem dX0_after_268 : decode cX0_after 268 = .ok (.iload_n 1, 1) := by decide +kernel
theorem dX0_after_269 : decode cX0_after 269 = .ok (.bipush 110, 2) := by decide +kernel
theorem dX0_after_271 : decode cX0_after 271 = .ok (.if_icmp .eq 9, 3) := by decide +kernel
theorem dX0_after_274 : decode cX0_after 274 = .ok (.iload_n 1, 1) := by decide +kernel
theorem dX0_after_275 : decode cX0_after 275 = .ok (.bipush 115, 2) := by decide +kernel
theorem dX0_after_277 : decode cX0_after 277 = .ok (.if_icmp .ne 8, 3) := by decide +kernel
theorem dX0_after_280 : decode cX0_after 280 = .ok (.bipush 14, 2) := by decide +kernel
theorem dX0_after_282 : decode cX0_after 282 = .ok (.goto 4, 3) := by decide +kernel
theorem dX0_after_285 : decode cX0_after 285 = .ok (.iconst (-1), 1) := by decide +kernel
theorem dX0_after_286 : decode cX0_after 286 = .ok (.ireturn, 1) := by decide +kernel
theorem dX0_after_287 : decode cX0_after 287 = .ok (.iload_n 1, 1) := by decide +kernel
theorem dX0_after_288 : decode cX0_after 288 = .ok (.bipush 15, 2) := by decide +kernel
theorem dX0_after_290 : decode cX0_after 290 = .ok (.bipush 16, 2) := by decide +kernel
theorem dX0_after_292 : decode cX0_after 292 = .ok (.iconst 1, 1) := by decide +kernel
theorem dX0_after_293 : decode cX0_after 293 = .ok (.invokestatic 20, 3) := by decide +kernel
theorem dX0_after_296 : decode cX0_after 296 = .ok (.ireturn, 1) := by decide +kernel
theorem dX0_after_297 : decode cX0_after 297 = .ok (.iload_n 1, 1) := by decide +kernel
theorem dX0_after_298 : decode cX0_after 298 = .ok (.bipush 48, 2) := by decide +kernel
theorem dX0_after_300 : decode cX0_after 300 = .ok (.bipush 57, 2) := by decide +kernel
theorem dX0_after_302 : decode cX0_after 302 = .ok (.invokestatic 16, 3) := by decide +kernel
theorem dX0_after_305 : decode cX0_after 305 = .ok (.ifCond .eq 7, 3) := by decide +kernel
theorem dX0_after_308 : decode cX0_after 308 = .ok (.iconst 1, 1) := by decide +kernel
theorem dX0_after_309 : decode cX0_after 309 = .ok (.goto 7, 3) := by decide +kernel
theorem dX0_after_312 : decode cX0_after 312 = .ok (.iload_n 1, 1) := by decide +kernel
theorem dX0_after_313 : decode cX0_after 313 = .ok (.invokestatic 13, 3) := by decide +kernel
theorem dX0_after_316 : decode cX0_after 316 = .ok (.ireturn, 1) := by decide +kernel
theorem dX0_after_317 : decode cX0_after 317 = .ok (.iload_n 1, 1) := by decide +kernel
theorem dX0_after_318 : decode cX0_after 318 = .ok (.bipush 48, 2) := by decide +kernel
theorem dX0_after_320 : decode cX0_after 320 = .ok (.bipush 51, 2) := by decide +kernel
theorem dX0_after_322 : decode cX0_after 322 = .ok (.invokestatic 16, 3) := by decide +kernel
theorem dX0_after_325 : decode cX0_after 325 = .ok (.ifCond .eq 7, 3) := by decide +kernel
theorem dX0_after_328 : decode cX0_after 328 = .ok (.iconst 1, 1) := by decide +kernel
theorem dX0_after_329 : decode cX0_after 329 = .ok (.goto 7, 3) := by decide +kernel
theorem dX0_after_332 : decode cX0_after 332 = .ok (.iload_n 1, 1) := by decide +kernel
theorem dX0_after_333 : decode cX0_after 333 = .ok (.invokestatic 13, 3) := by decide +kernel
theorem dX0_after_336 : decode cX0_after 336 = .ok (.ireturn, 1) := by decide +kernel
theorem dX0_after_337 : decode cX0_after 337 = .ok (.iconst (-1), 1) := by decide +kernel
theorem dX0_after_338 : decode cX0_after 338 = .ok (.ireturn, 1) := by decide +kernel
theorem dX0_afterPartName_0 : decode cX0_afterPartName 0 = .ok (.iload_n 0, 1) := by decide +kernel
theorem dX0_afterPartName_1 : decode cX0_afterPartName 1 = .ok (.lookupswitch 53 #[(99, 50), (104, 45), (109, 43), (119, 47)], 43) := by decide +kernel
theorem dX0_afterPartName_44 : decode cX0_afterPartName 44 = .ok (.iconst 2, 1) := by decide +kernel
theorem dX0_afterPartName_45 : decode cX0_afterPartName 45 = .ok (.ireturn, 1) := by decide +kernel
theorem dX0_afterPartName_46 : decode cX0_afterPartName 46 = .ok (.iconst 3, 1) := by decide +kernel
theorem dX0_afterPartName_47 : decode cX0_afterPartName 47 = .ok (.ireturn, 1) := by decide +kernel
theorem dX0_afterPartName_48 : decode cX0_afterPartName 48 = .ok (.bipush 6, 2) := by decide +kernel
theorem dX0_afterPartName_50 : decode cX0_afterPartName 50 = .ok (.ireturn, 1) := by decide +kernel
theorem dX0_afterPartName_51 : decode cX0_afterPartName 51 = .ok (.bipush 11, 2) := by decide +kernel
theorem dX0_afterPartName_53 : decode cX0_afterPartName 53 = .ok (.ireturn, 1) := by decide +kernel
theorem dX0_afterPartName_54 : decode cX0_afterPartName 54 = .ok (.iconst (-1), 1) := by decide +kernel
theorem dX0_afterPartName_55 : decode cX0_afterPartName 55 = .ok (.ireturn, 1) := by decide +kernel
theorem dX0_afterPart_0 : decode cX0_afterPart 0 = .ok (.iload_n 0, 1) := by decide +kernel
theorem dX0_afterPart_1 : decode cX0_afterPart 1 = .ok (.bipush 59, 2) := by decide +kernel
theorem dX0_afterPart_3 : decode cX0_afterPart 3 = .ok (.if_icmp .ne 7, 3) := by decide +kernel
theorem dX0_afterPart_6 : decode cX0_afterPart 6 = .ok (.iconst 0, 1) := by decide +kernel
theorem dX0_afterPart_7 : decode cX0_afterPart 7 = .ok (.goto 4, 3) := by decide +kernel
theorem dX0_afterPart_10 : decode cX0_afterPart 10 = .ok (.iconst (-1), 1) := by decide +kernel
theorem dX0_afterPart_11 : decode cX0_afterPart 11 = .ok (.ireturn, 1) := by decide +kernel
theorem dX0_afterWindHour_0 : decode cX0_afterWindHour 0 = .ok (.iload_n 0, 1) := by decide +kernel
theorem dX0_afterWindHour_1 : decode cX0_afterWindHour 1 = .ok (.bipush 61, 2) := by decide +kernel
theorem dX0_afterWindHour_3 : decode cX0_afterWindHour 3 = .ok (.if_icmp .ne 8, 3) := by decide +kernel
theorem dX0_afterWindHour_6 : decode cX0_afterWindHour 6 = .ok (.bipush 10, 2) := by decide +kernel
theorem dX0_afterWindHour_8 : decode cX0_afterWindHour 8 = .ok (.goto 4, 3) := by decide +kernel
theorem dX0_afterWindHour_11 : decode cX0_afterWindHour 11 = .ok (.iconst (-1), 1) := by decide +kernel
theorem dX0_afterWindHour_12 : decode cX0_afterWindHour 12 = .ok (.ireturn, 1) := by decide +kernel
set_option maxRecDepth 20000 in
theorem ggX0_afterHourDigit_X0_isIn : GoodIn wsX0_afterHourDigit wsX0_isIn := goodIn_r _ [4] (by decide +kernel) (by decide +kernel)
set_option maxRecDepth 20000 in
theorem gX0_afterHourDigit_X0_isIn : GoodIn wsX0_afterHourDigit (va_wsS RX0 16 yX0_isIn wsX0_isIn) := goodIn_app (goodIn_of _ (by decide +kernel)) ggX0_afterHourDigit_X0_isIn
theorem dX0_afterHourDigit_0 : decode cX0_afterHourDigit 0 = .ok (.iload_n 0, 1) := by decide +kernel
theorem dX0_afterHourDigit_1 : decode cX0_afterHourDigit 1 = .ok (.bipush 49, 2) := by decide +kernel
theorem dX0_afterHourDigit_3 : decode cX0_afterHourDigit 3 = .ok (.if_icmp .ne 5, 3) := by decide +kernel
theorem dX0_afterHourDigit_6 : decode cX0_afterHourDigit 6 = .ok (.iload_n 1, 1) := by decide +kernel
theorem dX0_afterHourDigit_7 : decode cX0_afterHourDigit 7 = .ok (.ireturn, 1) := by decide +kernel
theorem dX0_afterHourDigit_8 : decode cX0_afterHourDigit 8 = .ok (.iload_n 0, 1) := by decide +kernel
theorem dX0_afterHourDigit_9 : decode cX0_afterHourDigit 9 = .ok (.bipush 50, 2) := by decide +kernel
theorem dX0_afterHourDigit_11 : decode cX0_afterHourDigit 11 = .ok (.if_icmp .ne 5, 3) := by decide +kernel
theorem dX0_afterHourDigit_14 : decode cX0_afterHourDigit 14 = .ok (.iload_n 2, 1) := by decide +kernel
theorem dX0_afterHourDigit_15 : decode cX0_afterHourDigit 15 = .ok (.ireturn, 1) := by decide +kernel
theorem dX0_afterHourDigit_16 : decode cX0_afterHourDigit 16 = .ok (.iload_n 0, 1) := by decide +kernel
theorem dX0_afterHourDigit_17 : decode cX0_afterHourDigit 17 = .ok (.bipush 48, 2) := by decide +kernel
theorem dX0_afterHourDigit_19 : decode cX0_afterHourDigit 19 = .ok (.bipush 57, 2) := by decide +kernel
theorem dX0_afterHourDigit_21 : decode cX0_afterHourDigit 21 = .ok (.invokestatic 16, 3) := by decide +kernel
theorem dX0_afterHourDigit_24 : decode cX0_afterHourDigit 24 = .ok (.ifCond .eq 7, 3) := by decide +kernel
theorem dX0_afterHourDigit_27 : decode cX0_afterHourDigit 27 = .ok (.iload_n 3, 1) := by decide +kernel
theorem dX0_afterHourDigit_28 : decode cX0_afterHourDigit 28 = .ok (.goto 4, 3) := by decide +kernel
theorem dX0_afterHourDigit_31 : decode cX0_afterHourDigit 31 = .ok (.iconst (-1), 1) := by decide +kernel
theorem dX0_afterHourDigit_32 : decode cX0_afterHourDigit 32 = .ok (.ireturn, 1) := by decide +kernel
theorem dX0_isIn_0 : decode cX0_isIn 0 = .ok (.iload_n 0, 1) := by decide +kernel
theorem dX0_isIn_1 : decode cX0_isIn 1 = .ok (.iload_n 1, 1) := by decide +kernel
theorem dX0_isIn_2 : decode cX0_isIn 2 = .ok (.if_icmp .lt 12, 3) := by decide +kernel
theorem dX0_isIn_5 : decode cX0_isIn 5 = .ok (.iload_n 0, 1) := by decide +kernel
theorem dX0_isIn_6 : decode cX0_isIn 6 = .ok (.iload_n 2, 1) := by decide +kernel
theorem dX0_isIn_7 : decode cX0_isIn 7 = .ok (.if_icmp .gt 7, 3) := by decide +kernel
theorem dX0_isIn_10 : decode cX0_isIn 10 = .ok (.iconst 1, 1) := by decide +kernel
theorem dX0_isIn_11 : decode cX0_isIn 11 = .ok (.goto 4, 3) := by decide +kernel
theorem dX0_isIn_14 : decode cX0_isIn 14 = .ok (.iconst 0, 1) := by decide +kernel
theorem dX0_isIn_15 : decode cX0_isIn 15 = .ok (.ireturn, 1) := by decide +kernel
set_option maxRecDepth 20000 in
theorem ggX1_init_X4_init : GoodIn wsX1_init wsX4_init := goodIn_r _ [12, 13, 2, 3, 14, 15, 16, 17, 18, 19, 20, 21, 22, 23, 24, 25, 26, 27, 28, 32, 33, 34, 35, 36, 37, 38, 39, 40, 41, 42] (by decide +kernel) (by decide +kernel)
set_option maxRecDepth 20000 in
theorem gX1_init_X4_init : GoodIn wsX1_init (wsX4_init) := ggX1_init_X4_init
theorem dX1_init_0 : decode cX1_init 0 = .ok (.aload_n 0, 1) := by decide +kernel
theorem dX1_init_1 : decode cX1_init 1 = .ok (.invokespecial 3, 3) := by decide +kernel
theorem dX1_init_4 : decode cX1_init 4 = .ok (.aload_n 0, 1) := by decide +kernel
theorem dX1_init_5 : decode cX1_init 5 = .ok (.iconst 4, 1) := by decide +kernel
theorem dX1_init_6 : decode cX1_init 6 = .ok (.anewarray 9, 3) := by decide +kernel
theorem dX1_init_9 : decode cX1_init 9 = .ok (.putfield 11, 3) := by decide +kernel
theorem dX1_init_12 : decode cX1_init 12 = .ok (.iconst 0, 1) := by decide +kernel
theorem dX1_init_13 : decode cX1_init 13 = .ok (.istore_n 1, 1) := by decide +kernel
theorem dX1_init_14 : decode cX1_init 14 = .ok (.iload_n 1, 1) := by decide +kernel
theorem dX1_init_15 : decode cX1_init 15 = .ok (.aload_n 0, 1) := by decide +kernel
theorem dX1_init_16 : decode cX1_init 16 = .ok (.getfield 11, 3) := by decide +kernel
theorem dX1_init_19 : decode cX1_init 19 = .ok (.arraylength, 1) := by decide +kernel
theorem dX1_init_20 : decode cX1_init 20 = .ok (.if_icmp .ge 22, 3) := by decide +kernel
theorem dX1_init_23 : decode cX1_init 23 = .ok (.aload_n 0, 1) := by decide +kernel
theorem dX1_init_24 : decode cX1_init 24 = .ok (.getfield 11, 3) := by decide +kernel
theorem dX1_init_27 : decode cX1_init 27 = .ok (.iload_n 1, 1) := by decide +kernel
theorem dX1_init_28 : decode cX1_init 28 = .ok (.new 9, 3) := by decide +kernel
theorem dX1_init_31 : decode cX1_init 31 = .ok (.dup, 1) := by decide +kernel
theorem dX1_init_32 : decode cX1_init 32 = .ok (.invokespecial 17, 3) := by decide +kernel
theorem dX1_init_35 : decode cX1_init 35 = .ok (.aastore, 1) := by decide +kernel
theorem dX1_init_36 : decode cX1_init 36 = .ok (.iinc 1 1, 3) := by decide +kernel
theorem dX1_init_39 : decode cX1_init 39 = .ok (.goto (-25), 3) := by decide +kernel
theorem dX1_init_42 : decode cX1_init 42 = .ok (.aload_n 0, 1) := by decide +kernel
theorem dX1_init_43 : decode cX1_init 43 = .ok (.iconst 0, 1) := by decide +kernel
theorem dX1_init_44 : decode cX1_init 44 = .ok (.putfield 18, 3) := by decide +kernel
theorem dX1_init_47 : decode cX1_init 47 = .ok (.aload_n 0, 1) := by decide +kernel
theorem dX1_init_48 : decode cX1_init 48 = .ok (.iconst 0, 1) := by decide +kernel
theorem dX1_init_49 : decode cX1_init 49 = .ok (.putfield 22, 3) := by decide +kernel
theorem dX1_init_52 : decode cX1_init 52 = .ok (.return_, 1) := by decide +kernel
theorem dX1_stateAt_0 : decode cX1_stateAt 0 = .ok (.aload_n 0, 1) := by decide +kernel
theorem dX1_stateAt_1 : decode cX1_stateAt 1 = .ok (.getfield 18, 3) := by decide +kernel
theorem dX1_stateAt_4 : decode cX1_stateAt 4 = .ok (.iload_n 1, 1) := by decide +kernel
theorem dX1_stateAt_5 : decode cX1_stateAt 5 = .ok (.iadd, 1) := by decide +kernel
theorem dX1_stateAt_6 : decode cX1_stateAt 6 = .ok (.iconst 4, 1) := by decide +kernel
theorem dX1_stateAt_7 : decode cX1_stateAt 7 = .ok (.irem, 1) := by decide +kernel
theorem dX1_stateAt_8 : decode cX1_stateAt 8 = .ok (.istore_n 2, 1) := by decide +kernel
theorem dX1_stateAt_9 : decode cX1_stateAt 9 = .ok (.iload_n 2, 1) := by decide +kernel
theorem dX1_stateAt_10 : decode cX1_stateAt 10 = .ok (.ifCond .lt 21, 3) := by decide +kernel
theorem dX1_stateAt_13 : decode cX1_stateAt 13 = .ok (.iload_n 2, 1) := by decide +kernel
theorem dX1_stateAt_14 : decode cX1_stateAt 14 = .ok (.aload_n 0, 1) := by decide +kernel
theorem dX1_stateAt_15 : decode cX1_stateAt 15 = .ok (.getfield 11, 3) := by decide +kernel
theorem dX1_stateAt_18 : decode cX1_stateAt 18 = .ok (.arraylength, 1) := by decide +kernel
theorem dX1_stateAt_19 : decode cX1_stateAt 19 = .ok (.if_icmp .ge 12, 3) := by decide +kernel
theorem dX1_stateAt_22 : decode cX1_stateAt 22 = .ok (.aload_n 0, 1) := by decide +kernel
theorem dX1_stateAt_23 : decode cX1_stateAt 23 = .ok (.getfield 11, 3) := by decide +kernel
theorem dX1_stateAt_26 : decode cX1_stateAt 26 = .ok (.iload_n 2, 1) := by decide +kernel
theorem dX1_stateAt_27 : decode cX1_stateAt 27 = .ok (.aaload, 1) := by decide +kernel
theorem dX1_stateAt_28 : decode cX1_stateAt 28 = .ok (.goto 4, 3) := by decide +kernel
theorem dX1_stateAt_31 : decode cX1_stateAt 31 = .ok (.aconst_null, 1) := by decide +kernel
theorem dX1_stateAt_32 : decode cX1_stateAt 32 = .ok (.areturn, 1) := by decide +kernel
set_option maxRecDepth 20000 in
theorem ggX1_add_X1_stateAt : GoodIn wsX1_add wsX1_stateAt := goodIn_r _ [7, 2, 8, 28, 29, 30] (by decide +kernel) (by decide +kernel)
set_option maxRecDepth 20000 in
theorem gX1_add_X1_stateAt : GoodIn wsX1_add (wsV RX1 25 RX1 yX1_stateAt wsX1_stateAt) := goodIn_app (goodIn_of _ (by decide +kernel)) ggX1_add_X1_stateAt
set_option maxRecDepth 20000 in
theorem ggX1_add_X4_copyFrom : GoodIn wsX1_add wsX4_copyFrom := goodIn_r _ [13, 14, 15, 16, 17, 18, 19, 20, 21, 22, 23, 24, 25, 26, 27, 31, 32, 33, 34, 35, 36, 37, 38, 39, 40, 41] (by decide +kernel) (by decide +kernel)
set_option maxRecDepth 20000 in
theorem gX1_add_X4_copyFrom : GoodIn wsX1_add (wsV RX1 29 RX4 yX4_copyFrom wsX4_copyFrom) := goodIn_app (goodIn_of _ (by decide +kernel)) ggX1_add_X4_copyFrom
theorem dX1_add_0 : decode cX1_add 0 = .ok (.aload_n 0, 1) := by decide +kernel
theorem dX1_add_1 : decode cX1_add 1 = .ok (.getfield 22, 3) := by decide +kernel
theorem dX1_add_4 : decode cX1_add 4 = .ok (.iconst 4, 1) := by decide +kernel
theorem dX1_add_5 : decode cX1_add 5 = .ok (.if_icmp .ne 25, 3) := by decide +kernel
theorem dX1_add_8 : decode cX1_add 8 = .ok (.aload_n 0, 1) := by decide +kernel
theorem dX1_add_9 : decode cX1_add 9 = .ok (.aload_n 0, 1) := by decide +kernel
theorem dX1_add_10 : decode cX1_add 10 = .ok (.getfield 18, 3) := by decide +kernel
theorem dX1_add_13 : decode cX1_add 13 = .ok (.iconst 1, 1) := by decide +kernel
theorem dX1_add_14 : decode cX1_add 14 = .ok (.iadd, 1) := by decide +kernel
theorem dX1_add_15 : decode cX1_add 15 = .ok (.iconst 4, 1) := by decide +kernel
theorem dX1_add_16 : decode cX1_add 16 = .ok (.irem, 1) := by decide +kernel
theorem dX1_add_17 : decode cX1_add 17 = .ok (.putfield 18, 3) := by decide +kernel
theorem dX1_add_20 : decode cX1_add 20 = .ok (.aload_n 0, 1) := by decide +kernel
theorem dX1_add_21 : decode cX1_add 21 = .ok (.dup, 1) := by decide +kernel
theorem dX1_add_22 : decode cX1_add 22 = .ok (.getfield 22, 3) := by decide +kernel
theorem dX1_add_25 : decode cX1_add 25 = .ok (.iconst 1, 1) := by decide +kernel
theorem dX1_add_26 : decode cX1_add 26 = .ok (.isub, 1) := by decide +kernel
theorem dX1_add_27 : decode cX1_add 27 = .ok (.putfield 22, 3) := by decide +kernel
theorem dX1_add_30 : decode cX1_add 30 = .ok (.aload_n 0, 1) := by decide +kernel
theorem dX1_add_31 : decode cX1_add 31 = .ok (.aload_n 0, 1) := by decide +kernel
theorem dX1_add_32 : decode cX1_add 32 = .ok (.getfield 22, 3) := by decide +kernel
theorem dX1_add_35 : decode cX1_add 35 = .ok (.invokevirtual 25, 3) := by decide +kernel
theorem dX1_add_38 : decode cX1_add 38 = .ok (.astore_n 2, 1) := by decide +kernel
theorem dX1_add_39 : decode cX1_add 39 = .ok (.aload_n 2, 1) := by decide +kernel
theorem dX1_add_40 : decode cX1_add 40 = .ok (.ifnull 18, 3) := by decide +kernel
theorem dX1_add_43 : decode cX1_add 43 = .ok (.aload_n 2, 1) := by decide +kernel
theorem dX1_add_44 : decode cX1_add 44 = .ok (.aload_n 1, 1) := by decide +kernel
theorem dX1_add_45 : decode cX1_add 45 = .ok (.invokevirtual 29, 3) := by decide +kernel
theorem dX1_add_48 : decode cX1_add 48 = .ok (.aload_n 0, 1) := by decide +kernel
theorem dX1_add_49 : decode cX1_add 49 = .ok (.dup, 1) := by decide +kernel
theorem dX1_add_50 : decode cX1_add 50 = .ok (.getfield 22, 3) := by decide +kernel
theorem dX1_add_53 : decode cX1_add 53 = .ok (.iconst 1, 1) := by decide +kernel
theorem dX1_add_54 : decode cX1_add 54 = .ok (.iadd, 1) := by decide +kernel
theorem dX1_add_55 : decode cX1_add 55 = .ok (.putfield 22, 3) := by decide +kernel
theorem dX1_add_58 : decode cX1_add 58 = .ok (.return_, 1) := by decide +kernel
set_option maxRecDepth 20000 in
theorem ggX1_takeLatest_X1_stateAt : GoodIn wsX1_takeLatest wsX1_stateAt := goodIn_r _ [6, 7, 8, 28, 29, 30] (by decide +kernel) (by decide +kernel)
set_option maxRecDepth 20000 in
theorem gX1_takeLatest_X1_stateAt : GoodIn wsX1_takeLatest (wsV RX1 25 RX1 yX1_stateAt wsX1_stateAt) := goodIn_app (goodIn_of _ (by decide +kernel)) ggX1_takeLatest_X1_stateAt
set_option maxRecDepth 20000 in
theorem ggX1_takeLatest_X4_copyFrom : GoodIn wsX1_takeLatest wsX4_copyFrom := goodIn_r _ [13, 14, 15, 16, 17, 18, 19, 20, 21, 22, 23, 24, 25, 26, 27, 31, 32, 33, 34, 35, 36, 37, 38, 39, 40, 41] (by decide +kernel) (by decide +kernel)
set_option maxRecDepth 20000 in
theorem gX1_takeLatest_X4_copyFrom : GoodIn wsX1_takeLatest (wsV RX1 29 RX4 yX4_copyFrom wsX4_copyFrom) := goodIn_app (goodIn_of _ (by decide +kernel)) ggX1_takeLatest_X4_copyFrom
theorem dX1_takeLatest_0 : decode cX1_takeLatest 0 = .ok (.aload_n 0, 1) := by decide +kernel
theorem dX1_takeLatest_1 : decode cX1_takeLatest 1 = .ok (.aload_n 0, 1) := by decide +kernel
theorem dX1_takeLatest_2 : decode cX1_takeLatest 2 = .ok (.getfield 22, 3) := by decide +kernel
theorem dX1_takeLatest_5 : decode cX1_takeLatest 5 = .ok (.iconst 1, 1) := by decide +kernel
theorem dX1_takeLatest_6 : decode cX1_takeLatest 6 = .ok (.isub, 1) := by decide +kernel
theorem dX1_takeLatest_7 : decode cX1_takeLatest 7 = .ok (.invokevirtual 25, 3) := by decide +kernel
theorem dX1_takeLatest_10 : decode cX1_takeLatest 10 = .ok (.astore_n 2, 1) := by decide +kernel
theorem dX1_takeLatest_11 : decode cX1_takeLatest 11 = .ok (.aload_n 0, 1) := by decide +kernel
theorem dX1_takeLatest_12 : decode cX1_takeLatest 12 = .ok (.getfield 22, 3) := by decide +kernel
theorem dX1_takeLatest_15 : decode cX1_takeLatest 15 = .ok (.ifCond .le 22, 3) := by decide +kernel
theorem dX1_takeLatest_18 : decode cX1_takeLatest 18 = .ok (.aload_n 2, 1) := by decide +kernel
theorem dX1_takeLatest_19 : decode cX1_takeLatest 19 = .ok (.ifnull 18, 3) := by decide +kernel
theorem dX1_takeLatest_22 : decode cX1_takeLatest 22 = .ok (.aload_n 1, 1) := by decide +kernel
theorem dX1_takeLatest_23 : decode cX1_takeLatest 23 = .ok (.aload_n 2, 1) := by decide +kernel
theorem dX1_takeLatest_24 : decode cX1_takeLatest 24 = .ok (.invokevirtual 29, 3) := by decide +kernel
theorem dX1_takeLatest_27 : decode cX1_takeLatest 27 = .ok (.aload_n 0, 1) := by decide +kernel
theorem dX1_takeLatest_28 : decode cX1_takeLatest 28 = .ok (.dup, 1) := by decide +kernel
theorem dX1_takeLatest_29 : decode cX1_takeLatest 29 = .ok (.getfield 22, 3) := by decide +kernel
theorem dX1_takeLatest_32 : decode cX1_takeLatest 32 = .ok (.iconst 1, 1) := by decide +kernel
theorem dX1_takeLatest_33 : decode cX1_takeLatest 33 = .ok (.isub, 1) := by decide +kernel
theorem dX1_takeLatest_34 : decode cX1_takeLatest 34 = .ok (.putfield 22, 3) := by decide +kernel
theorem dX1_takeLatest_37 : decode cX1_takeLatest 37 = .ok (.return_, 1) := by decide +kernel
theorem dX2_hasSun_0 : decode cX2_hasSun 0 = .ok (.iload_n 0, 1) := by decide +kernel
theorem dX2_hasSun_1 : decode cX2_hasSun 1 = .ok (.bipush 6, 2) := by decide +kernel
theorem dX2_hasSun_3 : decode cX2_hasSun 3 = .ok (.if_icmp .lt 13, 3) := by decide +kernel
theorem dX2_hasSun_6 : decode cX2_hasSun 6 = .ok (.iload_n 0, 1) := by decide +kernel
theorem dX2_hasSun_7 : decode cX2_hasSun 7 = .ok (.bipush 18, 2) := by decide +kernel
theorem dX2_hasSun_9 : decode cX2_hasSun 9 = .ok (.if_icmp .gt 7, 3) := by decide +kernel
theorem dX2_hasSun_12 : decode cX2_hasSun 12 = .ok (.iconst 1, 1) := by decide +kernel
theorem dX2_hasSun_13 : decode cX2_hasSun 13 = .ok (.goto 4, 3) := by decide +kernel
theorem dX2_hasSun_16 : decode cX2_hasSun 16 = .ok (.iconst 0, 1) := by decide +kernel
theorem dX2_hasSun_17 : decode cX2_hasSun 17 = .ok (.ireturn, 1) := by decide +kernel
theorem dX2_length_0 : decode cX2_length 0 = .ok (.iload_n 1, 1) := by decide +kernel
theorem dX2_length_1 : decode cX2_length 1 = .ok (.bipush 6, 2) := by decide +kernel
theorem dX2_length_3 : decode cX2_length 3 = .ok (.if_icmp .lt 9, 3) := by decide +kernel
theorem dX2_length_6 : decode cX2_length 6 = .ok (.iload_n 1, 1) := by decide +kernel
theorem dX2_length_7 : decode cX2_length 7 = .ok (.bipush 18, 2) := by decide +kernel
theorem dX2_length_9 : decode cX2_length 9 = .ok (.if_icmp .le 5, 3) := by decide +kernel
theorem dX2_length_12 : decode cX2_length 12 = .ok (.iconst 0, 1) := by decide +kernel
theorem dX2_length_13 : decode cX2_length 13 = .ok (.ireturn, 1) := by decide +kernel
theorem dX2_length_14 : decode cX2_length 14 = .ok (.iload_n 1, 1) := by decide +kernel
theorem dX2_length_15 : decode cX2_length 15 = .ok (.bipush 12, 2) := by decide +kernel
theorem dX2_length_17 : decode cX2_length 17 = .ok (.if_icmp .ge 10, 3) := by decide +kernel
theorem dX2_length_20 : decode cX2_length 20 = .ok (.bipush 12, 2) := by decide +kernel
theorem dX2_length_22 : decode cX2_length 22 = .ok (.iload_n 1, 1) := by decide +kernel
theorem dX2_length_23 : decode cX2_length 23 = .ok (.isub, 1) := by decide +kernel
theorem dX2_length_24 : decode cX2_length 24 = .ok (.goto 7, 3) := by decide +kernel
theorem dX2_length_27 : decode cX2_length 27 = .ok (.iload_n 1, 1) := by decide +kernel
theorem dX2_length_28 : decode cX2_length 28 = .ok (.bipush 12, 2) := by decide +kernel
theorem dX2_length_30 : decode cX2_length 30 = .ok (.isub, 1) := by decide +kernel
theorem dX2_length_31 : decode cX2_length 31 = .ok (.istore_n 2, 1) := by decide +kernel
theorem dX2_length_32 : decode cX2_length 32 = .ok (.iload_n 0, 1) := by decide +kernel
theorem dX2_length_33 : decode cX2_length 33 = .ok (.iload_n 2, 1) := by decide +kernel
theorem dX2_length_34 : decode cX2_length 34 = .ok (.imul, 1) := by decide +kernel
theorem dX2_length_35 : decode cX2_length 35 = .ok (.iconst 1, 1) := by decide +kernel
theorem dX2_length_36 : decode cX2_length 36 = .ok (.iadd, 1) := by decide +kernel
theorem dX2_length_37 : decode cX2_length 37 = .ok (.iconst 2, 1) := by decide +kernel
theorem dX2_length_38 : decode cX2_length 38 = .ok (.idiv, 1) := by decide +kernel
theorem dX2_length_39 : decode cX2_length 39 = .ok (.ireturn, 1) := by decide +kernel
theorem dX2_eastward_0 : decode cX2_eastward 0 = .ok (.iload_n 0, 1) := by decide +kernel
theorem dX2_eastward_1 : decode cX2_eastward 1 = .ok (.bipush 12, 2) := by decide +kernel
theorem dX2_eastward_3 : decode cX2_eastward 3 = .ok (.if_icmp .ge 7, 3) := by decide +kernel
theorem dX2_eastward_6 : decode cX2_eastward 6 = .ok (.iconst (-1), 1) := by decide +kernel
theorem dX2_eastward_7 : decode cX2_eastward 7 = .ok (.goto 14, 3) := by decide +kernel
theorem dX2_eastward_10 : decode cX2_eastward 10 = .ok (.iload_n 0, 1) := by decide +kernel
theorem dX2_eastward_11 : decode cX2_eastward 11 = .ok (.bipush 12, 2) := by decide +kernel
theorem dX2_eastward_13 : decode cX2_eastward 13 = .ok (.if_icmp .le 7, 3) := by decide +kernel
theorem dX2_eastward_16 : decode cX2_eastward 16 = .ok (.iconst 1, 1) := by decide +kernel
theorem dX2_eastward_17 : decode cX2_eastward 17 = .ok (.goto 4, 3) := by decide +kernel
theorem dX2_eastward_20 : decode cX2_eastward 20 = .ok (.iconst 0, 1) := by decide +kernel
theorem dX2_eastward_21 : decode cX2_eastward 21 = .ok (.ireturn, 1) := by decide +kernel
theorem dX2_southward_0 : decode cX2_southward 0 = .ok (.iload_n 0, 1) := by decide +kernel
theorem dX2_southward_1 : decode cX2_southward 1 = .ok (.bipush 10, 2) := by decide +kernel
theorem dX2_southward_3 : decode cX2_southward 3 = .ok (.if_icmp .lt 13, 3) := by decide +kernel
theorem dX2_southward_6 : decode cX2_southward 6 = .ok (.iload_n 0, 1) := by decide +kernel
theorem dX2_southward_7 : decode cX2_southward 7 = .ok (.bipush 14, 2) := by decide +kernel
theorem dX2_southward_9 : decode cX2_southward 9 = .ok (.if_icmp .gt 7, 3) := by decide +kernel
theorem dX2_southward_12 : decode cX2_southward 12 = .ok (.iconst (-1), 1) := by decide +kernel
theorem dX2_southward_13 : decode cX2_southward 13 = .ok (.goto 4, 3) := by decide +kernel
theorem dX2_southward_16 : decode cX2_southward 16 = .ok (.iconst 0, 1) := by decide +kernel
theorem dX2_southward_17 : decode cX2_southward 17 = .ok (.ireturn, 1) := by decide +kernel
set_option maxRecDepth 20000 in
theorem ggX2_isMetOnTheWalk_X2_length : GoodIn wsX2_isMetOnTheWalk wsX2_length := goodIn_r _ [4] (by decide +kernel) (by decide +kernel)
set_option maxRecDepth 20000 in
theorem gX2_isMetOnTheWalk_X2_length : GoodIn wsX2_isMetOnTheWalk (va_wsS RX2 11 yX2_length wsX2_length) := goodIn_app (goodIn_of _ (by decide +kernel)) ggX2_isMetOnTheWalk_X2_length
set_option maxRecDepth 20000 in
theorem ggX2_isMetOnTheWalk_X2_eastward : GoodIn wsX2_isMetOnTheWalk wsX2_eastward := goodIn_r _ [7] (by decide +kernel) (by decide +kernel)
set_option maxRecDepth 20000 in
theorem gX2_isMetOnTheWalk_X2_eastward : GoodIn wsX2_isMetOnTheWalk (va_wsS RX2 15 yX2_eastward wsX2_eastward) := goodIn_app (goodIn_of _ (by decide +kernel)) ggX2_isMetOnTheWalk_X2_eastward
set_option maxRecDepth 20000 in
theorem ggX2_isMetOnTheWalk_X2_southward : GoodIn wsX2_isMetOnTheWalk wsX2_southward := goodIn_r _ [10] (by decide +kernel) (by decide +kernel)
set_option maxRecDepth 20000 in
theorem gX2_isMetOnTheWalk_X2_southward : GoodIn wsX2_isMetOnTheWalk (va_wsS RX2 19 yX2_southward wsX2_southward) := goodIn_app (goodIn_of _ (by decide +kernel)) ggX2_isMetOnTheWalk_X2_southward
theorem dX2_isMetOnTheWalk_0 : decode cX2_isMetOnTheWalk 0 = .ok (.iload_n 0, 1) := by decide +kernel
theorem dX2_isMetOnTheWalk_1 : decode cX2_isMetOnTheWalk 1 = .ok (.bipush 12, 2) := by decide +kernel
theorem dX2_isMetOnTheWalk_3 : decode cX2_isMetOnTheWalk 3 = .ok (.irem, 1) := by decide +kernel
theorem dX2_isMetOnTheWalk_4 : decode cX2_isMetOnTheWalk 4 = .ok (.istore 4, 2) := by decide +kernel
theorem dX2_isMetOnTheWalk_6 : decode cX2_isMetOnTheWalk 6 = .ok (.iload_n 0, 1) := by decide +kernel
theorem dX2_isMetOnTheWalk_7 : decode cX2_isMetOnTheWalk 7 = .ok (.bipush 12, 2) := by decide +kernel
theorem dX2_isMetOnTheWalk_9 : decode cX2_isMetOnTheWalk 9 = .ok (.idiv, 1) := by decide +kernel
theorem dX2_isMetOnTheWalk_10 : decode cX2_isMetOnTheWalk 10 = .ok (.istore 5, 2) := by decide +kernel
theorem dX2_isMetOnTheWalk_12 : decode cX2_isMetOnTheWalk 12 = .ok (.iload_n 1, 1) := by decide +kernel
theorem dX2_isMetOnTheWalk_13 : decode cX2_isMetOnTheWalk 13 = .ok (.iload_n 3, 1) := by decide +kernel
theorem dX2_isMetOnTheWalk_14 : decode cX2_isMetOnTheWalk 14 = .ok (.invokestatic 11, 3) := by decide +kernel
theorem dX2_isMetOnTheWalk_17 : decode cX2_isMetOnTheWalk 17 = .ok (.istore 6, 2) := by decide +kernel
theorem dX2_isMetOnTheWalk_19 : decode cX2_isMetOnTheWalk 19 = .ok (.iconst 1, 1) := by decide +kernel
theorem dX2_isMetOnTheWalk_20 : decode cX2_isMetOnTheWalk 20 = .ok (.istore 7, 2) := by decide +kernel
theorem dX2_isMetOnTheWalk_22 : decode cX2_isMetOnTheWalk 22 = .ok (.iload 7, 2) := by decide +kernel
theorem dX2_isMetOnTheWalk_24 : decode cX2_isMetOnTheWalk 24 = .ok (.iload 6, 2) := by decide +kernel
theorem dX2_isMetOnTheWalk_26 : decode cX2_isMetOnTheWalk 26 = .ok (.if_icmp .gt 67, 3) := by decide +kernel
theorem dX2_isMetOnTheWalk_29 : decode cX2_isMetOnTheWalk 29 = .ok (.iload 4, 2) := by decide +kernel
theorem dX2_isMetOnTheWalk_31 : decode cX2_isMetOnTheWalk 31 = .ok (.iload_n 3, 1) := by decide +kernel
theorem dX2_isMetOnTheWalk_32 : decode cX2_isMetOnTheWalk 32 = .ok (.invokestatic 15, 3) := by decide +kernel
theorem dX2_isMetOnTheWalk_35 : decode cX2_isMetOnTheWalk 35 = .ok (.iadd, 1) := by decide +kernel
theorem dX2_isMetOnTheWalk_36 : decode cX2_isMetOnTheWalk 36 = .ok (.istore 4, 2) := by decide +kernel
theorem dX2_isMetOnTheWalk_38 : decode cX2_isMetOnTheWalk 38 = .ok (.iload 5, 2) := by decide +kernel
theorem dX2_isMetOnTheWalk_40 : decode cX2_isMetOnTheWalk 40 = .ok (.iload_n 3, 1) := by decide +kernel
theorem dX2_isMetOnTheWalk_41 : decode cX2_isMetOnTheWalk 41 = .ok (.invokestatic 19, 3) := by decide +kernel
theorem dX2_isMetOnTheWalk_44 : decode cX2_isMetOnTheWalk 44 = .ok (.iadd, 1) := by decide +kernel
theorem dX2_isMetOnTheWalk_45 : decode cX2_isMetOnTheWalk 45 = .ok (.istore 5, 2) := by decide +kernel
theorem dX2_isMetOnTheWalk_47 : decode cX2_isMetOnTheWalk 47 = .ok (.iload 4, 2) := by decide +kernel
theorem dX2_isMetOnTheWalk_49 : decode cX2_isMetOnTheWalk 49 = .ok (.ifCond .lt 22, 3) := by decide +kernel
theorem dX2_isMetOnTheWalk_52 : decode cX2_isMetOnTheWalk 52 = .ok (.iload 4, 2) := by decide +kernel
theorem dX2_isMetOnTheWalk_54 : decode cX2_isMetOnTheWalk 54 = .ok (.bipush 12, 2) := by decide +kernel
theorem dX2_isMetOnTheWalk_56 : decode cX2_isMetOnTheWalk 56 = .ok (.if_icmp .ge 15, 3) := by decide +kernel
theorem dX2_isMetOnTheWalk_59 : decode cX2_isMetOnTheWalk 59 = .ok (.iload 5, 2) := by decide +kernel
theorem dX2_isMetOnTheWalk_61 : decode cX2_isMetOnTheWalk 61 = .ok (.ifCond .lt 10, 3) := by decide +kernel
theorem dX2_isMetOnTheWalk_64 : decode cX2_isMetOnTheWalk 64 = .ok (.iload 5, 2) := by decide +kernel
theorem dX2_isMetOnTheWalk_66 : decode cX2_isMetOnTheWalk 66 = .ok (.bipush 8, 2) := by decide +kernel
theorem dX2_isMetOnTheWalk_68 : decode cX2_isMetOnTheWalk 68 = .ok (.if_icmp .lt 5, 3) := by decide +kernel
theorem dX2_isMetOnTheWalk_71 : decode cX2_isMetOnTheWalk 71 = .ok (.iconst 0, 1) := by decide +kernel
theorem dX2_isMetOnTheWalk_72 : decode cX2_isMetOnTheWalk 72 = .ok (.ireturn, 1) := by decide +kernel
theorem dX2_isMetOnTheWalk_73 : decode cX2_isMetOnTheWalk 73 = .ok (.bipush 12, 2) := by decide +kernel
theorem dX2_isMetOnTheWalk_75 : decode cX2_isMetOnTheWalk 75 = .ok (.iload 5, 2) := by decide +kernel
theorem dX2_isMetOnTheWalk_77 : decode cX2_isMetOnTheWalk 77 = .ok (.imul, 1) := by decide +kernel
theorem dX2_isMetOnTheWalk_78 : decode cX2_isMetOnTheWalk 78 = .ok (.iload 4, 2) := by decide +kernel
theorem dX2_isMetOnTheWalk_80 : decode cX2_isMetOnTheWalk 80 = .ok (.iadd, 1) := by decide +kernel
theorem dX2_isMetOnTheWalk_81 : decode cX2_isMetOnTheWalk 81 = .ok (.iload_n 2, 1) := by decide +kernel
theorem dX2_isMetOnTheWalk_82 : decode cX2_isMetOnTheWalk 82 = .ok (.if_icmp .ne 5, 3) := by decide +kernel
theorem dX2_isMetOnTheWalk_85 : decode cX2_isMetOnTheWalk 85 = .ok (.iconst 1, 1) := by decide +kernel
theorem dX2_isMetOnTheWalk_86 : decode cX2_isMetOnTheWalk 86 = .ok (.ireturn, 1) := by decide +kernel
theorem dX2_isMetOnTheWalk_87 : decode cX2_isMetOnTheWalk 87 = .ok (.iinc 7 1, 3) := by decide +kernel
theorem dX2_isMetOnTheWalk_90 : decode cX2_isMetOnTheWalk 90 = .ok (.goto (-68), 3) := by decide +kernel
theorem dX2_isMetOnTheWalk_93 : decode cX2_isMetOnTheWalk 93 = .ok (.iconst 0, 1) := by decide +kernel
theorem dX2_isMetOnTheWalk_94 : decode cX2_isMetOnTheWalk 94 = .ok (.ireturn, 1) := by decide +kernel
set_option maxRecDepth 20000 in
theorem ggX2_liesThere_X5_distance : GoodIn wsX2_liesThere wsX5_distance := goodIn_r _ [3, 4, 5, 6, 7, 8, 9, 10] (by decide +kernel) (by decide +kernel)
set_option maxRecDepth 20000 in
theorem gX2_liesThere_X5_distance_n22 : GoodIn wsX2_liesThere (wsX5_distance) := ggX2_liesThere_X5_distance
set_option maxRecDepth 20000 in
theorem ggX2_liesThere_X2_eastward : GoodIn wsX2_liesThere wsX2_eastward := goodIn_r _ [14] (by decide +kernel) (by decide +kernel)
set_option maxRecDepth 20000 in
theorem gX2_liesThere_X2_eastward : GoodIn wsX2_liesThere (va_wsS RX2 15 yX2_eastward wsX2_eastward) := goodIn_app (goodIn_of _ (by decide +kernel)) ggX2_liesThere_X2_eastward
set_option maxRecDepth 20000 in
theorem ggX2_liesThere_X2_southward : GoodIn wsX2_liesThere wsX2_southward := goodIn_r _ [17] (by decide +kernel) (by decide +kernel)
set_option maxRecDepth 20000 in
theorem gX2_liesThere_X2_southward : GoodIn wsX2_liesThere (va_wsS RX2 19 yX2_southward wsX2_southward) := goodIn_app (goodIn_of _ (by decide +kernel)) ggX2_liesThere_X2_southward
set_option maxRecDepth 20000 in
theorem ggX2_liesThere_X2_length : GoodIn wsX2_liesThere wsX2_length := goodIn_r _ [20] (by decide +kernel) (by decide +kernel)
set_option maxRecDepth 20000 in
theorem gX2_liesThere_X2_length : GoodIn wsX2_liesThere (va_wsS RX2 11 yX2_length wsX2_length) := goodIn_app (goodIn_of _ (by decide +kernel)) ggX2_liesThere_X2_length
theorem dX2_liesThere_0 : decode cX2_liesThere 0 = .ok (.iload_n 0, 1) := by decide +kernel
theorem dX2_liesThere_1 : decode cX2_liesThere 1 = .ok (.iload_n 2, 1) := by decide +kernel
theorem dX2_liesThere_2 : decode cX2_liesThere 2 = .ok (.invokestatic 22, 3) := by decide +kernel
theorem dX2_liesThere_5 : decode cX2_liesThere 5 = .ok (.istore 4, 2) := by decide +kernel
theorem dX2_liesThere_7 : decode cX2_liesThere 7 = .ok (.iload_n 2, 1) := by decide +kernel
theorem dX2_liesThere_8 : decode cX2_liesThere 8 = .ok (.bipush 12, 2) := by decide +kernel
theorem dX2_liesThere_10 : decode cX2_liesThere 10 = .ok (.irem, 1) := by decide +kernel
theorem dX2_liesThere_11 : decode cX2_liesThere 11 = .ok (.iload_n 0, 1) := by decide +kernel
theorem dX2_liesThere_12 : decode cX2_liesThere 12 = .ok (.bipush 12, 2) := by decide +kernel
theorem dX2_liesThere_14 : decode cX2_liesThere 14 = .ok (.irem, 1) := by decide +kernel
theorem dX2_liesThere_15 : decode cX2_liesThere 15 = .ok (.isub, 1) := by decide +kernel
theorem dX2_liesThere_16 : decode cX2_liesThere 16 = .ok (.istore 5, 2) := by decide +kernel
theorem dX2_liesThere_18 : decode cX2_liesThere 18 = .ok (.iload_n 2, 1) := by decide +kernel
theorem dX2_liesThere_19 : decode cX2_liesThere 19 = .ok (.bipush 12, 2) := by decide +kernel
theorem dX2_liesThere_21 : decode cX2_liesThere 21 = .ok (.idiv, 1) := by decide +kernel
theorem dX2_liesThere_22 : decode cX2_liesThere 22 = .ok (.iload_n 0, 1) := by decide +kernel
theorem dX2_liesThere_23 : decode cX2_liesThere 23 = .ok (.bipush 12, 2) := by decide +kernel
theorem dX2_liesThere_25 : decode cX2_liesThere 25 = .ok (.idiv, 1) := by decide +kernel
theorem dX2_liesThere_26 : decode cX2_liesThere 26 = .ok (.isub, 1) := by decide +kernel
theorem dX2_liesThere_27 : decode cX2_liesThere 27 = .ok (.istore 6, 2) := by decide +kernel
theorem dX2_liesThere_29 : decode cX2_liesThere 29 = .ok (.iload 5, 2) := by decide +kernel
theorem dX2_liesThere_31 : decode cX2_liesThere 31 = .ok (.iload 4, 2) := by decide +kernel
theorem dX2_liesThere_33 : decode cX2_liesThere 33 = .ok (.iload_n 3, 1) := by decide +kernel
theorem dX2_liesThere_34 : decode cX2_liesThere 34 = .ok (.invokestatic 15, 3) := by decide +kernel
theorem dX2_liesThere_37 : decode cX2_liesThere 37 = .ok (.imul, 1) := by decide +kernel
theorem dX2_liesThere_38 : decode cX2_liesThere 38 = .ok (.if_icmp .ne 19, 3) := by decide +kernel
theorem dX2_liesThere_41 : decode cX2_liesThere 41 = .ok (.iload 6, 2) := by decide +kernel
theorem dX2_liesThere_43 : decode cX2_liesThere 43 = .ok (.iload 4, 2) := by decide +kernel
theorem dX2_liesThere_45 : decode cX2_liesThere 45 = .ok (.iload_n 3, 1) := by decide +kernel
theorem dX2_liesThere_46 : decode cX2_liesThere 46 = .ok (.invokestatic 19, 3) := by decide +kernel
theorem dX2_liesThere_49 : decode cX2_liesThere 49 = .ok (.imul, 1) := by decide +kernel
theorem dX2_liesThere_50 : decode cX2_liesThere 50 = .ok (.if_icmp .ne 7, 3) := by decide +kernel
theorem dX2_liesThere_53 : decode cX2_liesThere 53 = .ok (.iconst 1, 1) := by decide +kernel
theorem dX2_liesThere_54 : decode cX2_liesThere 54 = .ok (.goto 4, 3) := by decide +kernel
theorem dX2_liesThere_57 : decode cX2_liesThere 57 = .ok (.iconst 0, 1) := by decide +kernel
theorem dX2_liesThere_58 : decode cX2_liesThere 58 = .ok (.istore 7, 2) := by decide +kernel
theorem dX2_liesThere_60 : decode cX2_liesThere 60 = .ok (.iload 7, 2) := by decide +kernel
theorem dX2_liesThere_62 : decode cX2_liesThere 62 = .ok (.ifCond .eq 23, 3) := by decide +kernel
theorem dX2_liesThere_65 : decode cX2_liesThere 65 = .ok (.iload 4, 2) := by decide +kernel
theorem dX2_liesThere_67 : decode cX2_liesThere 67 = .ok (.iconst 1, 1) := by decide +kernel
theorem dX2_liesThere_68 : decode cX2_liesThere 68 = .ok (.if_icmp .lt 17, 3) := by decide +kernel
theorem dX2_liesThere_71 : decode cX2_liesThere 71 = .ok (.iload 4, 2) := by decide +kernel
theorem dX2_liesThere_73 : decode cX2_liesThere 73 = .ok (.iload_n 1, 1) := by decide +kernel
theorem dX2_liesThere_74 : decode cX2_liesThere 74 = .ok (.iload_n 3, 1) := by decide +kernel
theorem dX2_liesThere_75 : decode cX2_liesThere 75 = .ok (.invokestatic 11, 3) := by decide +kernel
theorem dX2_liesThere_78 : decode cX2_liesThere 78 = .ok (.if_icmp .gt 7, 3) := by decide +kernel
theorem dX2_liesThere_81 : decode cX2_liesThere 81 = .ok (.iconst 1, 1) := by decide +kernel
theorem dX2_liesThere_82 : decode cX2_liesThere 82 = .ok (.goto 4, 3) := by decide +kernel
theorem dX2_liesThere_85 : decode cX2_liesThere 85 = .ok (.iconst 0, 1) := by decide +kernel
theorem dX2_liesThere_86 : decode cX2_liesThere 86 = .ok (.ireturn, 1) := by decide +kernel
theorem dX3_init_0 : decode cX3_init 0 = .ok (.aload_n 0, 1) := by decide +kernel
theorem dX3_init_1 : decode cX3_init 1 = .ok (.invokespecial 3, 3) := by decide +kernel
theorem dX3_init_4 : decode cX3_init 4 = .ok (.aload_n 0, 1) := by decide +kernel
theorem dX3_init_5 : decode cX3_init 5 = .ok (.bipush 60, 2) := by decide +kernel
theorem dX3_init_7 : decode cX3_init 7 = .ok (.newarray .char, 2) := by decide +kernel
theorem dX3_init_9 : decode cX3_init 9 = .ok (.putfield 9, 3) := by decide +kernel
theorem dX3_init_12 : decode cX3_init 12 = .ok (.aload_n 0, 1) := by decide +kernel
theorem dX3_init_13 : decode cX3_init 13 = .ok (.iconst 0, 1) := by decide +kernel
theorem dX3_init_14 : decode cX3_init 14 = .ok (.putfield 15, 3) := by decide +kernel
theorem dX3_init_17 : decode cX3_init 17 = .ok (.return_, 1) := by decide +kernel
theorem dX3_signAt_0 : decode cX3_signAt 0 = .ok (.iload_n 1, 1) := by decide +kernel
theorem dX3_signAt_1 : decode cX3_signAt 1 = .ok (.ifCond .lt 29, 3) := by decide +kernel
theorem dX3_signAt_4 : decode cX3_signAt 4 = .ok (.iload_n 1, 1) := by decide +kernel
theorem dX3_signAt_5 : decode cX3_signAt 5 = .ok (.aload_n 0, 1) := by decide +kernel
theorem dX3_signAt_6 : decode cX3_signAt 6 = .ok (.getfield 15, 3) := by decide +kernel
theorem dX3_signAt_9 : decode cX3_signAt 9 = .ok (.if_icmp .ge 21, 3) := by decide +kernel
theorem dX3_signAt_12 : decode cX3_signAt 12 = .ok (.iload_n 1, 1) := by decide +kernel
theorem dX3_signAt_13 : decode cX3_signAt 13 = .ok (.aload_n 0, 1) := by decide +kernel
theorem dX3_signAt_14 : decode cX3_signAt 14 = .ok (.getfield 9, 3) := by decide +kernel
theorem dX3_signAt_17 : decode cX3_signAt 17 = .ok (.arraylength, 1) := by decide +kernel
theorem dX3_signAt_18 : decode cX3_signAt 18 = .ok (.if_icmp .ge 12, 3) := by decide +kernel
theorem dX3_signAt_21 : decode cX3_signAt 21 = .ok (.aload_n 0, 1) := by decide +kernel
theorem dX3_signAt_22 : decode cX3_signAt 22 = .ok (.getfield 9, 3) := by decide +kernel
theorem dX3_signAt_25 : decode cX3_signAt 25 = .ok (.iload_n 1, 1) := by decide +kernel
theorem dX3_signAt_26 : decode cX3_signAt 26 = .ok (.caload, 1) := by decide +kernel
theorem dX3_signAt_27 : decode cX3_signAt 27 = .ok (.goto 4, 3) := by decide +kernel
theorem dX3_signAt_30 : decode cX3_signAt 30 = .ok (.iconst 0, 1) := by decide +kernel
theorem dX3_signAt_31 : decode cX3_signAt 31 = .ok (.ireturn, 1) := by decide +kernel
set_option maxRecDepth 20000 in
theorem ggX3_firstFault_X3_signAt : GoodIn wsX3_firstFault wsX3_signAt := goodIn_r _ [6, 1, 7, 30, 31] (by decide +kernel) (by decide +kernel)
set_option maxRecDepth 20000 in
theorem gX3_firstFault_X3_signAt : GoodIn wsX3_firstFault (wsV RX3 21 RX3 yX3_signAt wsX3_signAt) := goodIn_app (goodIn_of _ (by decide +kernel)) ggX3_firstFault_X3_signAt
set_option maxRecDepth 20000 in
theorem ggX3_firstFault_X0_after : GoodIn wsX3_firstFault wsX0_after := goodIn_r _ [11, 12, 13, 10, 14, 15, 16, 17, 18, 19, 20, 21, 22, 23, 24, 25, 26] (by decide +kernel) (by decide +kernel)
set_option maxRecDepth 20000 in
theorem gX3_firstFault_X0_after : GoodIn wsX3_firstFault (va_wsS RX3 25 yX0_after wsX0_after) := goodIn_app (goodIn_of _ (by decide +kernel)) ggX3_firstFault_X0_after
set_option maxRecDepth 20000 in
theorem ggX3_firstFault_X0_mayEnd : GoodIn wsX3_firstFault wsX0_mayEnd := goodIn_r _ [29] (by decide +kernel) (by decide +kernel)
set_option maxRecDepth 20000 in
theorem gX3_firstFault_X0_mayEnd : GoodIn wsX3_firstFault (va_wsS RX3 29 yX0_mayEnd wsX0_mayEnd) := goodIn_app (goodIn_of _ (by decide +kernel)) ggX3_firstFault_X0_mayEnd
theorem dX3_firstFault_0 : decode cX3_firstFault 0 = .ok (.iconst 0, 1) := by decide +kernel
theorem dX3_firstFault_1 : decode cX3_firstFault 1 = .ok (.istore_n 1, 1) := by decide +kernel
theorem dX3_firstFault_2 : decode cX3_firstFault 2 = .ok (.iconst 0, 1) := by decide +kernel
theorem dX3_firstFault_3 : decode cX3_firstFault 3 = .ok (.istore_n 2, 1) := by decide +kernel
theorem dX3_firstFault_4 : decode cX3_firstFault 4 = .ok (.iload_n 2, 1) := by decide +kernel
theorem dX3_firstFault_5 : decode cX3_firstFault 5 = .ok (.aload_n 0, 1) := by decide +kernel
theorem dX3_firstFault_6 : decode cX3_firstFault 6 = .ok (.getfield 15, 3) := by decide +kernel
theorem dX3_firstFault_9 : decode cX3_firstFault 9 = .ok (.if_icmp .ge 26, 3) := by decide +kernel
theorem dX3_firstFault_12 : decode cX3_firstFault 12 = .ok (.iload_n 1, 1) := by decide +kernel
theorem dX3_firstFault_13 : decode cX3_firstFault 13 = .ok (.aload_n 0, 1) := by decide +kernel
theorem dX3_firstFault_14 : decode cX3_firstFault 14 = .ok (.iload_n 2, 1) := by decide +kernel
theorem dX3_firstFault_15 : decode cX3_firstFault 15 = .ok (.invokevirtual 21, 3) := by decide +kernel
theorem dX3_firstFault_18 : decode cX3_firstFault 18 = .ok (.invokestatic 25, 3) := by decide +kernel
theorem dX3_firstFault_21 : decode cX3_firstFault 21 = .ok (.istore_n 1, 1) := by decide +kernel
theorem dX3_firstFault_22 : decode cX3_firstFault 22 = .ok (.iload_n 1, 1) := by decide +kernel
theorem dX3_firstFault_23 : decode cX3_firstFault 23 = .ok (.iconst (-1), 1) := by decide +kernel
theorem dX3_firstFault_24 : decode cX3_firstFault 24 = .ok (.if_icmp .ne 5, 3) := by decide +kernel
theorem dX3_firstFault_27 : decode cX3_firstFault 27 = .ok (.iload_n 2, 1) := by decide +kernel
theorem dX3_firstFault_28 : decode cX3_firstFault 28 = .ok (.ireturn, 1) := by decide +kernel
theorem dX3_firstFault_29 : decode cX3_firstFault 29 = .ok (.iinc 2 1, 3) := by decide +kernel
theorem dX3_firstFault_32 : decode cX3_firstFault 32 = .ok (.goto (-28), 3) := by decide +kernel
theorem dX3_firstFault_35 : decode cX3_firstFault 35 = .ok (.iload_n 1, 1) := by decide +kernel
theorem dX3_firstFault_36 : decode cX3_firstFault 36 = .ok (.invokestatic 29, 3) := by decide +kernel
theorem dX3_firstFault_39 : decode cX3_firstFault 39 = .ok (.ifCond .eq 8, 3) := by decide +kernel
theorem dX3_firstFault_42 : decode cX3_firstFault 42 = .ok (.bipush (-5), 2) := by decide +kernel
theorem dX3_firstFault_44 : decode cX3_firstFault 44 = .ok (.goto 7, 3) := by decide +kernel
theorem dX3_firstFault_47 : decode cX3_firstFault 47 = .ok (.aload_n 0, 1) := by decide +kernel
theorem dX3_firstFault_48 : decode cX3_firstFault 48 = .ok (.getfield 15, 3) := by decide +kernel
theorem dX3_firstFault_51 : decode cX3_firstFault 51 = .ok (.ireturn, 1) := by decide +kernel
set_option maxRecDepth 20000 in
theorem ggX3_digitAt_X3_signAt : GoodIn wsX3_digitAt wsX3_signAt := goodIn_r _ [5, 6, 7, 8, 9] (by decide +kernel) (by decide +kernel)
set_option maxRecDepth 20000 in
theorem gX3_digitAt_X3_signAt : GoodIn wsX3_digitAt (wsV RX3 21 RX3 yX3_signAt wsX3_signAt) := goodIn_app (goodIn_of _ (by decide +kernel)) ggX3_digitAt_X3_signAt
theorem dX3_digitAt_0 : decode cX3_digitAt 0 = .ok (.aload_n 0, 1) := by decide +kernel
theorem dX3_digitAt_1 : decode cX3_digitAt 1 = .ok (.iload_n 1, 1) := by decide +kernel
theorem dX3_digitAt_2 : decode cX3_digitAt 2 = .ok (.invokevirtual 21, 3) := by decide +kernel
theorem dX3_digitAt_5 : decode cX3_digitAt 5 = .ok (.bipush 48, 2) := by decide +kernel
theorem dX3_digitAt_7 : decode cX3_digitAt 7 = .ok (.isub, 1) := by decide +kernel
theorem dX3_digitAt_8 : decode cX3_digitAt 8 = .ok (.ireturn, 1) := by decide +kernel
set_option maxRecDepth 20000 in
theorem ggX3_yardAt_X3_digitAt : GoodIn wsX3_yardAt wsX3_digitAt := goodIn_r _ [5, 6, 7, 8, 4, 9, 10, 11, 12, 13] (by decide +kernel) (by decide +kernel)
set_option maxRecDepth 20000 in
theorem gX3_yardAt_X3_digitAt : GoodIn wsX3_yardAt (wsV RX3 33 RX3 yX3_digitAt wsX3_digitAt) := goodIn_app (goodIn_of _ (by decide +kernel)) ggX3_yardAt_X3_digitAt
set_option maxRecDepth 20000 in
theorem ggX3_yardAt_X3_signAt : GoodIn wsX3_yardAt wsX3_signAt := goodIn_r _ [9, 10, 11, 12, 13] (by decide +kernel) (by decide +kernel)
set_option maxRecDepth 20000 in
theorem gX3_yardAt_X3_signAt : GoodIn wsX3_yardAt (wsV RX3 21 RX3 yX3_signAt wsX3_signAt) := goodIn_app (goodIn_of _ (by decide +kernel)) ggX3_yardAt_X3_signAt
theorem dX3_yardAt_0 : decode cX3_yardAt 0 = .ok (.bipush 12, 2) := by decide +kernel
theorem dX3_yardAt_2 : decode cX3_yardAt 2 = .ok (.aload_n 0, 1) := by decide +kernel
theorem dX3_yardAt_3 : decode cX3_yardAt 3 = .ok (.iload_n 1, 1) := by decide +kernel
theorem dX3_yardAt_4 : decode cX3_yardAt 4 = .ok (.iconst 1, 1) := by decide +kernel
theorem dX3_yardAt_5 : decode cX3_yardAt 5 = .ok (.iadd, 1) := by decide +kernel
theorem dX3_yardAt_6 : decode cX3_yardAt 6 = .ok (.invokevirtual 33, 3) := by decide +kernel
theorem dX3_yardAt_9 : decode cX3_yardAt 9 = .ok (.imul, 1) := by decide +kernel
theorem dX3_yardAt_10 : decode cX3_yardAt 10 = .ok (.aload_n 0, 1) := by decide +kernel
theorem dX3_yardAt_11 : decode cX3_yardAt 11 = .ok (.iload_n 1, 1) := by decide +kernel
theorem dX3_yardAt_12 : decode cX3_yardAt 12 = .ok (.invokevirtual 21, 3) := by decide +kernel
theorem dX3_yardAt_15 : decode cX3_yardAt 15 = .ok (.iadd, 1) := by decide +kernel
theorem dX3_yardAt_16 : decode cX3_yardAt 16 = .ok (.bipush 97, 2) := by decide +kernel
theorem dX3_yardAt_18 : decode cX3_yardAt 18 = .ok (.isub, 1) := by decide +kernel
theorem dX3_yardAt_19 : decode cX3_yardAt 19 = .ok (.ireturn, 1) := by decide +kernel
set_option maxRecDepth 20000 in
theorem ggX3_numberAt_X3_digitAt : GoodIn wsX3_numberAt wsX3_digitAt := goodIn_r _ [5, 6, 7, 8, 4, 9, 10, 11, 12, 13] (by decide +kernel) (by decide +kernel)
set_option maxRecDepth 20000 in
theorem gX3_numberAt_X3_digitAt : GoodIn wsX3_numberAt (wsV RX3 33 RX3 yX3_digitAt wsX3_digitAt) := goodIn_app (goodIn_of _ (by decide +kernel)) ggX3_numberAt_X3_digitAt
theorem dX3_numberAt_0 : decode cX3_numberAt 0 = .ok (.iconst 0, 1) := by decide +kernel
theorem dX3_numberAt_1 : decode cX3_numberAt 1 = .ok (.istore_n 3, 1) := by decide +kernel
theorem dX3_numberAt_2 : decode cX3_numberAt 2 = .ok (.iload_n 1, 1) := by decide +kernel
theorem dX3_numberAt_3 : decode cX3_numberAt 3 = .ok (.istore 4, 2) := by decide +kernel
theorem dX3_numberAt_5 : decode cX3_numberAt 5 = .ok (.iload 4, 2) := by decide +kernel
theorem dX3_numberAt_7 : decode cX3_numberAt 7 = .ok (.iload_n 2, 1) := by decide +kernel
theorem dX3_numberAt_8 : decode cX3_numberAt 8 = .ok (.if_icmp .ge 21, 3) := by decide +kernel
theorem dX3_numberAt_11 : decode cX3_numberAt 11 = .ok (.bipush 10, 2) := by decide +kernel
theorem dX3_numberAt_13 : decode cX3_numberAt 13 = .ok (.iload_n 3, 1) := by decide +kernel
theorem dX3_numberAt_14 : decode cX3_numberAt 14 = .ok (.imul, 1) := by decide +kernel
theorem dX3_numberAt_15 : decode cX3_numberAt 15 = .ok (.aload_n 0, 1) := by decide +kernel
theorem dX3_numberAt_16 : decode cX3_numberAt 16 = .ok (.iload 4, 2) := by decide +kernel
theorem dX3_numberAt_18 : decode cX3_numberAt 18 = .ok (.invokevirtual 33, 3) := by decide +kernel
theorem dX3_numberAt_21 : decode cX3_numberAt 21 = .ok (.iadd, 1) := by decide +kernel
theorem dX3_numberAt_22 : decode cX3_numberAt 22 = .ok (.istore_n 3, 1) := by decide +kernel
theorem dX3_numberAt_23 : decode cX3_numberAt 23 = .ok (.iinc 4 1, 3) := by decide +kernel
theorem dX3_numberAt_26 : decode cX3_numberAt 26 = .ok (.goto (-21), 3) := by decide +kernel
theorem dX3_numberAt_29 : decode cX3_numberAt 29 = .ok (.iload_n 3, 1) := by decide +kernel
theorem dX3_numberAt_30 : decode cX3_numberAt 30 = .ok (.ireturn, 1) := by decide +kernel
set_option maxRecDepth 20000 in
theorem ggX4_init_X5_copyRow : GoodIn wsX4_init wsX5_copyRow := goodIn_r _ [18] (by decide +kernel) (by decide +kernel)
set_option maxRecDepth 20000 in
theorem gX4_init_X5_copyRow_n49 : GoodIn wsX4_init (wsX5_copyRow) := ggX4_init_X5_copyRow
theorem dX4_init_0 : decode cX4_init 0 = .ok (.aload_n 0, 1) := by decide +kernel
theorem dX4_init_1 : decode cX4_init 1 = .ok (.invokespecial 3, 3) := by decide +kernel
theorem dX4_init_4 : decode cX4_init 4 = .ok (.aload_n 0, 1) := by decide +kernel
theorem dX4_init_5 : decode cX4_init 5 = .ok (.bipush 24, 2) := by decide +kernel
theorem dX4_init_7 : decode cX4_init 7 = .ok (.newarray .int, 2) := by decide +kernel
theorem dX4_init_9 : decode cX4_init 9 = .ok (.putfield 9, 3) := by decide +kernel
theorem dX4_init_12 : decode cX4_init 12 = .ok (.aload_n 0, 1) := by decide +kernel
theorem dX4_init_13 : decode cX4_init 13 = .ok (.getstatic 15, 3) := by decide +kernel
theorem dX4_init_16 : decode cX4_init 16 = .ok (.arraylength, 1) := by decide +kernel
theorem dX4_init_17 : decode cX4_init 17 = .ok (.newarray .int, 2) := by decide +kernel
theorem dX4_init_19 : decode cX4_init 19 = .ok (.putfield 18, 3) := by decide +kernel
theorem dX4_init_22 : decode cX4_init 22 = .ok (.aload_n 0, 1) := by decide +kernel
theorem dX4_init_23 : decode cX4_init 23 = .ok (.bipush 6, 2) := by decide +kernel
theorem dX4_init_25 : decode cX4_init 25 = .ok (.newarray .int, 2) := by decide +kernel
theorem dX4_init_27 : decode cX4_init 27 = .ok (.putfield 21, 3) := by decide +kernel
theorem dX4_init_30 : decode cX4_init 30 = .ok (.aload_n 0, 1) := by decide +kernel
theorem dX4_init_31 : decode cX4_init 31 = .ok (.iconst 0, 1) := by decide +kernel
theorem dX4_init_32 : decode cX4_init 32 = .ok (.putfield 24, 3) := by decide +kernel
theorem dX4_init_35 : decode cX4_init 35 = .ok (.aload_n 0, 1) := by decide +kernel
theorem dX4_init_36 : decode cX4_init 36 = .ok (.iconst 4, 1) := by decide +kernel
theorem dX4_init_37 : decode cX4_init 37 = .ok (.newarray .int, 2) := by decide +kernel
theorem dX4_init_39 : decode cX4_init 39 = .ok (.putfield 28, 3) := by decide +kernel
theorem dX4_init_42 : decode cX4_init 42 = .ok (.aload_n 0, 1) := by decide +kernel
theorem dX4_init_43 : decode cX4_init 43 = .ok (.iconst 4, 1) := by decide +kernel
theorem dX4_init_44 : decode cX4_init 44 = .ok (.newarray .int, 2) := by decide +kernel
theorem dX4_init_46 : decode cX4_init 46 = .ok (.putfield 31, 3) := by decide +kernel
theorem dX4_init_49 : decode cX4_init 49 = .ok (.aload_n 0, 1) := by decide +kernel
theorem dX4_init_50 : decode cX4_init 50 = .ok (.iconst 4, 1) := by decide +kernel
theorem dX4_init_51 : decode cX4_init 51 = .ok (.newarray .int, 2) := by decide +kernel
theorem dX4_init_53 : decode cX4_init 53 = .ok (.putfield 34, 3) := by decide +kernel
theorem dX4_init_56 : decode cX4_init 56 = .ok (.aload_n 0, 1) := by decide +kernel
theorem dX4_init_57 : decode cX4_init 57 = .ok (.iconst 0, 1) := by decide +kernel
theorem dX4_init_58 : decode cX4_init 58 = .ok (.putfield 37, 3) := by decide +kernel
theorem dX4_init_61 : decode cX4_init 61 = .ok (.aload_n 0, 1) := by decide +kernel
theorem dX4_init_62 : decode cX4_init 62 = .ok (.bipush 10, 2) := by decide +kernel
theorem dX4_init_64 : decode cX4_init 64 = .ok (.newarray .int, 2) := by decide +kernel
theorem dX4_init_66 : decode cX4_init 66 = .ok (.putfield 40, 3) := by decide +kernel
theorem dX4_init_69 : decode cX4_init 69 = .ok (.aload_n 0, 1) := by decide +kernel
theorem dX4_init_70 : decode cX4_init 70 = .ok (.bipush 10, 2) := by decide +kernel
theorem dX4_init_72 : decode cX4_init 72 = .ok (.newarray .int, 2) := by decide +kernel
theorem dX4_init_74 : decode cX4_init 74 = .ok (.putfield 43, 3) := by decide +kernel
theorem dX4_init_77 : decode cX4_init 77 = .ok (.aload_n 0, 1) := by decide +kernel
theorem dX4_init_78 : decode cX4_init 78 = .ok (.bipush 80, 2) := by decide +kernel
theorem dX4_init_80 : decode cX4_init 80 = .ok (.newarray .int, 2) := by decide +kernel
theorem dX4_init_82 : decode cX4_init 82 = .ok (.putfield 46, 3) := by decide +kernel
theorem dX4_init_85 : decode cX4_init 85 = .ok (.getstatic 15, 3) := by decide +kernel
theorem dX4_init_88 : decode cX4_init 88 = .ok (.aload_n 0, 1) := by decide +kernel
theorem dX4_init_89 : decode cX4_init 89 = .ok (.getfield 18, 3) := by decide +kernel
theorem dX4_init_92 : decode cX4_init 92 = .ok (.invokestatic 49, 3) := by decide +kernel
theorem dX4_init_95 : decode cX4_init 95 = .ok (.iconst 0, 1) := by decide +kernel
theorem dX4_init_96 : decode cX4_init 96 = .ok (.istore_n 1, 1) := by decide +kernel
theorem dX4_init_97 : decode cX4_init 97 = .ok (.iload_n 1, 1) := by decide +kernel
theorem dX4_init_98 : decode cX4_init 98 = .ok (.aload_n 0, 1) := by decide +kernel
theorem dX4_init_99 : decode cX4_init 99 = .ok (.getfield 9, 3) := by decide +kernel
theorem dX4_init_102 : decode cX4_init 102 = .ok (.arraylength, 1) := by decide +kernel
theorem dX4_init_103 : decode cX4_init 103 = .ok (.if_icmp .ge 16, 3) := by decide +kernel
theorem dX4_init_106 : decode cX4_init 106 = .ok (.aload_n 0, 1) := by decide +kernel
theorem dX4_init_107 : decode cX4_init 107 = .ok (.getfield 9, 3) := by decide +kernel
theorem dX4_init_110 : decode cX4_init 110 = .ok (.iload_n 1, 1) := by decide +kernel
theorem dX4_init_111 : decode cX4_init 111 = .ok (.iconst 3, 1) := by decide +kernel
theorem dX4_init_112 : decode cX4_init 112 = .ok (.iastore, 1) := by decide +kernel
theorem dX4_init_113 : decode cX4_init 113 = .ok (.iinc 1 1, 3) := by decide +kernel
theorem dX4_init_116 : decode cX4_init 116 = .ok (.goto (-19), 3) := by decide +kernel
theorem dX4_init_119 : decode cX4_init 119 = .ok (.return_, 1) := by decide +kernel
set_option maxRecDepth 20000 in
theorem ggX4_copyFrom_X5_copyRow : GoodIn wsX4_copyFrom wsX5_copyRow := goodIn_r _ [14] (by decide +kernel) (by decide +kernel)
set_option maxRecDepth 20000 in
theorem gX4_copyFrom_X5_copyRow_n49 : GoodIn wsX4_copyFrom (wsX5_copyRow) := ggX4_copyFrom_X5_copyRow
theorem dX4_copyFrom_0 : decode cX4_copyFrom 0 = .ok (.aload_n 1, 1) := by decide +kernel
theorem dX4_copyFrom_1 : decode cX4_copyFrom 1 = .ok (.getfield 9, 3) := by decide +kernel
theorem dX4_copyFrom_4 : decode cX4_copyFrom 4 = .ok (.aload_n 0, 1) := by decide +kernel
theorem dX4_copyFrom_5 : decode cX4_copyFrom 5 = .ok (.getfield 9, 3) := by decide +kernel
theorem dX4_copyFrom_8 : decode cX4_copyFrom 8 = .ok (.invokestatic 49, 3) := by decide +kernel
theorem dX4_copyFrom_11 : decode cX4_copyFrom 11 = .ok (.aload_n 1, 1) := by decide +kernel
theorem dX4_copyFrom_12 : decode cX4_copyFrom 12 = .ok (.getfield 18, 3) := by decide +kernel
theorem dX4_copyFrom_15 : decode cX4_copyFrom 15 = .ok (.aload_n 0, 1) := by decide +kernel
theorem dX4_copyFrom_16 : decode cX4_copyFrom 16 = .ok (.getfield 18, 3) := by decide +kernel
theorem dX4_copyFrom_19 : decode cX4_copyFrom 19 = .ok (.invokestatic 49, 3) := by decide +kernel
theorem dX4_copyFrom_22 : decode cX4_copyFrom 22 = .ok (.aload_n 1, 1) := by decide +kernel
theorem dX4_copyFrom_23 : decode cX4_copyFrom 23 = .ok (.getfield 21, 3) := by decide +kernel
theorem dX4_copyFrom_26 : decode cX4_copyFrom 26 = .ok (.aload_n 0, 1) := by decide +kernel
theorem dX4_copyFrom_27 : decode cX4_copyFrom 27 = .ok (.getfield 21, 3) := by decide +kernel
theorem dX4_copyFrom_30 : decode cX4_copyFrom 30 = .ok (.invokestatic 49, 3) := by decide +kernel
theorem dX4_copyFrom_33 : decode cX4_copyFrom 33 = .ok (.aload_n 0, 1) := by decide +kernel
theorem dX4_copyFrom_34 : decode cX4_copyFrom 34 = .ok (.aload_n 1, 1) := by decide +kernel
theorem dX4_copyFrom_35 : decode cX4_copyFrom 35 = .ok (.getfield 24, 3) := by decide +kernel
theorem dX4_copyFrom_38 : decode cX4_copyFrom 38 = .ok (.putfield 24, 3) := by decide +kernel
theorem dX4_copyFrom_41 : decode cX4_copyFrom 41 = .ok (.aload_n 1, 1) := by decide +kernel
theorem dX4_copyFrom_42 : decode cX4_copyFrom 42 = .ok (.getfield 28, 3) := by decide +kernel
theorem dX4_copyFrom_45 : decode cX4_copyFrom 45 = .ok (.aload_n 0, 1) := by decide +kernel
theorem dX4_copyFrom_46 : decode cX4_copyFrom 46 = .ok (.getfield 28, 3) := by decide +kernel
theorem dX4_copyFrom_49 : decode cX4_copyFrom 49 = .ok (.invokestatic 49, 3) := by decide +kernel
theorem dX4_copyFrom_52 : decode cX4_copyFrom 52 = .ok (.aload_n 1, 1) := by decide +kernel
theorem dX4_copyFrom_53 : decode cX4_copyFrom 53 = .ok (.getfield 31, 3) := by decide +kernel
theorem dX4_copyFrom_56 : decode cX4_copyFrom 56 = .ok (.aload_n 0, 1) := by decide +kernel
theorem dX4_copyFrom_57 : decode cX4_copyFrom 57 = .ok (.getfield 31, 3) := by decide +kernel
theorem dX4_copyFrom_60 : decode cX4_copyFrom 60 = .ok (.invokestatic 49, 3) := by decide +kernel
theorem dX4_copyFrom_63 : decode cX4_copyFrom 63 = .ok (.aload_n 1, 1) := by decide +kernel
theorem dX4_copyFrom_64 : decode cX4_copyFrom 64 = .ok (.getfield 34, 3) := by decide +kernel
theorem dX4_copyFrom_67 : decode cX4_copyFrom 67 = .ok (.aload_n 0, 1) := by decide +kernel
theorem dX4_copyFrom_68 : decode cX4_copyFrom 68 = .ok (.getfield 34, 3) := by decide +kernel
theorem dX4_copyFrom_71 : decode cX4_copyFrom 71 = .ok (.invokestatic 49, 3) := by decide +kernel
theorem dX4_copyFrom_74 : decode cX4_copyFrom 74 = .ok (.aload_n 0, 1) := by decide +kernel
theorem dX4_copyFrom_75 : decode cX4_copyFrom 75 = .ok (.aload_n 1, 1) := by decide +kernel
theorem dX4_copyFrom_76 : decode cX4_copyFrom 76 = .ok (.getfield 37, 3) := by decide +kernel
theorem dX4_copyFrom_79 : decode cX4_copyFrom 79 = .ok (.putfield 37, 3) := by decide +kernel
theorem dX4_copyFrom_82 : decode cX4_copyFrom 82 = .ok (.aload_n 1, 1) := by decide +kernel
theorem dX4_copyFrom_83 : decode cX4_copyFrom 83 = .ok (.getfield 40, 3) := by decide +kernel
theorem dX4_copyFrom_86 : decode cX4_copyFrom 86 = .ok (.aload_n 0, 1) := by decide +kernel
theorem dX4_copyFrom_87 : decode cX4_copyFrom 87 = .ok (.getfield 40, 3) := by decide +kernel
theorem dX4_copyFrom_90 : decode cX4_copyFrom 90 = .ok (.invokestatic 49, 3) := by decide +kernel
theorem dX4_copyFrom_93 : decode cX4_copyFrom 93 = .ok (.aload_n 1, 1) := by decide +kernel
theorem dX4_copyFrom_94 : decode cX4_copyFrom 94 = .ok (.getfield 43, 3) := by decide +kernel
theorem dX4_copyFrom_97 : decode cX4_copyFrom 97 = .ok (.aload_n 0, 1) := by decide +kernel
theorem dX4_copyFrom_98 : decode cX4_copyFrom 98 = .ok (.getfield 43, 3) := by decide +kernel
theorem dX4_copyFrom_101 : decode cX4_copyFrom 101 = .ok (.invokestatic 49, 3) := by decide +kernel
theorem dX4_copyFrom_104 : decode cX4_copyFrom 104 = .ok (.aload_n 1, 1) := by decide +kernel
theorem dX4_copyFrom_105 : decode cX4_copyFrom 105 = .ok (.getfield 46, 3) := by decide +kernel
theorem dX4_copyFrom_108 : decode cX4_copyFrom 108 = .ok (.aload_n 0, 1) := by decide +kernel
theorem dX4_copyFrom_109 : decode cX4_copyFrom 109 = .ok (.getfield 46, 3) := by decide +kernel
theorem dX4_copyFrom_112 : decode cX4_copyFrom 112 = .ok (.invokestatic 49, 3) := by decide +kernel
theorem dX4_copyFrom_115 : decode cX4_copyFrom 115 = .ok (.return_, 1) := by decide +kernel
theorem dX4_hasMill_0 : decode cX4_hasMill 0 = .ok (.iload_n 1, 1) := by decide +kernel
theorem dX4_hasMill_1 : decode cX4_hasMill 1 = .ok (.ifCond .lt 15, 3) := by decide +kernel
theorem dX4_hasMill_4 : decode cX4_hasMill 4 = .ok (.iload_n 1, 1) := by decide +kernel
theorem dX4_hasMill_5 : decode cX4_hasMill 5 = .ok (.aload_n 0, 1) := by decide +kernel
theorem dX4_hasMill_6 : decode cX4_hasMill 6 = .ok (.getfield 24, 3) := by decide +kernel
theorem dX4_hasMill_9 : decode cX4_hasMill 9 = .ok (.if_icmp .ge 7, 3) := by decide +kernel
theorem dX4_hasMill_12 : decode cX4_hasMill 12 = .ok (.iconst 1, 1) := by decide +kernel
theorem dX4_hasMill_13 : decode cX4_hasMill 13 = .ok (.goto 4, 3) := by decide +kernel
theorem dX4_hasMill_16 : decode cX4_hasMill 16 = .ok (.iconst 0, 1) := by decide +kernel
theorem dX4_hasMill_17 : decode cX4_hasMill 17 = .ok (.ireturn, 1) := by decide +kernel
theorem dX4_hasHouse_0 : decode cX4_hasHouse 0 = .ok (.iload_n 1, 1) := by decide +kernel
theorem dX4_hasHouse_1 : decode cX4_hasHouse 1 = .ok (.ifCond .lt 15, 3) := by decide +kernel
theorem dX4_hasHouse_4 : decode cX4_hasHouse 4 = .ok (.iload_n 1, 1) := by decide +kernel
theorem dX4_hasHouse_5 : decode cX4_hasHouse 5 = .ok (.aload_n 0, 1) := by decide +kernel
theorem dX4_hasHouse_6 : decode cX4_hasHouse 6 = .ok (.getfield 37, 3) := by decide +kernel
theorem dX4_hasHouse_9 : decode cX4_hasHouse 9 = .ok (.if_icmp .ge 7, 3) := by decide +kernel
theorem dX4_hasHouse_12 : decode cX4_hasHouse 12 = .ok (.iconst 1, 1) := by decide +kernel
theorem dX4_hasHouse_13 : decode cX4_hasHouse 13 = .ok (.goto 4, 3) := by decide +kernel
theorem dX4_hasHouse_16 : decode cX4_hasHouse 16 = .ok (.iconst 0, 1) := by decide +kernel
theorem dX4_hasHouse_17 : decode cX4_hasHouse 17 = .ok (.ireturn, 1) := by decide +kernel
set_option maxRecDepth 20000 in
theorem ggX4_millAt_X4_firstWith : GoodIn wsX4_millAt wsX4_firstWith := goodIn_r _ [6, 7, 8, 9] (by decide +kernel) (by decide +kernel)
set_option maxRecDepth 20000 in
theorem gX4_millAt_X4_firstWith : GoodIn wsX4_millAt (va_wsS RX4 53 yX4_firstWith wsX4_firstWith) := goodIn_app (goodIn_of _ (by decide +kernel)) ggX4_millAt_X4_firstWith
theorem dX4_millAt_0 : decode cX4_millAt 0 = .ok (.aload_n 0, 1) := by decide +kernel
theorem dX4_millAt_1 : decode cX4_millAt 1 = .ok (.getfield 31, 3) := by decide +kernel
theorem dX4_millAt_4 : decode cX4_millAt 4 = .ok (.aload_n 0, 1) := by decide +kernel
theorem dX4_millAt_5 : decode cX4_millAt 5 = .ok (.getfield 24, 3) := by decide +kernel
theorem dX4_millAt_8 : decode cX4_millAt 8 = .ok (.iload_n 1, 1) := by decide +kernel
theorem dX4_millAt_9 : decode cX4_millAt 9 = .ok (.invokestatic 53, 3) := by decide +kernel
theorem dX4_millAt_12 : decode cX4_millAt 12 = .ok (.ireturn, 1) := by decide +kernel
set_option maxRecDepth 20000 in
theorem ggX4_houseAt_X4_firstWith : GoodIn wsX4_houseAt wsX4_firstWith := goodIn_r _ [6, 7, 8, 9] (by decide +kernel) (by decide +kernel)
set_option maxRecDepth 20000 in
theorem gX4_houseAt_X4_firstWith : GoodIn wsX4_houseAt (va_wsS RX4 53 yX4_firstWith wsX4_firstWith) := goodIn_app (goodIn_of _ (by decide +kernel)) ggX4_houseAt_X4_firstWith
theorem dX4_houseAt_0 : decode cX4_houseAt 0 = .ok (.aload_n 0, 1) := by decide +kernel
theorem dX4_houseAt_1 : decode cX4_houseAt 1 = .ok (.getfield 40, 3) := by decide +kernel
theorem dX4_houseAt_4 : decode cX4_houseAt 4 = .ok (.aload_n 0, 1) := by decide +kernel
theorem dX4_houseAt_5 : decode cX4_houseAt 5 = .ok (.getfield 37, 3) := by decide +kernel
theorem dX4_houseAt_8 : decode cX4_houseAt 8 = .ok (.iload_n 1, 1) := by decide +kernel
theorem dX4_houseAt_9 : decode cX4_houseAt 9 = .ok (.invokestatic 53, 3) := by decide +kernel
theorem dX4_houseAt_12 : decode cX4_houseAt 12 = .ok (.ireturn, 1) := by decide +kernel
set_option maxRecDepth 20000 in
theorem ggX4_isFree_X4_millAt : GoodIn wsX4_isFree wsX4_millAt := goodIn_r _ [5, 6, 7, 8, 9, 4, 10, 11, 12, 13, 20, 21, 22, 23, 24, 25, 26, 27, 28, 29, 30] (by decide +kernel) (by decide +kernel)
set_option maxRecDepth 20000 in
theorem gX4_isFree_X4_millAt : GoodIn wsX4_isFree (wsV RX4 57 RX4 yX4_millAt wsX4_millAt) := goodIn_app (goodIn_of _ (by decide +kernel)) ggX4_isFree_X4_millAt
set_option maxRecDepth 20000 in
theorem ggX4_isFree_X4_houseAt : GoodIn wsX4_isFree wsX4_houseAt := goodIn_r _ [17, 18, 19, 8, 9, 4, 10, 11, 12, 13, 20, 21, 22, 23, 24, 25, 26, 27, 28, 29, 30] (by decide +kernel) (by decide +kernel)
set_option maxRecDepth 20000 in
theorem gX4_isFree_X4_houseAt : GoodIn wsX4_isFree (wsV RX4 61 RX4 yX4_houseAt wsX4_houseAt) := goodIn_app (goodIn_of _ (by decide +kernel)) ggX4_isFree_X4_houseAt
theorem dX4_isFree_0 : decode cX4_isFree 0 = .ok (.aload_n 0, 1) := by decide +kernel
theorem dX4_isFree_1 : decode cX4_isFree 1 = .ok (.iload_n 1, 1) := by decide +kernel
theorem dX4_isFree_2 : decode cX4_isFree 2 = .ok (.invokevirtual 57, 3) := by decide +kernel
theorem dX4_isFree_5 : decode cX4_isFree 5 = .ok (.bipush (-5), 2) := by decide +kernel
theorem dX4_isFree_7 : decode cX4_isFree 7 = .ok (.if_icmp .ne 17, 3) := by decide +kernel
theorem dX4_isFree_10 : decode cX4_isFree 10 = .ok (.aload_n 0, 1) := by decide +kernel
theorem dX4_isFree_11 : decode cX4_isFree 11 = .ok (.iload_n 1, 1) := by decide +kernel
theorem dX4_isFree_12 : decode cX4_isFree 12 = .ok (.invokevirtual 61, 3) := by decide +kernel
theorem dX4_isFree_15 : decode cX4_isFree 15 = .ok (.bipush (-5), 2) := by decide +kernel
theorem dX4_isFree_17 : decode cX4_isFree 17 = .ok (.if_icmp .ne 7, 3) := by decide +kernel
theorem dX4_isFree_20 : decode cX4_isFree 20 = .ok (.iconst 1, 1) := by decide +kernel
theorem dX4_isFree_21 : decode cX4_isFree 21 = .ok (.goto 4, 3) := by decide +kernel
theorem dX4_isFree_24 : decode cX4_isFree 24 = .ok (.iconst 0, 1) := by decide +kernel
theorem dX4_isFree_25 : decode cX4_isFree 25 = .ok (.ireturn, 1) := by decide +kernel
set_option maxRecDepth 20000 in
theorem ggX4_firstWith_X5_at : GoodIn wsX4_firstWith wsX5_at := goodIn_r _ [3] (by decide +kernel) (by decide +kernel)
set_option maxRecDepth 20000 in
theorem gX4_firstWith_X5_at_n64 : GoodIn wsX4_firstWith (wsX5_at) := ggX4_firstWith_X5_at
theorem dX4_firstWith_0 : decode cX4_firstWith 0 = .ok (.iconst 0, 1) := by decide +kernel
theorem dX4_firstWith_1 : decode cX4_firstWith 1 = .ok (.istore_n 3, 1) := by decide +kernel
theorem dX4_firstWith_2 : decode cX4_firstWith 2 = .ok (.iload_n 3, 1) := by decide +kernel
theorem dX4_firstWith_3 : decode cX4_firstWith 3 = .ok (.iload_n 1, 1) := by decide +kernel
theorem dX4_firstWith_4 : decode cX4_firstWith 4 = .ok (.if_icmp .ge 20, 3) := by decide +kernel
theorem dX4_firstWith_7 : decode cX4_firstWith 7 = .ok (.aload_n 0, 1) := by decide +kernel
theorem dX4_firstWith_8 : decode cX4_firstWith 8 = .ok (.iload_n 3, 1) := by decide +kernel
theorem dX4_firstWith_9 : decode cX4_firstWith 9 = .ok (.invokestatic 64, 3) := by decide +kernel
theorem dX4_firstWith_12 : decode cX4_firstWith 12 = .ok (.iload_n 2, 1) := by decide +kernel
theorem dX4_firstWith_13 : decode cX4_firstWith 13 = .ok (.if_icmp .ne 5, 3) := by decide +kernel
theorem dX4_firstWith_16 : decode cX4_firstWith 16 = .ok (.iload_n 3, 1) := by decide +kernel
theorem dX4_firstWith_17 : decode cX4_firstWith 17 = .ok (.ireturn, 1) := by decide +kernel
theorem dX4_firstWith_18 : decode cX4_firstWith 18 = .ok (.iinc 3 1, 3) := by decide +kernel
theorem dX4_firstWith_21 : decode cX4_firstWith 21 = .ok (.goto (-19), 3) := by decide +kernel
theorem dX4_firstWith_24 : decode cX4_firstWith 24 = .ok (.bipush (-5), 2) := by decide +kernel
theorem dX4_firstWith_26 : decode cX4_firstWith 26 = .ok (.ireturn, 1) := by decide +kernel
set_option maxRecDepth 20000 in
theorem ggX4_setting_X5_at : GoodIn wsX4_setting wsX5_at := goodIn_r _ [4] (by decide +kernel) (by decide +kernel)
set_option maxRecDepth 20000 in
theorem gX4_setting_X5_at_n64 : GoodIn wsX4_setting (wsX5_at) := ggX4_setting_X5_at
theorem dX4_setting_0 : decode cX4_setting 0 = .ok (.aload_n 0, 1) := by decide +kernel
theorem dX4_setting_1 : decode cX4_setting 1 = .ok (.getfield 18, 3) := by decide +kernel
theorem dX4_setting_4 : decode cX4_setting 4 = .ok (.iload_n 1, 1) := by decide +kernel
theorem dX4_setting_5 : decode cX4_setting 5 = .ok (.invokestatic 64, 3) := by decide +kernel
theorem dX4_setting_8 : decode cX4_setting 8 = .ok (.ireturn, 1) := by decide +kernel
set_option maxRecDepth 20000 in
theorem ggX4_windAt_X5_at : GoodIn wsX4_windAt wsX5_at := goodIn_r _ [4] (by decide +kernel) (by decide +kernel)
set_option maxRecDepth 20000 in
theorem gX4_windAt_X5_at_n64 : GoodIn wsX4_windAt (wsX5_at) := ggX4_windAt_X5_at
theorem dX4_windAt_0 : decode cX4_windAt 0 = .ok (.aload_n 0, 1) := by decide +kernel
theorem dX4_windAt_1 : decode cX4_windAt 1 = .ok (.getfield 9, 3) := by decide +kernel
theorem dX4_windAt_4 : decode cX4_windAt 4 = .ok (.iload_n 1, 1) := by decide +kernel
theorem dX4_windAt_5 : decode cX4_windAt 5 = .ok (.invokestatic 64, 3) := by decide +kernel
theorem dX4_windAt_8 : decode cX4_windAt 8 = .ok (.ireturn, 1) := by decide +kernel
set_option maxRecDepth 20000 in
theorem ggX4_blows_X4_windAt : GoodIn wsX4_blows wsX4_windAt := goodIn_r _ [5, 6, 7, 8, 9, 10, 11, 12, 13, 14, 15, 16, 17, 18, 19, 20] (by decide +kernel) (by decide +kernel)
set_option maxRecDepth 20000 in
theorem gX4_blows_X4_windAt : GoodIn wsX4_blows (wsV RX4 68 RX4 yX4_windAt wsX4_windAt) := goodIn_app (goodIn_of _ (by decide +kernel)) ggX4_blows_X4_windAt
theorem dX4_blows_0 : decode cX4_blows 0 = .ok (.aload_n 0, 1) := by decide +kernel
theorem dX4_blows_1 : decode cX4_blows 1 = .ok (.iload_n 1, 1) := by decide +kernel
theorem dX4_blows_2 : decode cX4_blows 2 = .ok (.invokevirtual 68, 3) := by decide +kernel
theorem dX4_blows_5 : decode cX4_blows 5 = .ok (.iconst 2, 1) := by decide +kernel
theorem dX4_blows_6 : decode cX4_blows 6 = .ok (.if_icmp .lt 7, 3) := by decide +kernel
theorem dX4_blows_9 : decode cX4_blows 9 = .ok (.iconst 1, 1) := by decide +kernel
theorem dX4_blows_10 : decode cX4_blows 10 = .ok (.goto 4, 3) := by decide +kernel
theorem dX4_blows_13 : decode cX4_blows 13 = .ok (.iconst 0, 1) := by decide +kernel
theorem dX4_blows_14 : decode cX4_blows 14 = .ok (.ireturn, 1) := by decide +kernel
set_option maxRecDepth 20000 in
theorem ggX4_tiedHours_X5_at : GoodIn wsX4_tiedHours wsX5_at := goodIn_r _ [4] (by decide +kernel) (by decide +kernel)
set_option maxRecDepth 20000 in
theorem gX4_tiedHours_X5_at_n64 : GoodIn wsX4_tiedHours (wsX5_at) := ggX4_tiedHours_X5_at
theorem dX4_tiedHours_0 : decode cX4_tiedHours 0 = .ok (.aload_n 0, 1) := by decide +kernel
theorem dX4_tiedHours_1 : decode cX4_tiedHours 1 = .ok (.getfield 34, 3) := by decide +kernel
theorem dX4_tiedHours_4 : decode cX4_tiedHours 4 = .ok (.iload_n 1, 1) := by decide +kernel
theorem dX4_tiedHours_5 : decode cX4_tiedHours 5 = .ok (.invokestatic 64, 3) := by decide +kernel
theorem dX4_tiedHours_8 : decode cX4_tiedHours 8 = .ok (.ireturn, 1) := by decide +kernel
set_option maxRecDepth 20000 in
theorem ggX4_tiedHoursOfAll_X4_tiedHours : GoodIn wsX4_tiedHoursOfAll wsX4_tiedHours := goodIn_r _ [6, 7, 8, 9, 10, 18, 19, 20, 21, 22, 23, 24, 25, 26, 27, 28] (by decide +kernel) (by decide +kernel)
set_option maxRecDepth 20000 in
theorem gX4_tiedHoursOfAll_X4_tiedHours : GoodIn wsX4_tiedHoursOfAll (wsV RX4 71 RX4 yX4_tiedHours wsX4_tiedHours) := goodIn_app (goodIn_of _ (by decide +kernel)) ggX4_tiedHoursOfAll_X4_tiedHours
set_option maxRecDepth 20000 in
theorem ggX4_tiedHoursOfAll_J6_bitCount_0f7a4 : GoodIn wsX4_tiedHoursOfAll wsJ6_bitCount_0f7a4 := goodIn_r _ [14, 15, 16, 17] (by decide +kernel) (by decide +kernel)
set_option maxRecDepth 20000 in
theorem gX4_tiedHoursOfAll_J6_bitCount_0f7a4 : GoodIn wsX4_tiedHoursOfAll (va_wsS RX4 74 yJ6_bitCount_0f7a4 wsJ6_bitCount_0f7a4) := goodIn_app (goodIn_of _ (by decide +kernel)) ggX4_tiedHoursOfAll_J6_bitCount_0f7a4
theorem dX4_tiedHoursOfAll_0 : decode cX4_tiedHoursOfAll 0 = .ok (.iconst 0, 1) := by decide +kernel
theorem dX4_tiedHoursOfAll_1 : decode cX4_tiedHoursOfAll 1 = .ok (.istore_n 1, 1) := by decide +kernel
theorem dX4_tiedHoursOfAll_2 : decode cX4_tiedHoursOfAll 2 = .ok (.iconst 0, 1) := by decide +kernel
theorem dX4_tiedHoursOfAll_3 : decode cX4_tiedHoursOfAll 3 = .ok (.istore_n 2, 1) := by decide +kernel
theorem dX4_tiedHoursOfAll_4 : decode cX4_tiedHoursOfAll 4 = .ok (.iload_n 2, 1) := by decide +kernel
theorem dX4_tiedHoursOfAll_5 : decode cX4_tiedHoursOfAll 5 = .ok (.aload_n 0, 1) := by decide +kernel
theorem dX4_tiedHoursOfAll_6 : decode cX4_tiedHoursOfAll 6 = .ok (.getfield 24, 3) := by decide +kernel
theorem dX4_tiedHoursOfAll_9 : decode cX4_tiedHoursOfAll 9 = .ok (.if_icmp .ge 20, 3) := by decide +kernel
theorem dX4_tiedHoursOfAll_12 : decode cX4_tiedHoursOfAll 12 = .ok (.iload_n 1, 1) := by decide +kernel
theorem dX4_tiedHoursOfAll_13 : decode cX4_tiedHoursOfAll 13 = .ok (.aload_n 0, 1) := by decide +kernel
theorem dX4_tiedHoursOfAll_14 : decode cX4_tiedHoursOfAll 14 = .ok (.iload_n 2, 1) := by decide +kernel
theorem dX4_tiedHoursOfAll_15 : decode cX4_tiedHoursOfAll 15 = .ok (.invokevirtual 71, 3) := by decide +kernel
theorem dX4_tiedHoursOfAll_18 : decode cX4_tiedHoursOfAll 18 = .ok (.invokestatic 74, 3) := by decide +kernel
theorem dX4_tiedHoursOfAll_21 : decode cX4_tiedHoursOfAll 21 = .ok (.iadd, 1) := by decide +kernel
theorem dX4_tiedHoursOfAll_22 : decode cX4_tiedHoursOfAll 22 = .ok (.istore_n 1, 1) := by decide +kernel
theorem dX4_tiedHoursOfAll_23 : decode cX4_tiedHoursOfAll 23 = .ok (.iinc 2 1, 3) := by decide +kernel
theorem dX4_tiedHoursOfAll_26 : decode cX4_tiedHoursOfAll 26 = .ok (.goto (-22), 3) := by decide +kernel
theorem dX4_tiedHoursOfAll_29 : decode cX4_tiedHoursOfAll 29 = .ok (.iload_n 1, 1) := by decide +kernel
theorem dX4_tiedHoursOfAll_30 : decode cX4_tiedHoursOfAll 30 = .ok (.ireturn, 1) := by decide +kernel
set_option maxRecDepth 20000 in
theorem ggX4_isTied_X4_tiedHours : GoodIn wsX4_isTied wsX4_tiedHours := goodIn_r _ [5, 6, 7, 8, 9, 10, 11, 12, 13, 14, 15, 16, 17, 18, 19, 20] (by decide +kernel) (by decide +kernel)
set_option maxRecDepth 20000 in
theorem gX4_isTied_X4_tiedHours : GoodIn wsX4_isTied (wsV RX4 71 RX4 yX4_tiedHours wsX4_tiedHours) := goodIn_app (goodIn_of _ (by decide +kernel)) ggX4_isTied_X4_tiedHours
theorem dX4_isTied_0 : decode cX4_isTied 0 = .ok (.aload_n 0, 1) := by decide +kernel
theorem dX4_isTied_1 : decode cX4_isTied 1 = .ok (.iload_n 1, 1) := by decide +kernel
theorem dX4_isTied_2 : decode cX4_isTied 2 = .ok (.invokevirtual 71, 3) := by decide +kernel
theorem dX4_isTied_5 : decode cX4_isTied 5 = .ok (.iload_n 2, 1) := by decide +kernel
theorem dX4_isTied_6 : decode cX4_isTied 6 = .ok (.ishr, 1) := by decide +kernel
theorem dX4_isTied_7 : decode cX4_isTied 7 = .ok (.iconst 1, 1) := by decide +kernel
theorem dX4_isTied_8 : decode cX4_isTied 8 = .ok (.iand, 1) := by decide +kernel
theorem dX4_isTied_9 : decode cX4_isTied 9 = .ok (.ifCond .eq 7, 3) := by decide +kernel
theorem dX4_isTied_12 : decode cX4_isTied 12 = .ok (.iconst 1, 1) := by decide +kernel
theorem dX4_isTied_13 : decode cX4_isTied 13 = .ok (.goto 4, 3) := by decide +kernel
theorem dX4_isTied_16 : decode cX4_isTied 16 = .ok (.iconst 0, 1) := by decide +kernel
theorem dX4_isTied_17 : decode cX4_isTied 17 = .ok (.ireturn, 1) := by decide +kernel
set_option maxRecDepth 20000 in
theorem ggX4_tie_X4_tiedHours : GoodIn wsX4_tie wsX4_tiedHours := goodIn_r _ [6, 1, 7, 8, 9, 12, 13, 14, 15, 16, 17, 18, 19, 20, 21, 22] (by decide +kernel) (by decide +kernel)
set_option maxRecDepth 20000 in
theorem gX4_tie_X4_tiedHours : GoodIn wsX4_tie (wsV RX4 71 RX4 yX4_tiedHours wsX4_tiedHours) := goodIn_app (goodIn_of _ (by decide +kernel)) ggX4_tie_X4_tiedHours
set_option maxRecDepth 20000 in
theorem ggX4_tie_X5_put : GoodIn wsX4_tie wsX5_put := goodIn_r _ [11] (by decide +kernel) (by decide +kernel)
set_option maxRecDepth 20000 in
theorem gX4_tie_X5_put_n79 : GoodIn wsX4_tie (wsX5_put) := ggX4_tie_X5_put
theorem dX4_tie_0 : decode cX4_tie 0 = .ok (.aload_n 0, 1) := by decide +kernel
theorem dX4_tie_1 : decode cX4_tie 1 = .ok (.getfield 34, 3) := by decide +kernel
theorem dX4_tie_4 : decode cX4_tie 4 = .ok (.iload_n 1, 1) := by decide +kernel
theorem dX4_tie_5 : decode cX4_tie 5 = .ok (.aload_n 0, 1) := by decide +kernel
theorem dX4_tie_6 : decode cX4_tie 6 = .ok (.iload_n 1, 1) := by decide +kernel
theorem dX4_tie_7 : decode cX4_tie 7 = .ok (.invokevirtual 71, 3) := by decide +kernel
theorem dX4_tie_10 : decode cX4_tie 10 = .ok (.iconst 1, 1) := by decide +kernel
theorem dX4_tie_11 : decode cX4_tie 11 = .ok (.iload_n 2, 1) := by decide +kernel
theorem dX4_tie_12 : decode cX4_tie 12 = .ok (.ishl, 1) := by decide +kernel
theorem dX4_tie_13 : decode cX4_tie 13 = .ok (.ior, 1) := by decide +kernel
theorem dX4_tie_14 : decode cX4_tie 14 = .ok (.invokestatic 79, 3) := by decide +kernel
theorem dX4_tie_17 : decode cX4_tie 17 = .ok (.return_, 1) := by decide +kernel
set_option maxRecDepth 20000 in
theorem ggX4_untie_X4_tiedHours : GoodIn wsX4_untie wsX4_tiedHours := goodIn_r _ [6, 1, 7, 8, 9, 12, 13, 14, 15, 16, 17, 18, 19, 20, 21, 22] (by decide +kernel) (by decide +kernel)
set_option maxRecDepth 20000 in
theorem gX4_untie_X4_tiedHours : GoodIn wsX4_untie (wsV RX4 71 RX4 yX4_tiedHours wsX4_tiedHours) := goodIn_app (goodIn_of _ (by decide +kernel)) ggX4_untie_X4_tiedHours
set_option maxRecDepth 20000 in
theorem ggX4_untie_X5_put : GoodIn wsX4_untie wsX5_put := goodIn_r _ [11] (by decide +kernel) (by decide +kernel)
set_option maxRecDepth 20000 in
theorem gX4_untie_X5_put_n79 : GoodIn wsX4_untie (wsX5_put) := ggX4_untie_X5_put
theorem dX4_untie_0 : decode cX4_untie 0 = .ok (.aload_n 0, 1) := by decide +kernel
theorem dX4_untie_1 : decode cX4_untie 1 = .ok (.getfield 34, 3) := by decide +kernel
theorem dX4_untie_4 : decode cX4_untie 4 = .ok (.iload_n 1, 1) := by decide +kernel
theorem dX4_untie_5 : decode cX4_untie 5 = .ok (.aload_n 0, 1) := by decide +kernel
theorem dX4_untie_6 : decode cX4_untie 6 = .ok (.iload_n 1, 1) := by decide +kernel
theorem dX4_untie_7 : decode cX4_untie 7 = .ok (.invokevirtual 71, 3) := by decide +kernel
theorem dX4_untie_10 : decode cX4_untie 10 = .ok (.iconst 1, 1) := by decide +kernel
theorem dX4_untie_11 : decode cX4_untie 11 = .ok (.iload_n 2, 1) := by decide +kernel
theorem dX4_untie_12 : decode cX4_untie 12 = .ok (.ishl, 1) := by decide +kernel
theorem dX4_untie_13 : decode cX4_untie 13 = .ok (.iconst (-1), 1) := by decide +kernel
theorem dX4_untie_14 : decode cX4_untie 14 = .ok (.ixor, 1) := by decide +kernel
theorem dX4_untie_15 : decode cX4_untie 15 = .ok (.iand, 1) := by decide +kernel
theorem dX4_untie_16 : decode cX4_untie 16 = .ok (.invokestatic 79, 3) := by decide +kernel
theorem dX4_untie_19 : decode cX4_untie 19 = .ok (.return_, 1) := by decide +kernel
set_option maxRecDepth 20000 in
theorem ggX4_turns_X4_blows : GoodIn wsX4_turns wsX4_blows := goodIn_r _ [5, 6, 7, 8, 4, 9, 10, 11, 12, 13, 23, 24, 25, 26, 27, 28, 29, 30, 31, 32, 33] (by decide +kernel) (by decide +kernel)
set_option maxRecDepth 20000 in
theorem gX4_turns_X4_blows : GoodIn wsX4_turns (wsV RX4 83 RX4 yX4_blows wsX4_blows) := goodIn_app (goodIn_of _ (by decide +kernel)) ggX4_turns_X4_blows
set_option maxRecDepth 20000 in
theorem ggX4_turns_X4_isTied : GoodIn wsX4_turns wsX4_isTied := goodIn_r _ [17, 18, 19, 20, 4, 21, 22, 11, 12, 13, 23, 24, 25, 26, 27, 28, 29, 30, 31, 32, 33] (by decide +kernel) (by decide +kernel)
set_option maxRecDepth 20000 in
theorem gX4_turns_X4_isTied : GoodIn wsX4_turns (wsV RX4 87 RX4 yX4_isTied wsX4_isTied) := goodIn_app (goodIn_of _ (by decide +kernel)) ggX4_turns_X4_isTied
theorem dX4_turns_0 : decode cX4_turns 0 = .ok (.aload_n 0, 1) := by decide +kernel
theorem dX4_turns_1 : decode cX4_turns 1 = .ok (.iload_n 2, 1) := by decide +kernel
theorem dX4_turns_2 : decode cX4_turns 2 = .ok (.invokevirtual 83, 3) := by decide +kernel
theorem dX4_turns_5 : decode cX4_turns 5 = .ok (.ifCond .eq 16, 3) := by decide +kernel
theorem dX4_turns_8 : decode cX4_turns 8 = .ok (.aload_n 0, 1) := by decide +kernel
theorem dX4_turns_9 : decode cX4_turns 9 = .ok (.iload_n 1, 1) := by decide +kernel
theorem dX4_turns_10 : decode cX4_turns 10 = .ok (.iload_n 2, 1) := by decide +kernel
theorem dX4_turns_11 : decode cX4_turns 11 = .ok (.invokevirtual 87, 3) := by decide +kernel
theorem dX4_turns_14 : decode cX4_turns 14 = .ok (.ifCond .ne 7, 3) := by decide +kernel
theorem dX4_turns_17 : decode cX4_turns 17 = .ok (.iconst 1, 1) := by decide +kernel
theorem dX4_turns_18 : decode cX4_turns 18 = .ok (.goto 4, 3) := by decide +kernel
theorem dX4_turns_21 : decode cX4_turns 21 = .ok (.iconst 0, 1) := by decide +kernel
theorem dX4_turns_22 : decode cX4_turns 22 = .ok (.ireturn, 1) := by decide +kernel
set_option maxRecDepth 20000 in
theorem ggX4_turningHours_X4_turns : GoodIn wsX4_turningHours wsX4_turns := goodIn_r _ [5, 6, 7, 8, 4, 9, 10, 11, 12, 13, 14, 15, 16, 17, 18, 19, 20, 21, 22, 23, 24, 25, 26, 27, 28, 29, 30, 31, 32, 33, 34, 35, 36, 37] (by decide +kernel) (by decide +kernel)
set_option maxRecDepth 20000 in
theorem gX4_turningHours_X4_turns : GoodIn wsX4_turningHours (wsV RX4 91 RX4 yX4_turns wsX4_turns) := goodIn_app (goodIn_of _ (by decide +kernel)) ggX4_turningHours_X4_turns
theorem dX4_turningHours_0 : decode cX4_turningHours 0 = .ok (.iconst 0, 1) := by decide +kernel
theorem dX4_turningHours_1 : decode cX4_turningHours 1 = .ok (.istore_n 2, 1) := by decide +kernel
theorem dX4_turningHours_2 : decode cX4_turningHours 2 = .ok (.iconst 0, 1) := by decide +kernel
theorem dX4_turningHours_3 : decode cX4_turningHours 3 = .ok (.istore_n 3, 1) := by decide +kernel
theorem dX4_turningHours_4 : decode cX4_turningHours 4 = .ok (.iload_n 3, 1) := by decide +kernel
theorem dX4_turningHours_5 : decode cX4_turningHours 5 = .ok (.bipush 24, 2) := by decide +kernel
theorem dX4_turningHours_7 : decode cX4_turningHours 7 = .ok (.if_icmp .ge 24, 3) := by decide +kernel
theorem dX4_turningHours_10 : decode cX4_turningHours 10 = .ok (.aload_n 0, 1) := by decide +kernel
theorem dX4_turningHours_11 : decode cX4_turningHours 11 = .ok (.iload_n 1, 1) := by decide +kernel
theorem dX4_turningHours_12 : decode cX4_turningHours 12 = .ok (.iload_n 3, 1) := by decide +kernel
theorem dX4_turningHours_13 : decode cX4_turningHours 13 = .ok (.invokevirtual 91, 3) := by decide +kernel
theorem dX4_turningHours_16 : decode cX4_turningHours 16 = .ok (.ifCond .eq 9, 3) := by decide +kernel
theorem dX4_turningHours_19 : decode cX4_turningHours 19 = .ok (.iload_n 2, 1) := by decide +kernel
theorem dX4_turningHours_20 : decode cX4_turningHours 20 = .ok (.iconst 1, 1) := by decide +kernel
theorem dX4_turningHours_21 : decode cX4_turningHours 21 = .ok (.iload_n 3, 1) := by decide +kernel
theorem dX4_turningHours_22 : decode cX4_turningHours 22 = .ok (.ishl, 1) := by decide +kernel
theorem dX4_turningHours_23 : decode cX4_turningHours 23 = .ok (.ior, 1) := by decide +kernel
theorem dX4_turningHours_24 : decode cX4_turningHours 24 = .ok (.istore_n 2, 1) := by decide +kernel
theorem dX4_turningHours_25 : decode cX4_turningHours 25 = .ok (.iinc 3 1, 3) := by decide +kernel
theorem dX4_turningHours_28 : decode cX4_turningHours 28 = .ok (.goto (-24), 3) := by decide +kernel
theorem dX4_turningHours_31 : decode cX4_turningHours 31 = .ok (.iload_n 2, 1) := by decide +kernel
theorem dX4_turningHours_32 : decode cX4_turningHours 32 = .ok (.ireturn, 1) := by decide +kernel
set_option maxRecDepth 20000 in
theorem ggX4_grainOf_X4_turns : GoodIn wsX4_grainOf wsX4_turns := goodIn_r _ [5, 6, 7, 8, 4, 9, 10, 11, 12, 13, 14, 15, 16, 17, 18, 19, 20, 21, 22, 23, 24, 25, 26, 27, 28, 29, 30, 31, 32, 33, 34, 35, 36, 37] (by decide +kernel) (by decide +kernel)
set_option maxRecDepth 20000 in
theorem gX4_grainOf_X4_turns : GoodIn wsX4_grainOf (wsV RX4 91 RX4 yX4_turns wsX4_turns) := goodIn_app (goodIn_of _ (by decide +kernel)) ggX4_grainOf_X4_turns
set_option maxRecDepth 20000 in
theorem ggX4_grainOf_X4_windAt : GoodIn wsX4_grainOf wsX4_windAt := goodIn_r _ [13, 14, 15, 16, 17, 27, 28, 29, 30, 31, 32, 33, 34, 35, 36, 37] (by decide +kernel) (by decide +kernel)
set_option maxRecDepth 20000 in
theorem gX4_grainOf_X4_windAt : GoodIn wsX4_grainOf (wsV RX4 68 RX4 yX4_windAt wsX4_windAt) := goodIn_app (goodIn_of _ (by decide +kernel)) ggX4_grainOf_X4_windAt
theorem dX4_grainOf_0 : decode cX4_grainOf 0 = .ok (.iconst 0, 1) := by decide +kernel
theorem dX4_grainOf_1 : decode cX4_grainOf 1 = .ok (.istore_n 2, 1) := by decide +kernel
theorem dX4_grainOf_2 : decode cX4_grainOf 2 = .ok (.iconst 0, 1) := by decide +kernel
theorem dX4_grainOf_3 : decode cX4_grainOf 3 = .ok (.istore_n 3, 1) := by decide +kernel
theorem dX4_grainOf_4 : decode cX4_grainOf 4 = .ok (.iload_n 3, 1) := by decide +kernel
theorem dX4_grainOf_5 : decode cX4_grainOf 5 = .ok (.bipush 24, 2) := by decide +kernel
theorem dX4_grainOf_7 : decode cX4_grainOf 7 = .ok (.if_icmp .ge 26, 3) := by decide +kernel
theorem dX4_grainOf_10 : decode cX4_grainOf 10 = .ok (.aload_n 0, 1) := by decide +kernel
theorem dX4_grainOf_11 : decode cX4_grainOf 11 = .ok (.iload_n 1, 1) := by decide +kernel
theorem dX4_grainOf_12 : decode cX4_grainOf 12 = .ok (.iload_n 3, 1) := by decide +kernel
theorem dX4_grainOf_13 : decode cX4_grainOf 13 = .ok (.invokevirtual 91, 3) := by decide +kernel
theorem dX4_grainOf_16 : decode cX4_grainOf 16 = .ok (.ifCond .eq 11, 3) := by decide +kernel
theorem dX4_grainOf_19 : decode cX4_grainOf 19 = .ok (.iload_n 2, 1) := by decide +kernel
theorem dX4_grainOf_20 : decode cX4_grainOf 20 = .ok (.aload_n 0, 1) := by decide +kernel
theorem dX4_grainOf_21 : decode cX4_grainOf 21 = .ok (.iload_n 3, 1) := by decide +kernel
theorem dX4_grainOf_22 : decode cX4_grainOf 22 = .ok (.invokevirtual 68, 3) := by decide +kernel
theorem dX4_grainOf_25 : decode cX4_grainOf 25 = .ok (.iadd, 1) := by decide +kernel
theorem dX4_grainOf_26 : decode cX4_grainOf 26 = .ok (.istore_n 2, 1) := by decide +kernel
theorem dX4_grainOf_27 : decode cX4_grainOf 27 = .ok (.iinc 3 1, 3) := by decide +kernel
theorem dX4_grainOf_30 : decode cX4_grainOf 30 = .ok (.goto (-26), 3) := by decide +kernel
theorem dX4_grainOf_33 : decode cX4_grainOf 33 = .ok (.iload_n 2, 1) := by decide +kernel
theorem dX4_grainOf_34 : decode cX4_grainOf 34 = .ok (.ireturn, 1) := by decide +kernel
set_option maxRecDepth 20000 in
theorem ggX4_grainOfAll_X4_grainOf : GoodIn wsX4_grainOfAll wsX4_grainOf := goodIn_r _ [6, 7, 8, 9, 5, 10, 11, 12, 13, 14, 15, 16, 17, 18, 19, 20, 21, 22, 23, 24, 25, 26, 27, 28, 29, 30, 31, 32, 33, 34, 35, 36, 37, 38, 39, 40, 41, 42] (by decide +kernel) (by decide +kernel)
set_option maxRecDepth 20000 in
theorem gX4_grainOfAll_X4_grainOf : GoodIn wsX4_grainOfAll (wsV RX4 94 RX4 yX4_grainOf wsX4_grainOf) := goodIn_app (goodIn_of _ (by decide +kernel)) ggX4_grainOfAll_X4_grainOf
theorem dX4_grainOfAll_0 : decode cX4_grainOfAll 0 = .ok (.iconst 0, 1) := by decide +kernel
theorem dX4_grainOfAll_1 : decode cX4_grainOfAll 1 = .ok (.istore_n 1, 1) := by decide +kernel
theorem dX4_grainOfAll_2 : decode cX4_grainOfAll 2 = .ok (.iconst 0, 1) := by decide +kernel
theorem dX4_grainOfAll_3 : decode cX4_grainOfAll 3 = .ok (.istore_n 2, 1) := by decide +kernel
theorem dX4_grainOfAll_4 : decode cX4_grainOfAll 4 = .ok (.iload_n 2, 1) := by decide +kernel
theorem dX4_grainOfAll_5 : decode cX4_grainOfAll 5 = .ok (.aload_n 0, 1) := by decide +kernel
theorem dX4_grainOfAll_6 : decode cX4_grainOfAll 6 = .ok (.getfield 24, 3) := by decide +kernel
theorem dX4_grainOfAll_9 : decode cX4_grainOfAll 9 = .ok (.if_icmp .ge 17, 3) := by decide +kernel
theorem dX4_grainOfAll_12 : decode cX4_grainOfAll 12 = .ok (.iload_n 1, 1) := by decide +kernel
theorem dX4_grainOfAll_13 : decode cX4_grainOfAll 13 = .ok (.aload_n 0, 1) := by decide +kernel
theorem dX4_grainOfAll_14 : decode cX4_grainOfAll 14 = .ok (.iload_n 2, 1) := by decide +kernel
theorem dX4_grainOfAll_15 : decode cX4_grainOfAll 15 = .ok (.invokevirtual 94, 3) := by decide +kernel
theorem dX4_grainOfAll_18 : decode cX4_grainOfAll 18 = .ok (.iadd, 1) := by decide +kernel
theorem dX4_grainOfAll_19 : decode cX4_grainOfAll 19 = .ok (.istore_n 1, 1) := by decide +kernel
theorem dX4_grainOfAll_20 : decode cX4_grainOfAll 20 = .ok (.iinc 2 1, 3) := by decide +kernel
theorem dX4_grainOfAll_23 : decode cX4_grainOfAll 23 = .ok (.goto (-19), 3) := by decide +kernel
theorem dX4_grainOfAll_26 : decode cX4_grainOfAll 26 = .ok (.iload_n 1, 1) := by decide +kernel
theorem dX4_grainOfAll_27 : decode cX4_grainOfAll 27 = .ok (.ireturn, 1) := by decide +kernel
set_option maxRecDepth 20000 in
theorem ggX4_grainOfAllIfUntied_X4_blows : GoodIn wsX4_grainOfAllIfUntied wsX4_blows := goodIn_r _ [6, 7, 8, 9, 5, 10, 11, 12, 13, 14, 15, 16, 17, 18, 19, 20, 21, 22, 23, 24, 25] (by decide +kernel) (by decide +kernel)
set_option maxRecDepth 20000 in
theorem gX4_grainOfAllIfUntied_X4_blows : GoodIn wsX4_grainOfAllIfUntied (wsV RX4 83 RX4 yX4_blows wsX4_blows) := goodIn_app (goodIn_of _ (by decide +kernel)) ggX4_grainOfAllIfUntied_X4_blows
set_option maxRecDepth 20000 in
theorem ggX4_grainOfAllIfUntied_X4_windAt : GoodIn wsX4_grainOfAllIfUntied wsX4_windAt := goodIn_r _ [10, 11, 12, 13, 14, 15, 16, 17, 18, 19, 20, 21, 22, 23, 24, 25] (by decide +kernel) (by decide +kernel)
set_option maxRecDepth 20000 in
theorem gX4_grainOfAllIfUntied_X4_windAt : GoodIn wsX4_grainOfAllIfUntied (wsV RX4 68 RX4 yX4_windAt wsX4_windAt) := goodIn_app (goodIn_of _ (by decide +kernel)) ggX4_grainOfAllIfUntied_X4_windAt
theorem dX4_grainOfAllIfUntied_0 : decode cX4_grainOfAllIfUntied 0 = .ok (.iconst 0, 1) := by decide +kernel
theorem dX4_grainOfAllIfUntied_1 : decode cX4_grainOfAllIfUntied 1 = .ok (.istore_n 1, 1) := by decide +kernel
theorem dX4_grainOfAllIfUntied_2 : decode cX4_grainOfAllIfUntied 2 = .ok (.iconst 0, 1) := by decide +kernel
theorem dX4_grainOfAllIfUntied_3 : decode cX4_grainOfAllIfUntied 3 = .ok (.istore_n 2, 1) := by decide +kernel
theorem dX4_grainOfAllIfUntied_4 : decode cX4_grainOfAllIfUntied 4 = .ok (.iload_n 2, 1) := by decide +kernel
theorem dX4_grainOfAllIfUntied_5 : decode cX4_grainOfAllIfUntied 5 = .ok (.bipush 24, 2) := by decide +kernel
theorem dX4_grainOfAllIfUntied_7 : decode cX4_grainOfAllIfUntied 7 = .ok (.if_icmp .ge 25, 3) := by decide +kernel
theorem dX4_grainOfAllIfUntied_10 : decode cX4_grainOfAllIfUntied 10 = .ok (.aload_n 0, 1) := by decide +kernel
theorem dX4_grainOfAllIfUntied_11 : decode cX4_grainOfAllIfUntied 11 = .ok (.iload_n 2, 1) := by decide +kernel
theorem dX4_grainOfAllIfUntied_12 : decode cX4_grainOfAllIfUntied 12 = .ok (.invokevirtual 83, 3) := by decide +kernel
theorem dX4_grainOfAllIfUntied_15 : decode cX4_grainOfAllIfUntied 15 = .ok (.ifCond .eq 11, 3) := by decide +kernel
theorem dX4_grainOfAllIfUntied_18 : decode cX4_grainOfAllIfUntied 18 = .ok (.iload_n 1, 1) := by decide +kernel
theorem dX4_grainOfAllIfUntied_19 : decode cX4_grainOfAllIfUntied 19 = .ok (.aload_n 0, 1) := by decide +kernel
theorem dX4_grainOfAllIfUntied_20 : decode cX4_grainOfAllIfUntied 20 = .ok (.iload_n 2, 1) := by decide +kernel
theorem dX4_grainOfAllIfUntied_21 : decode cX4_grainOfAllIfUntied 21 = .ok (.invokevirtual 68, 3) := by decide +kernel
theorem dX4_grainOfAllIfUntied_24 : decode cX4_grainOfAllIfUntied 24 = .ok (.iadd, 1) := by decide +kernel
theorem dX4_grainOfAllIfUntied_25 : decode cX4_grainOfAllIfUntied 25 = .ok (.istore_n 1, 1) := by decide +kernel
theorem dX4_grainOfAllIfUntied_26 : decode cX4_grainOfAllIfUntied 26 = .ok (.iinc 2 1, 3) := by decide +kernel
theorem dX4_grainOfAllIfUntied_29 : decode cX4_grainOfAllIfUntied 29 = .ok (.goto (-25), 3) := by decide +kernel
theorem dX4_grainOfAllIfUntied_32 : decode cX4_grainOfAllIfUntied 32 = .ok (.iload_n 1, 1) := by decide +kernel
theorem dX4_grainOfAllIfUntied_33 : decode cX4_grainOfAllIfUntied 33 = .ok (.aload_n 0, 1) := by decide +kernel
theorem dX4_grainOfAllIfUntied_34 : decode cX4_grainOfAllIfUntied 34 = .ok (.getfield 24, 3) := by decide +kernel
theorem dX4_grainOfAllIfUntied_37 : decode cX4_grainOfAllIfUntied 37 = .ok (.imul, 1) := by decide +kernel
theorem dX4_grainOfAllIfUntied_38 : decode cX4_grainOfAllIfUntied 38 = .ok (.ireturn, 1) := by decide +kernel
set_option maxRecDepth 20000 in
theorem ggX4_noiseIfUntied_X4_windAt : GoodIn wsX4_noiseIfUntied wsX4_windAt := goodIn_r _ [10, 11, 12, 13, 14, 21, 22, 23, 24, 25, 26, 27, 28, 29, 30, 31] (by decide +kernel) (by decide +kernel)
set_option maxRecDepth 20000 in
theorem gX4_noiseIfUntied_X4_windAt : GoodIn wsX4_noiseIfUntied (wsV RX4 68 RX4 yX4_windAt wsX4_windAt) := goodIn_app (goodIn_of _ (by decide +kernel)) ggX4_noiseIfUntied_X4_windAt
set_option maxRecDepth 20000 in
theorem ggX4_noiseIfUntied_X5_at : GoodIn wsX4_noiseIfUntied wsX5_at := goodIn_r _ [14] (by decide +kernel) (by decide +kernel)
set_option maxRecDepth 20000 in
theorem gX4_noiseIfUntied_X5_at_n64 : GoodIn wsX4_noiseIfUntied (wsX5_at) := ggX4_noiseIfUntied_X5_at
set_option maxRecDepth 20000 in
theorem ggX4_noiseIfUntied_X5_distance : GoodIn wsX4_noiseIfUntied wsX5_distance := goodIn_r _ [16, 17, 18, 4, 19, 20, 3, 5] (by decide +kernel) (by decide +kernel)
set_option maxRecDepth 20000 in
theorem gX4_noiseIfUntied_X5_distance_n97 : GoodIn wsX4_noiseIfUntied (wsX5_distance) := ggX4_noiseIfUntied_X5_distance
theorem dX4_noiseIfUntied_0 : decode cX4_noiseIfUntied 0 = .ok (.aload_n 0, 1) := by decide +kernel
theorem dX4_noiseIfUntied_1 : decode cX4_noiseIfUntied 1 = .ok (.iload_n 3, 1) := by decide +kernel
theorem dX4_noiseIfUntied_2 : decode cX4_noiseIfUntied 2 = .ok (.invokevirtual 68, 3) := by decide +kernel
theorem dX4_noiseIfUntied_5 : decode cX4_noiseIfUntied 5 = .ok (.istore 4, 2) := by decide +kernel
theorem dX4_noiseIfUntied_7 : decode cX4_noiseIfUntied 7 = .ok (.iload 4, 2) := by decide +kernel
theorem dX4_noiseIfUntied_9 : decode cX4_noiseIfUntied 9 = .ok (.iconst 2, 1) := by decide +kernel
theorem dX4_noiseIfUntied_10 : decode cX4_noiseIfUntied 10 = .ok (.if_icmp .ge 5, 3) := by decide +kernel
theorem dX4_noiseIfUntied_13 : decode cX4_noiseIfUntied 13 = .ok (.iconst 0, 1) := by decide +kernel
theorem dX4_noiseIfUntied_14 : decode cX4_noiseIfUntied 14 = .ok (.ireturn, 1) := by decide +kernel
theorem dX4_noiseIfUntied_15 : decode cX4_noiseIfUntied 15 = .ok (.iconst 0, 1) := by decide +kernel
theorem dX4_noiseIfUntied_16 : decode cX4_noiseIfUntied 16 = .ok (.iconst 2, 1) := by decide +kernel
theorem dX4_noiseIfUntied_17 : decode cX4_noiseIfUntied 17 = .ok (.iload 4, 2) := by decide +kernel
theorem dX4_noiseIfUntied_19 : decode cX4_noiseIfUntied 19 = .ok (.imul, 1) := by decide +kernel
theorem dX4_noiseIfUntied_20 : decode cX4_noiseIfUntied 20 = .ok (.aload_n 0, 1) := by decide +kernel
theorem dX4_noiseIfUntied_21 : decode cX4_noiseIfUntied 21 = .ok (.getfield 31, 3) := by decide +kernel
theorem dX4_noiseIfUntied_24 : decode cX4_noiseIfUntied 24 = .ok (.iload_n 1, 1) := by decide +kernel
theorem dX4_noiseIfUntied_25 : decode cX4_noiseIfUntied 25 = .ok (.invokestatic 64, 3) := by decide +kernel
theorem dX4_noiseIfUntied_28 : decode cX4_noiseIfUntied 28 = .ok (.iload_n 2, 1) := by decide +kernel
theorem dX4_noiseIfUntied_29 : decode cX4_noiseIfUntied 29 = .ok (.invokestatic 97, 3) := by decide +kernel
theorem dX4_noiseIfUntied_32 : decode cX4_noiseIfUntied 32 = .ok (.isub, 1) := by decide +kernel
theorem dX4_noiseIfUntied_33 : decode cX4_noiseIfUntied 33 = .ok (.invokestatic 101, 3) := by decide +kernel
theorem dX4_noiseIfUntied_36 : decode cX4_noiseIfUntied 36 = .ok (.ireturn, 1) := by decide +kernel
set_option maxRecDepth 20000 in
theorem ggX4_noiseIn_X4_isTied : GoodIn wsX4_noiseIn wsX4_isTied := goodIn_r _ [5, 6, 7, 8, 4, 9, 10, 11, 12, 13, 34, 35, 36, 37, 38, 39, 40, 41, 42, 43, 44] (by decide +kernel) (by decide +kernel)
set_option maxRecDepth 20000 in
theorem gX4_noiseIn_X4_isTied : GoodIn wsX4_noiseIn (wsV RX4 87 RX4 yX4_isTied wsX4_isTied) := goodIn_app (goodIn_of _ (by decide +kernel)) ggX4_noiseIn_X4_isTied
set_option maxRecDepth 20000 in
theorem ggX4_noiseIn_X4_noiseIfUntied : GoodIn wsX4_noiseIn wsX4_noiseIfUntied := goodIn_r _ [17, 18, 19, 20, 21, 22, 23, 24, 25, 4, 26, 27, 11, 12, 13, 28, 29, 30, 31, 32, 33, 34, 35, 36, 37, 38, 39, 40, 41, 42, 43, 44] (by decide +kernel) (by decide +kernel)
set_option maxRecDepth 20000 in
theorem gX4_noiseIn_X4_noiseIfUntied : GoodIn wsX4_noiseIn (wsV RX4 106 RX4 yX4_noiseIfUntied wsX4_noiseIfUntied) := goodIn_app (goodIn_of _ (by decide +kernel)) ggX4_noiseIn_X4_noiseIfUntied
theorem dX4_noiseIn_0 : decode cX4_noiseIn 0 = .ok (.aload_n 0, 1) := by decide +kernel
theorem dX4_noiseIn_1 : decode cX4_noiseIn 1 = .ok (.iload_n 1, 1) := by decide +kernel
theorem dX4_noiseIn_2 : decode cX4_noiseIn 2 = .ok (.iload_n 3, 1) := by decide +kernel
theorem dX4_noiseIn_3 : decode cX4_noiseIn 3 = .ok (.invokevirtual 87, 3) := by decide +kernel
theorem dX4_noiseIn_6 : decode cX4_noiseIn 6 = .ok (.ifCond .eq 7, 3) := by decide +kernel
theorem dX4_noiseIn_9 : decode cX4_noiseIn 9 = .ok (.iconst 0, 1) := by decide +kernel
theorem dX4_noiseIn_10 : decode cX4_noiseIn 10 = .ok (.goto 10, 3) := by decide +kernel
theorem dX4_noiseIn_13 : decode cX4_noiseIn 13 = .ok (.aload_n 0, 1) := by decide +kernel
theorem dX4_noiseIn_14 : decode cX4_noiseIn 14 = .ok (.iload_n 1, 1) := by decide +kernel
theorem dX4_noiseIn_15 : decode cX4_noiseIn 15 = .ok (.iload_n 2, 1) := by decide +kernel
theorem dX4_noiseIn_16 : decode cX4_noiseIn 16 = .ok (.iload_n 3, 1) := by decide +kernel
theorem dX4_noiseIn_17 : decode cX4_noiseIn 17 = .ok (.invokevirtual 106, 3) := by decide +kernel
theorem dX4_noiseIn_20 : decode cX4_noiseIn 20 = .ok (.ireturn, 1) := by decide +kernel
set_option maxRecDepth 20000 in
theorem ggX4_noiseOfAllMills_X5_at : GoodIn wsX4_noiseOfAllMills wsX5_at := goodIn_r _ [5] (by decide +kernel) (by decide +kernel)
set_option maxRecDepth 20000 in
theorem gX4_noiseOfAllMills_X5_at_n64 : GoodIn wsX4_noiseOfAllMills (wsX5_at) := ggX4_noiseOfAllMills_X5_at
set_option maxRecDepth 20000 in
theorem ggX4_noiseOfAllMills_X4_noiseIn : GoodIn wsX4_noiseOfAllMills wsX4_noiseIn := goodIn_r _ [10, 11, 12, 13, 9, 14, 15, 16, 17, 18, 19, 3, 4, 5, 20, 21, 22, 23, 24, 25, 26, 27, 28, 29, 30, 31, 32, 33, 34, 35, 36, 37, 38, 39, 40, 41, 42, 43, 44, 45, 46, 47, 48, 49, 50] (by decide +kernel) (by decide +kernel)
set_option maxRecDepth 20000 in
theorem gX4_noiseOfAllMills_X4_noiseIn : GoodIn wsX4_noiseOfAllMills (wsV RX4 110 RX4 yX4_noiseIn wsX4_noiseIn) := goodIn_app (goodIn_of _ (by decide +kernel)) ggX4_noiseOfAllMills_X4_noiseIn
theorem dX4_noiseOfAllMills_0 : decode cX4_noiseOfAllMills 0 = .ok (.iconst 0, 1) := by decide +kernel
theorem dX4_noiseOfAllMills_1 : decode cX4_noiseOfAllMills 1 = .ok (.istore_n 3, 1) := by decide +kernel
theorem dX4_noiseOfAllMills_2 : decode cX4_noiseOfAllMills 2 = .ok (.iconst 0, 1) := by decide +kernel
theorem dX4_noiseOfAllMills_3 : decode cX4_noiseOfAllMills 3 = .ok (.istore 4, 2) := by decide +kernel
theorem dX4_noiseOfAllMills_5 : decode cX4_noiseOfAllMills 5 = .ok (.iload 4, 2) := by decide +kernel
theorem dX4_noiseOfAllMills_7 : decode cX4_noiseOfAllMills 7 = .ok (.aload_n 0, 1) := by decide +kernel
theorem dX4_noiseOfAllMills_8 : decode cX4_noiseOfAllMills 8 = .ok (.getfield 24, 3) := by decide +kernel
theorem dX4_noiseOfAllMills_11 : decode cX4_noiseOfAllMills 11 = .ok (.if_icmp .ge 27, 3) := by decide +kernel
theorem dX4_noiseOfAllMills_14 : decode cX4_noiseOfAllMills 14 = .ok (.iload_n 3, 1) := by decide +kernel
theorem dX4_noiseOfAllMills_15 : decode cX4_noiseOfAllMills 15 = .ok (.aload_n 0, 1) := by decide +kernel
theorem dX4_noiseOfAllMills_16 : decode cX4_noiseOfAllMills 16 = .ok (.iload 4, 2) := by decide +kernel
theorem dX4_noiseOfAllMills_18 : decode cX4_noiseOfAllMills 18 = .ok (.aload_n 0, 1) := by decide +kernel
theorem dX4_noiseOfAllMills_19 : decode cX4_noiseOfAllMills 19 = .ok (.getfield 40, 3) := by decide +kernel
theorem dX4_noiseOfAllMills_22 : decode cX4_noiseOfAllMills 22 = .ok (.iload_n 1, 1) := by decide +kernel
theorem dX4_noiseOfAllMills_23 : decode cX4_noiseOfAllMills 23 = .ok (.invokestatic 64, 3) := by decide +kernel
theorem dX4_noiseOfAllMills_26 : decode cX4_noiseOfAllMills 26 = .ok (.iload_n 2, 1) := by decide +kernel
theorem dX4_noiseOfAllMills_27 : decode cX4_noiseOfAllMills 27 = .ok (.invokevirtual 110, 3) := by decide +kernel
theorem dX4_noiseOfAllMills_30 : decode cX4_noiseOfAllMills 30 = .ok (.iadd, 1) := by decide +kernel
theorem dX4_noiseOfAllMills_31 : decode cX4_noiseOfAllMills 31 = .ok (.istore_n 3, 1) := by decide +kernel
theorem dX4_noiseOfAllMills_32 : decode cX4_noiseOfAllMills 32 = .ok (.iinc 4 1, 3) := by decide +kernel
theorem dX4_noiseOfAllMills_35 : decode cX4_noiseOfAllMills 35 = .ok (.goto (-30), 3) := by decide +kernel
theorem dX4_noiseOfAllMills_38 : decode cX4_noiseOfAllMills 38 = .ok (.iload_n 3, 1) := by decide +kernel
theorem dX4_noiseOfAllMills_39 : decode cX4_noiseOfAllMills 39 = .ok (.ireturn, 1) := by decide +kernel
set_option maxRecDepth 20000 in
theorem ggX4_borneNoise_X4_setting : GoodIn wsX4_borneNoise wsX4_setting := goodIn_r _ [5, 6, 7, 8, 9, 10, 11, 12, 13, 14, 15, 16, 17, 18, 19, 20] (by decide +kernel) (by decide +kernel)
set_option maxRecDepth 20000 in
theorem gX4_borneNoise_X4_setting : GoodIn wsX4_borneNoise (wsV RX4 113 RX4 yX4_setting wsX4_setting) := goodIn_app (goodIn_of _ (by decide +kernel)) ggX4_borneNoise_X4_setting
theorem dX4_borneNoise_0 : decode cX4_borneNoise 0 = .ok (.iload_n 1, 1) := by decide +kernel
theorem dX4_borneNoise_1 : decode cX4_borneNoise 1 = .ok (.bipush 22, 2) := by decide +kernel
theorem dX4_borneNoise_3 : decode cX4_borneNoise 3 = .ok (.if_icmp .ge 8, 3) := by decide +kernel
theorem dX4_borneNoise_6 : decode cX4_borneNoise 6 = .ok (.iload_n 1, 1) := by decide +kernel
theorem dX4_borneNoise_7 : decode cX4_borneNoise 7 = .ok (.iconst 5, 1) := by decide +kernel
theorem dX4_borneNoise_8 : decode cX4_borneNoise 8 = .ok (.if_icmp .gt 7, 3) := by decide +kernel
theorem dX4_borneNoise_11 : decode cX4_borneNoise 11 = .ok (.iconst 1, 1) := by decide +kernel
theorem dX4_borneNoise_12 : decode cX4_borneNoise 12 = .ok (.goto 4, 3) := by decide +kernel
theorem dX4_borneNoise_15 : decode cX4_borneNoise 15 = .ok (.iconst 0, 1) := by decide +kernel
theorem dX4_borneNoise_16 : decode cX4_borneNoise 16 = .ok (.istore_n 2, 1) := by decide +kernel
theorem dX4_borneNoise_17 : decode cX4_borneNoise 17 = .ok (.aload_n 0, 1) := by decide +kernel
theorem dX4_borneNoise_18 : decode cX4_borneNoise 18 = .ok (.iload_n 2, 1) := by decide +kernel
theorem dX4_borneNoise_19 : decode cX4_borneNoise 19 = .ok (.ifCond .eq 7, 3) := by decide +kernel
theorem dX4_borneNoise_22 : decode cX4_borneNoise 22 = .ok (.iconst 1, 1) := by decide +kernel
theorem dX4_borneNoise_23 : decode cX4_borneNoise 23 = .ok (.goto 4, 3) := by decide +kernel
theorem dX4_borneNoise_26 : decode cX4_borneNoise 26 = .ok (.iconst 0, 1) := by decide +kernel
theorem dX4_borneNoise_27 : decode cX4_borneNoise 27 = .ok (.invokevirtual 113, 3) := by decide +kernel
theorem dX4_borneNoise_30 : decode cX4_borneNoise 30 = .ok (.ireturn, 1) := by decide +kernel
set_option maxRecDepth 20000 in
theorem ggX4_troublesIfUntied_X5_at : GoodIn wsX4_troublesIfUntied wsX5_at := goodIn_r _ [6] (by decide +kernel) (by decide +kernel)
set_option maxRecDepth 20000 in
theorem gX4_troublesIfUntied_X5_at_n64 : GoodIn wsX4_troublesIfUntied (wsX5_at) := ggX4_troublesIfUntied_X5_at
set_option maxRecDepth 20000 in
theorem ggX4_troublesIfUntied_X4_noiseIfUntied : GoodIn wsX4_troublesIfUntied wsX4_noiseIfUntied := goodIn_r _ [11, 2, 12, 13, 14, 15, 16, 17, 18, 10, 19, 20, 4, 5, 6, 21, 22, 23, 24, 25, 26, 53, 54, 55, 56, 57, 58, 59, 60, 61, 62, 63] (by decide +kernel) (by decide +kernel)
set_option maxRecDepth 20000 in
theorem gX4_troublesIfUntied_X4_noiseIfUntied : GoodIn wsX4_troublesIfUntied (wsV RX4 106 RX4 yX4_noiseIfUntied wsX4_noiseIfUntied) := goodIn_app (goodIn_of _ (by decide +kernel)) ggX4_troublesIfUntied_X4_noiseIfUntied
set_option maxRecDepth 20000 in
theorem ggX4_troublesIfUntied_X4_borneNoise : GoodIn wsX4_troublesIfUntied wsX4_borneNoise := goodIn_r _ [30, 31, 32, 33, 10, 34, 35, 4, 5, 6, 53, 54, 55, 56, 57, 58, 59, 60, 61, 62, 63] (by decide +kernel) (by decide +kernel)
set_option maxRecDepth 20000 in
theorem gX4_troublesIfUntied_X4_borneNoise : GoodIn wsX4_troublesIfUntied (wsV RX4 116 RX4 yX4_borneNoise wsX4_borneNoise) := goodIn_app (goodIn_of _ (by decide +kernel)) ggX4_troublesIfUntied_X4_borneNoise
set_option maxRecDepth 20000 in
theorem ggX4_troublesIfUntied_X4_blows : GoodIn wsX4_troublesIfUntied wsX4_blows := goodIn_r _ [39, 16, 17, 18, 10, 19, 20, 4, 5, 6, 53, 54, 55, 56, 57, 58, 59, 60, 61, 62, 63] (by decide +kernel) (by decide +kernel)
set_option maxRecDepth 20000 in
theorem gX4_troublesIfUntied_X4_blows : GoodIn wsX4_troublesIfUntied (wsV RX4 83 RX4 yX4_blows wsX4_blows) := goodIn_app (goodIn_of _ (by decide +kernel)) ggX4_troublesIfUntied_X4_blows
set_option maxRecDepth 20000 in
theorem ggX4_troublesIfUntied_X2_liesThere : GoodIn wsX4_troublesIfUntied wsX2_liesThere := goodIn_r _ [43, 21, 5, 22, 23, 24, 14, 25, 26, 13, 15, 44, 45, 42, 46, 47, 48, 49, 50, 51, 52] (by decide +kernel) (by decide +kernel)
set_option maxRecDepth 20000 in
theorem gX4_troublesIfUntied_X2_liesThere : GoodIn wsX4_troublesIfUntied (va_wsS RX4 119 yX2_liesThere wsX2_liesThere) := goodIn_app (goodIn_of _ (by decide +kernel)) ggX4_troublesIfUntied_X2_liesThere
theorem dX4_troublesIfUntied_0 : decode cX4_troublesIfUntied 0 = .ok (.aload_n 0, 1) := by decide +kernel
theorem dX4_troublesIfUntied_1 : decode cX4_troublesIfUntied 1 = .ok (.getfield 40, 3) := by decide +kernel
theorem dX4_troublesIfUntied_4 : decode cX4_troublesIfUntied 4 = .ok (.iload_n 2, 1) := by decide +kernel
theorem dX4_troublesIfUntied_5 : decode cX4_troublesIfUntied 5 = .ok (.invokestatic 64, 3) := by decide +kernel
theorem dX4_troublesIfUntied_8 : decode cX4_troublesIfUntied 8 = .ok (.istore 5, 2) := by decide +kernel
theorem dX4_troublesIfUntied_10 : decode cX4_troublesIfUntied 10 = .ok (.iload_n 3, 1) := by decide +kernel
theorem dX4_troublesIfUntied_11 : decode cX4_troublesIfUntied 11 = .ok (.ifCond .ne 27, 3) := by decide +kernel
theorem dX4_troublesIfUntied_14 : decode cX4_troublesIfUntied 14 = .ok (.aload_n 0, 1) := by decide +kernel
theorem dX4_troublesIfUntied_15 : decode cX4_troublesIfUntied 15 = .ok (.iload_n 1, 1) := by decide +kernel
theorem dX4_troublesIfUntied_16 : decode cX4_troublesIfUntied 16 = .ok (.iload 5, 2) := by decide +kernel
theorem dX4_troublesIfUntied_18 : decode cX4_troublesIfUntied 18 = .ok (.iload 4, 2) := by decide +kernel
theorem dX4_troublesIfUntied_20 : decode cX4_troublesIfUntied 20 = .ok (.invokevirtual 106, 3) := by decide +kernel
theorem dX4_troublesIfUntied_23 : decode cX4_troublesIfUntied 23 = .ok (.aload_n 0, 1) := by decide +kernel
theorem dX4_troublesIfUntied_24 : decode cX4_troublesIfUntied 24 = .ok (.iload 4, 2) := by decide +kernel
theorem dX4_troublesIfUntied_26 : decode cX4_troublesIfUntied 26 = .ok (.invokevirtual 116, 3) := by decide +kernel
theorem dX4_troublesIfUntied_29 : decode cX4_troublesIfUntied 29 = .ok (.if_icmp .le 7, 3) := by decide +kernel
theorem dX4_troublesIfUntied_32 : decode cX4_troublesIfUntied 32 = .ok (.iconst 1, 1) := by decide +kernel
theorem dX4_troublesIfUntied_33 : decode cX4_troublesIfUntied 33 = .ok (.goto 4, 3) := by decide +kernel
theorem dX4_troublesIfUntied_36 : decode cX4_troublesIfUntied 36 = .ok (.iconst 0, 1) := by decide +kernel
theorem dX4_troublesIfUntied_37 : decode cX4_troublesIfUntied 37 = .ok (.ireturn, 1) := by decide +kernel
theorem dX4_troublesIfUntied_38 : decode cX4_troublesIfUntied 38 = .ok (.aload_n 0, 1) := by decide +kernel
theorem dX4_troublesIfUntied_39 : decode cX4_troublesIfUntied 39 = .ok (.iload 4, 2) := by decide +kernel
theorem dX4_troublesIfUntied_41 : decode cX4_troublesIfUntied 41 = .ok (.invokevirtual 83, 3) := by decide +kernel
theorem dX4_troublesIfUntied_44 : decode cX4_troublesIfUntied 44 = .ok (.ifCond .eq 33, 3) := by decide +kernel
theorem dX4_troublesIfUntied_47 : decode cX4_troublesIfUntied 47 = .ok (.aload_n 0, 1) := by decide +kernel
theorem dX4_troublesIfUntied_48 : decode cX4_troublesIfUntied 48 = .ok (.getfield 31, 3) := by decide +kernel
theorem dX4_troublesIfUntied_51 : decode cX4_troublesIfUntied 51 = .ok (.iload_n 1, 1) := by decide +kernel
theorem dX4_troublesIfUntied_52 : decode cX4_troublesIfUntied 52 = .ok (.invokestatic 64, 3) := by decide +kernel
theorem dX4_troublesIfUntied_55 : decode cX4_troublesIfUntied 55 = .ok (.aload_n 0, 1) := by decide +kernel
theorem dX4_troublesIfUntied_56 : decode cX4_troublesIfUntied 56 = .ok (.getfield 28, 3) := by decide +kernel
theorem dX4_troublesIfUntied_59 : decode cX4_troublesIfUntied 59 = .ok (.iload_n 1, 1) := by decide +kernel
theorem dX4_troublesIfUntied_60 : decode cX4_troublesIfUntied 60 = .ok (.invokestatic 64, 3) := by decide +kernel
theorem dX4_troublesIfUntied_63 : decode cX4_troublesIfUntied 63 = .ok (.iload 5, 2) := by decide +kernel
theorem dX4_troublesIfUntied_65 : decode cX4_troublesIfUntied 65 = .ok (.iload 4, 2) := by decide +kernel
theorem dX4_troublesIfUntied_67 : decode cX4_troublesIfUntied 67 = .ok (.invokestatic 119, 3) := by decide +kernel
theorem dX4_troublesIfUntied_70 : decode cX4_troublesIfUntied 70 = .ok (.ifCond .eq 7, 3) := by decide +kernel
theorem dX4_troublesIfUntied_73 : decode cX4_troublesIfUntied 73 = .ok (.iconst 1, 1) := by decide +kernel
theorem dX4_troublesIfUntied_74 : decode cX4_troublesIfUntied 74 = .ok (.goto 4, 3) := by decide +kernel
theorem dX4_troublesIfUntied_77 : decode cX4_troublesIfUntied 77 = .ok (.iconst 0, 1) := by decide +kernel
theorem dX4_troublesIfUntied_78 : decode cX4_troublesIfUntied 78 = .ok (.ireturn, 1) := by decide +kernel
set_option maxRecDepth 20000 in
theorem ggX4_troubledIfUntied_X4_troublesIfUntied : GoodIn wsX4_troubledIfUntied wsX4_troublesIfUntied := goodIn_r _ [6, 7, 8, 9, 10, 11, 12, 13, 14, 15, 5, 16, 17, 18, 19, 20, 21, 22, 23, 24, 25, 26, 27, 28, 29, 30, 31, 32, 33, 34, 35, 36, 37, 38, 39, 40, 41, 42, 43, 44, 45, 46, 47, 48, 49, 50, 51, 52, 53, 54, 55, 56, 57, 58, 59, 60, 61, 62, 63, 64, 65, 66, 67, 68] (by decide +kernel) (by decide +kernel)
set_option maxRecDepth 20000 in
theorem gX4_troubledIfUntied_X4_troublesIfUntied : GoodIn wsX4_troubledIfUntied (wsV RX4 125 RX4 yX4_troublesIfUntied wsX4_troublesIfUntied) := goodIn_app (goodIn_of _ (by decide +kernel)) ggX4_troubledIfUntied_X4_troublesIfUntied
theorem dX4_troubledIfUntied_0 : decode cX4_troubledIfUntied 0 = .ok (.iconst 0, 1) := by decide +kernel
theorem dX4_troubledIfUntied_1 : decode cX4_troubledIfUntied 1 = .ok (.istore_n 3, 1) := by decide +kernel
theorem dX4_troubledIfUntied_2 : decode cX4_troubledIfUntied 2 = .ok (.iconst 0, 1) := by decide +kernel
theorem dX4_troubledIfUntied_3 : decode cX4_troubledIfUntied 3 = .ok (.istore 4, 2) := by decide +kernel
theorem dX4_troubledIfUntied_5 : decode cX4_troubledIfUntied 5 = .ok (.iload 4, 2) := by decide +kernel
theorem dX4_troubledIfUntied_7 : decode cX4_troubledIfUntied 7 = .ok (.aload_n 0, 1) := by decide +kernel
theorem dX4_troubledIfUntied_8 : decode cX4_troubledIfUntied 8 = .ok (.getfield 37, 3) := by decide +kernel
theorem dX4_troubledIfUntied_11 : decode cX4_troubledIfUntied 11 = .ok (.if_icmp .ge 40, 3) := by decide +kernel
theorem dX4_troubledIfUntied_14 : decode cX4_troubledIfUntied 14 = .ok (.aload_n 0, 1) := by decide +kernel
theorem dX4_troubledIfUntied_15 : decode cX4_troubledIfUntied 15 = .ok (.iload_n 1, 1) := by decide +kernel
theorem dX4_troubledIfUntied_16 : decode cX4_troubledIfUntied 16 = .ok (.iload 4, 2) := by decide +kernel
theorem dX4_troubledIfUntied_18 : decode cX4_troubledIfUntied 18 = .ok (.iconst 0, 1) := by decide +kernel
theorem dX4_troubledIfUntied_19 : decode cX4_troubledIfUntied 19 = .ok (.iload_n 2, 1) := by decide +kernel
theorem dX4_troubledIfUntied_20 : decode cX4_troubledIfUntied 20 = .ok (.invokevirtual 125, 3) := by decide +kernel
theorem dX4_troubledIfUntied_23 : decode cX4_troubledIfUntied 23 = .ok (.istore 5, 2) := by decide +kernel
theorem dX4_troubledIfUntied_25 : decode cX4_troubledIfUntied 25 = .ok (.iload 5, 2) := by decide +kernel
theorem dX4_troubledIfUntied_27 : decode cX4_troubledIfUntied 27 = .ok (.ifCond .ne 15, 3) := by decide +kernel
theorem dX4_troubledIfUntied_30 : decode cX4_troubledIfUntied 30 = .ok (.aload_n 0, 1) := by decide +kernel
theorem dX4_troubledIfUntied_31 : decode cX4_troubledIfUntied 31 = .ok (.iload_n 1, 1) := by decide +kernel
theorem dX4_troubledIfUntied_32 : decode cX4_troubledIfUntied 32 = .ok (.iload 4, 2) := by decide +kernel
theorem dX4_troubledIfUntied_34 : decode cX4_troubledIfUntied 34 = .ok (.iconst 1, 1) := by decide +kernel
theorem dX4_troubledIfUntied_35 : decode cX4_troubledIfUntied 35 = .ok (.iload_n 2, 1) := by decide +kernel
theorem dX4_troubledIfUntied_36 : decode cX4_troubledIfUntied 36 = .ok (.invokevirtual 125, 3) := by decide +kernel
theorem dX4_troubledIfUntied_39 : decode cX4_troubledIfUntied 39 = .ok (.ifCond .eq 6, 3) := by decide +kernel
theorem dX4_troubledIfUntied_42 : decode cX4_troubledIfUntied 42 = .ok (.iinc 3 1, 3) := by decide +kernel
theorem dX4_troubledIfUntied_45 : decode cX4_troubledIfUntied 45 = .ok (.iinc 4 1, 3) := by decide +kernel
theorem dX4_troubledIfUntied_48 : decode cX4_troubledIfUntied 48 = .ok (.goto (-43), 3) := by decide +kernel
theorem dX4_troubledIfUntied_51 : decode cX4_troubledIfUntied 51 = .ok (.iload_n 3, 1) := by decide +kernel
theorem dX4_troubledIfUntied_52 : decode cX4_troubledIfUntied 52 = .ok (.ireturn, 1) := by decide +kernel
set_option maxRecDepth 20000 in
theorem ggX4_votesForUntying_X4_troubledIfUntied : GoodIn wsX4_votesForUntying wsX4_troubledIfUntied := goodIn_r _ [6, 1, 7, 8, 9, 5, 10, 11, 12, 13, 14, 15, 16, 17, 18, 19, 20, 21, 22, 23, 24, 25, 26, 27, 28, 29, 30, 31, 32, 33, 34, 35, 36, 37, 38, 39, 40, 41, 42, 43, 44, 45, 46, 47, 48, 49, 50, 51, 52, 53, 54, 55, 56, 57, 58, 59, 60, 61, 62, 63, 64, 65, 66, 67, 68, 69, 70, 71, 72] (by decide +kernel) (by decide +kernel)
set_option maxRecDepth 20000 in
theorem gX4_votesForUntying_X4_troubledIfUntied : GoodIn wsX4_votesForUntying (wsV RX4 128 RX4 yX4_troubledIfUntied wsX4_troubledIfUntied) := goodIn_app (goodIn_of _ (by decide +kernel)) ggX4_votesForUntying_X4_troubledIfUntied
theorem dX4_votesForUntying_0 : decode cX4_votesForUntying 0 = .ok (.aload_n 0, 1) := by decide +kernel
theorem dX4_votesForUntying_1 : decode cX4_votesForUntying 1 = .ok (.getfield 37, 3) := by decide +kernel
theorem dX4_votesForUntying_4 : decode cX4_votesForUntying 4 = .ok (.aload_n 0, 1) := by decide +kernel
theorem dX4_votesForUntying_5 : decode cX4_votesForUntying 5 = .ok (.iload_n 1, 1) := by decide +kernel
theorem dX4_votesForUntying_6 : decode cX4_votesForUntying 6 = .ok (.iload_n 2, 1) := by decide +kernel
theorem dX4_votesForUntying_7 : decode cX4_votesForUntying 7 = .ok (.invokevirtual 128, 3) := by decide +kernel
theorem dX4_votesForUntying_10 : decode cX4_votesForUntying 10 = .ok (.isub, 1) := by decide +kernel
theorem dX4_votesForUntying_11 : decode cX4_votesForUntying 11 = .ok (.ireturn, 1) := by decide +kernel
set_option maxRecDepth 20000 in
theorem ggX4_troubledHours_X4_turns : GoodIn wsX4_troubledHours wsX4_turns := goodIn_r _ [6, 7, 8, 9, 5, 10, 11, 12, 13, 14, 15, 16, 17, 18, 19, 20, 21, 22, 23, 24, 25, 26, 27, 71, 72, 73, 74, 75, 76, 77, 78, 79, 80, 81] (by decide +kernel) (by decide +kernel)
set_option maxRecDepth 20000 in
theorem gX4_troubledHours_X4_turns : GoodIn wsX4_troubledHours (wsV RX4 91 RX4 yX4_turns wsX4_turns) := goodIn_app (goodIn_of _ (by decide +kernel)) ggX4_troubledHours_X4_turns
set_option maxRecDepth 20000 in
theorem ggX4_troubledHours_X4_troublesIfUntied : GoodIn wsX4_troubledHours wsX4_troublesIfUntied := goodIn_r _ [31, 32, 33, 34, 16, 17, 18, 35, 36, 37, 5, 38, 39, 40, 41, 42, 11, 12, 13, 14, 15, 43, 44, 45, 46, 47, 48, 49, 50, 51, 52, 53, 54, 55, 56, 57, 7, 8, 9, 10, 58, 59, 60, 61, 62, 63, 64, 65, 66, 67, 68, 69, 70, 71, 72, 73, 74, 75, 76, 77, 78, 79, 80, 81] (by decide +kernel) (by decide +kernel)
set_option maxRecDepth 20000 in
theorem gX4_troubledHours_X4_troublesIfUntied : GoodIn wsX4_troubledHours (wsV RX4 125 RX4 yX4_troublesIfUntied wsX4_troublesIfUntied) := goodIn_app (goodIn_of _ (by decide +kernel)) ggX4_troubledHours_X4_troublesIfUntied
theorem dX4_troubledHours_0 : decode cX4_troubledHours 0 = .ok (.iconst 0, 1) := by decide +kernel
theorem dX4_troubledHours_1 : decode cX4_troubledHours 1 = .ok (.istore_n 3, 1) := by decide +kernel
theorem dX4_troubledHours_2 : decode cX4_troubledHours 2 = .ok (.iconst 0, 1) := by decide +kernel
theorem dX4_troubledHours_3 : decode cX4_troubledHours 3 = .ok (.istore 4, 2) := by decide +kernel
theorem dX4_troubledHours_5 : decode cX4_troubledHours 5 = .ok (.iload 4, 2) := by decide +kernel
theorem dX4_troubledHours_7 : decode cX4_troubledHours 7 = .ok (.aload_n 0, 1) := by decide +kernel
theorem dX4_troubledHours_8 : decode cX4_troubledHours 8 = .ok (.getfield 24, 3) := by decide +kernel
theorem dX4_troubledHours_11 : decode cX4_troubledHours 11 = .ok (.if_icmp .ge 56, 3) := by decide +kernel
theorem dX4_troubledHours_14 : decode cX4_troubledHours 14 = .ok (.iconst 0, 1) := by decide +kernel
theorem dX4_troubledHours_15 : decode cX4_troubledHours 15 = .ok (.istore 5, 2) := by decide +kernel
theorem dX4_troubledHours_17 : decode cX4_troubledHours 17 = .ok (.iload 5, 2) := by decide +kernel
theorem dX4_troubledHours_19 : decode cX4_troubledHours 19 = .ok (.bipush 24, 2) := by decide +kernel
theorem dX4_troubledHours_21 : decode cX4_troubledHours 21 = .ok (.if_icmp .ge 40, 3) := by decide +kernel
theorem dX4_troubledHours_24 : decode cX4_troubledHours 24 = .ok (.aload_n 0, 1) := by decide +kernel
theorem dX4_troubledHours_25 : decode cX4_troubledHours 25 = .ok (.iload 4, 2) := by decide +kernel
theorem dX4_troubledHours_27 : decode cX4_troubledHours 27 = .ok (.iload 5, 2) := by decide +kernel
theorem dX4_troubledHours_29 : decode cX4_troubledHours 29 = .ok (.invokevirtual 91, 3) := by decide +kernel
theorem dX4_troubledHours_32 : decode cX4_troubledHours 32 = .ok (.ifCond .eq 23, 3) := by decide +kernel
theorem dX4_troubledHours_35 : decode cX4_troubledHours 35 = .ok (.aload_n 0, 1) := by decide +kernel
theorem dX4_troubledHours_36 : decode cX4_troubledHours 36 = .ok (.iload 4, 2) := by decide +kernel
theorem dX4_troubledHours_38 : decode cX4_troubledHours 38 = .ok (.iload_n 1, 1) := by decide +kernel
theorem dX4_troubledHours_39 : decode cX4_troubledHours 39 = .ok (.iload_n 2, 1) := by decide +kernel
theorem dX4_troubledHours_40 : decode cX4_troubledHours 40 = .ok (.iload 5, 2) := by decide +kernel
theorem dX4_troubledHours_42 : decode cX4_troubledHours 42 = .ok (.invokevirtual 125, 3) := by decide +kernel
theorem dX4_troubledHours_45 : decode cX4_troubledHours 45 = .ok (.ifCond .eq 10, 3) := by decide +kernel
theorem dX4_troubledHours_48 : decode cX4_troubledHours 48 = .ok (.iload_n 3, 1) := by decide +kernel
theorem dX4_troubledHours_49 : decode cX4_troubledHours 49 = .ok (.iconst 1, 1) := by decide +kernel
theorem dX4_troubledHours_50 : decode cX4_troubledHours 50 = .ok (.iload 5, 2) := by decide +kernel
theorem dX4_troubledHours_52 : decode cX4_troubledHours 52 = .ok (.ishl, 1) := by decide +kernel
theorem dX4_troubledHours_53 : decode cX4_troubledHours 53 = .ok (.ior, 1) := by decide +kernel
theorem dX4_troubledHours_54 : decode cX4_troubledHours 54 = .ok (.istore_n 3, 1) := by decide +kernel
theorem dX4_troubledHours_55 : decode cX4_troubledHours 55 = .ok (.iinc 5 1, 3) := by decide +kernel
theorem dX4_troubledHours_58 : decode cX4_troubledHours 58 = .ok (.goto (-41), 3) := by decide +kernel
theorem dX4_troubledHours_61 : decode cX4_troubledHours 61 = .ok (.iinc 4 1, 3) := by decide +kernel
theorem dX4_troubledHours_64 : decode cX4_troubledHours 64 = .ok (.goto (-59), 3) := by decide +kernel
theorem dX4_troubledHours_67 : decode cX4_troubledHours 67 = .ok (.iload_n 3, 1) := by decide +kernel
theorem dX4_troubledHours_68 : decode cX4_troubledHours 68 = .ok (.ireturn, 1) := by decide +kernel
theorem dX4_placeOf_0 : decode cX4_placeOf 0 = .ok (.iload_n 0, 1) := by decide +kernel
theorem dX4_placeOf_1 : decode cX4_placeOf 1 = .ok (.iconst 4, 1) := by decide +kernel
theorem dX4_placeOf_2 : decode cX4_placeOf 2 = .ok (.imul, 1) := by decide +kernel
theorem dX4_placeOf_3 : decode cX4_placeOf 3 = .ok (.iload_n 1, 1) := by decide +kernel
theorem dX4_placeOf_4 : decode cX4_placeOf 4 = .ok (.iadd, 1) := by decide +kernel
theorem dX4_placeOf_5 : decode cX4_placeOf 5 = .ok (.iconst 2, 1) := by decide +kernel
theorem dX4_placeOf_6 : decode cX4_placeOf 6 = .ok (.imul, 1) := by decide +kernel
theorem dX4_placeOf_7 : decode cX4_placeOf 7 = .ok (.iload_n 2, 1) := by decide +kernel
theorem dX4_placeOf_8 : decode cX4_placeOf 8 = .ok (.iadd, 1) := by decide +kernel
theorem dX4_placeOf_9 : decode cX4_placeOf 9 = .ok (.ireturn, 1) := by decide +kernel
set_option maxRecDepth 20000 in
theorem ggX4_stands_X4_placeOf : GoodIn wsX4_stands wsX4_placeOf := goodIn_r _ [5] (by decide +kernel) (by decide +kernel)
set_option maxRecDepth 20000 in
theorem gX4_stands_X4_placeOf : GoodIn wsX4_stands (va_wsS RX4 131 yX4_placeOf wsX4_placeOf) := goodIn_app (goodIn_of _ (by decide +kernel)) ggX4_stands_X4_placeOf
set_option maxRecDepth 20000 in
theorem ggX4_stands_X5_at : GoodIn wsX4_stands wsX5_at := goodIn_r _ [8] (by decide +kernel) (by decide +kernel)
set_option maxRecDepth 20000 in
theorem gX4_stands_X5_at_n64 : GoodIn wsX4_stands (wsX5_at) := ggX4_stands_X5_at
theorem dX4_stands_0 : decode cX4_stands 0 = .ok (.aload_n 0, 1) := by decide +kernel
theorem dX4_stands_1 : decode cX4_stands 1 = .ok (.getfield 46, 3) := by decide +kernel
theorem dX4_stands_4 : decode cX4_stands 4 = .ok (.iload_n 1, 1) := by decide +kernel
theorem dX4_stands_5 : decode cX4_stands 5 = .ok (.iload_n 2, 1) := by decide +kernel
theorem dX4_stands_6 : decode cX4_stands 6 = .ok (.iload_n 3, 1) := by decide +kernel
theorem dX4_stands_7 : decode cX4_stands 7 = .ok (.invokestatic 131, 3) := by decide +kernel
theorem dX4_stands_10 : decode cX4_stands 10 = .ok (.invokestatic 64, 3) := by decide +kernel
theorem dX4_stands_13 : decode cX4_stands 13 = .ok (.iload 4, 2) := by decide +kernel
theorem dX4_stands_15 : decode cX4_stands 15 = .ok (.ishr, 1) := by decide +kernel
theorem dX4_stands_16 : decode cX4_stands 16 = .ok (.iconst 1, 1) := by decide +kernel
theorem dX4_stands_17 : decode cX4_stands 17 = .ok (.iand, 1) := by decide +kernel
theorem dX4_stands_18 : decode cX4_stands 18 = .ok (.ifCond .eq 7, 3) := by decide +kernel
theorem dX4_stands_21 : decode cX4_stands 21 = .ok (.iconst 1, 1) := by decide +kernel
theorem dX4_stands_22 : decode cX4_stands 22 = .ok (.goto 4, 3) := by decide +kernel
theorem dX4_stands_25 : decode cX4_stands 25 = .ok (.iconst 0, 1) := by decide +kernel
theorem dX4_stands_26 : decode cX4_stands 26 = .ok (.ireturn, 1) := by decide +kernel
set_option maxRecDepth 20000 in
theorem ggX4_letStand_X4_placeOf : GoodIn wsX4_letStand wsX4_placeOf := goodIn_r _ [5] (by decide +kernel) (by decide +kernel)
set_option maxRecDepth 20000 in
theorem gX4_letStand_X4_placeOf : GoodIn wsX4_letStand (va_wsS RX4 131 yX4_placeOf wsX4_placeOf) := goodIn_app (goodIn_of _ (by decide +kernel)) ggX4_letStand_X4_placeOf
set_option maxRecDepth 20000 in
theorem ggX4_letStand_X5_at : GoodIn wsX4_letStand wsX5_at := goodIn_r _ [8] (by decide +kernel) (by decide +kernel)
set_option maxRecDepth 20000 in
theorem gX4_letStand_X5_at_n64 : GoodIn wsX4_letStand (wsX5_at) := ggX4_letStand_X5_at
set_option maxRecDepth 20000 in
theorem ggX4_letStand_X5_put : GoodIn wsX4_letStand wsX5_put := goodIn_r _ [10] (by decide +kernel) (by decide +kernel)
set_option maxRecDepth 20000 in
theorem gX4_letStand_X5_put_n79 : GoodIn wsX4_letStand (wsX5_put) := ggX4_letStand_X5_put
theorem dX4_letStand_0 : decode cX4_letStand 0 = .ok (.iload_n 1, 1) := by decide +kernel
theorem dX4_letStand_1 : decode cX4_letStand 1 = .ok (.iload_n 2, 1) := by decide +kernel
theorem dX4_letStand_2 : decode cX4_letStand 2 = .ok (.iload_n 3, 1) := by decide +kernel
theorem dX4_letStand_3 : decode cX4_letStand 3 = .ok (.invokestatic 131, 3) := by decide +kernel
theorem dX4_letStand_6 : decode cX4_letStand 6 = .ok (.istore 5, 2) := by decide +kernel
theorem dX4_letStand_8 : decode cX4_letStand 8 = .ok (.aload_n 0, 1) := by decide +kernel
theorem dX4_letStand_9 : decode cX4_letStand 9 = .ok (.getfield 46, 3) := by decide +kernel
theorem dX4_letStand_12 : decode cX4_letStand 12 = .ok (.iload 5, 2) := by decide +kernel
theorem dX4_letStand_14 : decode cX4_letStand 14 = .ok (.aload_n 0, 1) := by decide +kernel
theorem dX4_letStand_15 : decode cX4_letStand 15 = .ok (.getfield 46, 3) := by decide +kernel
theorem dX4_letStand_18 : decode cX4_letStand 18 = .ok (.iload 5, 2) := by decide +kernel
theorem dX4_letStand_20 : decode cX4_letStand 20 = .ok (.invokestatic 64, 3) := by decide +kernel
theorem dX4_letStand_23 : decode cX4_letStand 23 = .ok (.iconst 1, 1) := by decide +kernel
theorem dX4_letStand_24 : decode cX4_letStand 24 = .ok (.iload 4, 2) := by decide +kernel
theorem dX4_letStand_26 : decode cX4_letStand 26 = .ok (.ishl, 1) := by decide +kernel
theorem dX4_letStand_27 : decode cX4_letStand 27 = .ok (.ior, 1) := by decide +kernel
theorem dX4_letStand_28 : decode cX4_letStand 28 = .ok (.invokestatic 79, 3) := by decide +kernel
theorem dX4_letStand_31 : decode cX4_letStand 31 = .ok (.return_, 1) := by decide +kernel
set_option maxRecDepth 20000 in
theorem ggX4_dropFor_X4_placeOf : GoodIn wsX4_dropFor wsX4_placeOf := goodIn_r _ [5] (by decide +kernel) (by decide +kernel)
set_option maxRecDepth 20000 in
theorem gX4_dropFor_X4_placeOf : GoodIn wsX4_dropFor (va_wsS RX4 131 yX4_placeOf wsX4_placeOf) := goodIn_app (goodIn_of _ (by decide +kernel)) ggX4_dropFor_X4_placeOf
set_option maxRecDepth 20000 in
theorem ggX4_dropFor_X5_at : GoodIn wsX4_dropFor wsX5_at := goodIn_r _ [8] (by decide +kernel) (by decide +kernel)
set_option maxRecDepth 20000 in
theorem gX4_dropFor_X5_at_n64 : GoodIn wsX4_dropFor (wsX5_at) := ggX4_dropFor_X5_at
set_option maxRecDepth 20000 in
theorem ggX4_dropFor_X5_put : GoodIn wsX4_dropFor wsX5_put := goodIn_r _ [10] (by decide +kernel) (by decide +kernel)
set_option maxRecDepth 20000 in
theorem gX4_dropFor_X5_put_n79 : GoodIn wsX4_dropFor (wsX5_put) := ggX4_dropFor_X5_put
theorem dX4_dropFor_0 : decode cX4_dropFor 0 = .ok (.iconst 0, 1) := by decide +kernel
theorem dX4_dropFor_1 : decode cX4_dropFor 1 = .ok (.istore 4, 2) := by decide +kernel
theorem dX4_dropFor_3 : decode cX4_dropFor 3 = .ok (.iload 4, 2) := by decide +kernel
theorem dX4_dropFor_5 : decode cX4_dropFor 5 = .ok (.iconst 2, 1) := by decide +kernel
theorem dX4_dropFor_6 : decode cX4_dropFor 6 = .ok (.if_icmp .ge 42, 3) := by decide +kernel
theorem dX4_dropFor_9 : decode cX4_dropFor 9 = .ok (.iload_n 1, 1) := by decide +kernel
theorem dX4_dropFor_10 : decode cX4_dropFor 10 = .ok (.iload_n 2, 1) := by decide +kernel
theorem dX4_dropFor_11 : decode cX4_dropFor 11 = .ok (.iload 4, 2) := by decide +kernel
theorem dX4_dropFor_13 : decode cX4_dropFor 13 = .ok (.invokestatic 131, 3) := by decide +kernel
theorem dX4_dropFor_16 : decode cX4_dropFor 16 = .ok (.istore 5, 2) := by decide +kernel
theorem dX4_dropFor_18 : decode cX4_dropFor 18 = .ok (.aload_n 0, 1) := by decide +kernel
theorem dX4_dropFor_19 : decode cX4_dropFor 19 = .ok (.getfield 46, 3) := by decide +kernel
theorem dX4_dropFor_22 : decode cX4_dropFor 22 = .ok (.iload 5, 2) := by decide +kernel
theorem dX4_dropFor_24 : decode cX4_dropFor 24 = .ok (.aload_n 0, 1) := by decide +kernel
theorem dX4_dropFor_25 : decode cX4_dropFor 25 = .ok (.getfield 46, 3) := by decide +kernel
theorem dX4_dropFor_28 : decode cX4_dropFor 28 = .ok (.iload 5, 2) := by decide +kernel
theorem dX4_dropFor_30 : decode cX4_dropFor 30 = .ok (.invokestatic 64, 3) := by decide +kernel
theorem dX4_dropFor_33 : decode cX4_dropFor 33 = .ok (.iconst 1, 1) := by decide +kernel
theorem dX4_dropFor_34 : decode cX4_dropFor 34 = .ok (.iload_n 3, 1) := by decide +kernel
theorem dX4_dropFor_35 : decode cX4_dropFor 35 = .ok (.ishl, 1) := by decide +kernel
theorem dX4_dropFor_36 : decode cX4_dropFor 36 = .ok (.iconst (-1), 1) := by decide +kernel
theorem dX4_dropFor_37 : decode cX4_dropFor 37 = .ok (.ixor, 1) := by decide +kernel
theorem dX4_dropFor_38 : decode cX4_dropFor 38 = .ok (.iand, 1) := by decide +kernel
theorem dX4_dropFor_39 : decode cX4_dropFor 39 = .ok (.invokestatic 79, 3) := by decide +kernel
theorem dX4_dropFor_42 : decode cX4_dropFor 42 = .ok (.iinc 4 1, 3) := by decide +kernel
theorem dX4_dropFor_45 : decode cX4_dropFor 45 = .ok (.goto (-42), 3) := by decide +kernel
theorem dX4_dropFor_48 : decode cX4_dropFor 48 = .ok (.return_, 1) := by decide +kernel
set_option maxRecDepth 20000 in
theorem ggX4_standingFor_X4_stands : GoodIn wsX4_standingFor wsX4_stands := goodIn_r _ [5, 6, 7, 8, 4, 9, 10, 11, 12, 13, 14, 15, 16, 17, 18, 19, 20, 21, 22, 23] (by decide +kernel) (by decide +kernel)
set_option maxRecDepth 20000 in
theorem gX4_standingFor_X4_stands : GoodIn wsX4_standingFor (wsV RX4 134 RX4 yX4_stands wsX4_stands) := goodIn_app (goodIn_of _ (by decide +kernel)) ggX4_standingFor_X4_stands
theorem dX4_standingFor_0 : decode cX4_standingFor 0 = .ok (.iconst 0, 1) := by decide +kernel
theorem dX4_standingFor_1 : decode cX4_standingFor 1 = .ok (.istore 4, 2) := by decide +kernel
theorem dX4_standingFor_3 : decode cX4_standingFor 3 = .ok (.iconst 0, 1) := by decide +kernel
theorem dX4_standingFor_4 : decode cX4_standingFor 4 = .ok (.istore 5, 2) := by decide +kernel
theorem dX4_standingFor_6 : decode cX4_standingFor 6 = .ok (.iload 5, 2) := by decide +kernel
theorem dX4_standingFor_8 : decode cX4_standingFor 8 = .ok (.iconst 2, 1) := by decide +kernel
theorem dX4_standingFor_9 : decode cX4_standingFor 9 = .ok (.if_icmp .ge 24, 3) := by decide +kernel
theorem dX4_standingFor_12 : decode cX4_standingFor 12 = .ok (.aload_n 0, 1) := by decide +kernel
theorem dX4_standingFor_13 : decode cX4_standingFor 13 = .ok (.iload_n 1, 1) := by decide +kernel
theorem dX4_standingFor_14 : decode cX4_standingFor 14 = .ok (.iload_n 2, 1) := by decide +kernel
theorem dX4_standingFor_15 : decode cX4_standingFor 15 = .ok (.iload 5, 2) := by decide +kernel
theorem dX4_standingFor_17 : decode cX4_standingFor 17 = .ok (.iload_n 3, 1) := by decide +kernel
theorem dX4_standingFor_18 : decode cX4_standingFor 18 = .ok (.invokevirtual 134, 3) := by decide +kernel
theorem dX4_standingFor_21 : decode cX4_standingFor 21 = .ok (.ifCond .eq 6, 3) := by decide +kernel
theorem dX4_standingFor_24 : decode cX4_standingFor 24 = .ok (.iinc 4 1, 3) := by decide +kernel
theorem dX4_standingFor_27 : decode cX4_standingFor 27 = .ok (.iinc 5 1, 3) := by decide +kernel
theorem dX4_standingFor_30 : decode cX4_standingFor 30 = .ok (.goto (-24), 3) := by decide +kernel
theorem dX4_standingFor_33 : decode cX4_standingFor 33 = .ok (.iload 4, 2) := by decide +kernel
theorem dX4_standingFor_35 : decode cX4_standingFor 35 = .ok (.ireturn, 1) := by decide +kernel
set_option maxRecDepth 20000 in
theorem ggX4_standingOfDay_X4_placeOf : GoodIn wsX4_standingOfDay wsX4_placeOf := goodIn_r _ [5] (by decide +kernel) (by decide +kernel)
set_option maxRecDepth 20000 in
theorem gX4_standingOfDay_X4_placeOf : GoodIn wsX4_standingOfDay (va_wsS RX4 131 yX4_placeOf wsX4_placeOf) := goodIn_app (goodIn_of _ (by decide +kernel)) ggX4_standingOfDay_X4_placeOf
set_option maxRecDepth 20000 in
theorem ggX4_standingOfDay_X5_at : GoodIn wsX4_standingOfDay wsX5_at := goodIn_r _ [8] (by decide +kernel) (by decide +kernel)
set_option maxRecDepth 20000 in
theorem gX4_standingOfDay_X5_at_n64 : GoodIn wsX4_standingOfDay (wsX5_at) := ggX4_standingOfDay_X5_at
set_option maxRecDepth 20000 in
theorem ggX4_standingOfDay_J6_bitCount_0f7a4 : GoodIn wsX4_standingOfDay wsJ6_bitCount_0f7a4 := goodIn_r _ [12, 13, 14, 15] (by decide +kernel) (by decide +kernel)
set_option maxRecDepth 20000 in
theorem gX4_standingOfDay_J6_bitCount_0f7a4 : GoodIn wsX4_standingOfDay (va_wsS RX4 74 yJ6_bitCount_0f7a4 wsJ6_bitCount_0f7a4) := goodIn_app (goodIn_of _ (by decide +kernel)) ggX4_standingOfDay_J6_bitCount_0f7a4
theorem dX4_standingOfDay_0 : decode cX4_standingOfDay 0 = .ok (.iconst 0, 1) := by decide +kernel
theorem dX4_standingOfDay_1 : decode cX4_standingOfDay 1 = .ok (.istore_n 3, 1) := by decide +kernel
theorem dX4_standingOfDay_2 : decode cX4_standingOfDay 2 = .ok (.iconst 0, 1) := by decide +kernel
theorem dX4_standingOfDay_3 : decode cX4_standingOfDay 3 = .ok (.istore 4, 2) := by decide +kernel
theorem dX4_standingOfDay_5 : decode cX4_standingOfDay 5 = .ok (.iload 4, 2) := by decide +kernel
theorem dX4_standingOfDay_7 : decode cX4_standingOfDay 7 = .ok (.iconst 2, 1) := by decide +kernel
theorem dX4_standingOfDay_8 : decode cX4_standingOfDay 8 = .ok (.if_icmp .ge 29, 3) := by decide +kernel
theorem dX4_standingOfDay_11 : decode cX4_standingOfDay 11 = .ok (.iload_n 3, 1) := by decide +kernel
theorem dX4_standingOfDay_12 : decode cX4_standingOfDay 12 = .ok (.aload_n 0, 1) := by decide +kernel
theorem dX4_standingOfDay_13 : decode cX4_standingOfDay 13 = .ok (.getfield 46, 3) := by decide +kernel
theorem dX4_standingOfDay_16 : decode cX4_standingOfDay 16 = .ok (.iload_n 1, 1) := by decide +kernel
theorem dX4_standingOfDay_17 : decode cX4_standingOfDay 17 = .ok (.iload_n 2, 1) := by decide +kernel
theorem dX4_standingOfDay_18 : decode cX4_standingOfDay 18 = .ok (.iload 4, 2) := by decide +kernel
theorem dX4_standingOfDay_20 : decode cX4_standingOfDay 20 = .ok (.invokestatic 131, 3) := by decide +kernel
theorem dX4_standingOfDay_23 : decode cX4_standingOfDay 23 = .ok (.invokestatic 64, 3) := by decide +kernel
theorem dX4_standingOfDay_26 : decode cX4_standingOfDay 26 = .ok (.invokestatic 74, 3) := by decide +kernel
theorem dX4_standingOfDay_29 : decode cX4_standingOfDay 29 = .ok (.iadd, 1) := by decide +kernel
theorem dX4_standingOfDay_30 : decode cX4_standingOfDay 30 = .ok (.istore_n 3, 1) := by decide +kernel
theorem dX4_standingOfDay_31 : decode cX4_standingOfDay 31 = .ok (.iinc 4 1, 3) := by decide +kernel
theorem dX4_standingOfDay_34 : decode cX4_standingOfDay 34 = .ok (.goto (-29), 3) := by decide +kernel
theorem dX4_standingOfDay_37 : decode cX4_standingOfDay 37 = .ok (.iload_n 3, 1) := by decide +kernel
theorem dX4_standingOfDay_38 : decode cX4_standingOfDay 38 = .ok (.ireturn, 1) := by decide +kernel
set_option maxRecDepth 20000 in
theorem ggX4_standingOf_X4_standingOfDay : GoodIn wsX4_standingOf wsX4_standingOfDay := goodIn_r _ [6, 7, 8, 9, 5, 10, 11, 12, 13, 14, 15, 16, 17, 18, 19, 20, 21, 22, 23, 24, 25, 26, 27, 28, 29, 30, 31] (by decide +kernel) (by decide +kernel)
set_option maxRecDepth 20000 in
theorem gX4_standingOf_X4_standingOfDay : GoodIn wsX4_standingOf (wsV RX4 137 RX4 yX4_standingOfDay wsX4_standingOfDay) := goodIn_app (goodIn_of _ (by decide +kernel)) ggX4_standingOf_X4_standingOfDay
theorem dX4_standingOf_0 : decode cX4_standingOf 0 = .ok (.iconst 0, 1) := by decide +kernel
theorem dX4_standingOf_1 : decode cX4_standingOf 1 = .ok (.istore_n 2, 1) := by decide +kernel
theorem dX4_standingOf_2 : decode cX4_standingOf 2 = .ok (.iconst 0, 1) := by decide +kernel
theorem dX4_standingOf_3 : decode cX4_standingOf 3 = .ok (.istore_n 3, 1) := by decide +kernel
theorem dX4_standingOf_4 : decode cX4_standingOf 4 = .ok (.iload_n 3, 1) := by decide +kernel
theorem dX4_standingOf_5 : decode cX4_standingOf 5 = .ok (.aload_n 0, 1) := by decide +kernel
theorem dX4_standingOf_6 : decode cX4_standingOf 6 = .ok (.getfield 24, 3) := by decide +kernel
theorem dX4_standingOf_9 : decode cX4_standingOf 9 = .ok (.if_icmp .ge 18, 3) := by decide +kernel
theorem dX4_standingOf_12 : decode cX4_standingOf 12 = .ok (.iload_n 2, 1) := by decide +kernel
theorem dX4_standingOf_13 : decode cX4_standingOf 13 = .ok (.aload_n 0, 1) := by decide +kernel
theorem dX4_standingOf_14 : decode cX4_standingOf 14 = .ok (.iload_n 1, 1) := by decide +kernel
theorem dX4_standingOf_15 : decode cX4_standingOf 15 = .ok (.iload_n 3, 1) := by decide +kernel
theorem dX4_standingOf_16 : decode cX4_standingOf 16 = .ok (.invokevirtual 137, 3) := by decide +kernel
theorem dX4_standingOf_19 : decode cX4_standingOf 19 = .ok (.iadd, 1) := by decide +kernel
theorem dX4_standingOf_20 : decode cX4_standingOf 20 = .ok (.istore_n 2, 1) := by decide +kernel
theorem dX4_standingOf_21 : decode cX4_standingOf 21 = .ok (.iinc 3 1, 3) := by decide +kernel
theorem dX4_standingOf_24 : decode cX4_standingOf 24 = .ok (.goto (-20), 3) := by decide +kernel
theorem dX4_standingOf_27 : decode cX4_standingOf 27 = .ok (.iload_n 2, 1) := by decide +kernel
theorem dX4_standingOf_28 : decode cX4_standingOf 28 = .ok (.ireturn, 1) := by decide +kernel
set_option maxRecDepth 20000 in
theorem ggX4_points_X4_standingFor : GoodIn wsX4_points wsX4_standingFor := goodIn_r _ [6, 7, 8, 9, 5, 10, 11, 12, 13, 14, 15, 16, 17, 18, 19, 20, 21, 22, 23, 24, 25, 26, 27, 28] (by decide +kernel) (by decide +kernel)
set_option maxRecDepth 20000 in
theorem gX4_points_X4_standingFor : GoodIn wsX4_points (wsV RX4 140 RX4 yX4_standingFor wsX4_standingFor) := goodIn_app (goodIn_of _ (by decide +kernel)) ggX4_points_X4_standingFor
theorem dX4_points_0 : decode cX4_points 0 = .ok (.iconst 0, 1) := by decide +kernel
theorem dX4_points_1 : decode cX4_points 1 = .ok (.istore_n 3, 1) := by decide +kernel
theorem dX4_points_2 : decode cX4_points 2 = .ok (.iconst 0, 1) := by decide +kernel
theorem dX4_points_3 : decode cX4_points 3 = .ok (.istore 4, 2) := by decide +kernel
theorem dX4_points_5 : decode cX4_points 5 = .ok (.iload 4, 2) := by decide +kernel
theorem dX4_points_7 : decode cX4_points 7 = .ok (.aload_n 0, 1) := by decide +kernel
theorem dX4_points_8 : decode cX4_points 8 = .ok (.getfield 37, 3) := by decide +kernel
theorem dX4_points_11 : decode cX4_points 11 = .ok (.if_icmp .ge 20, 3) := by decide +kernel
theorem dX4_points_14 : decode cX4_points 14 = .ok (.iload_n 3, 1) := by decide +kernel
theorem dX4_points_15 : decode cX4_points 15 = .ok (.aload_n 0, 1) := by decide +kernel
theorem dX4_points_16 : decode cX4_points 16 = .ok (.iload 4, 2) := by decide +kernel
theorem dX4_points_18 : decode cX4_points 18 = .ok (.iload_n 1, 1) := by decide +kernel
theorem dX4_points_19 : decode cX4_points 19 = .ok (.iload_n 2, 1) := by decide +kernel
theorem dX4_points_20 : decode cX4_points 20 = .ok (.invokevirtual 140, 3) := by decide +kernel
theorem dX4_points_23 : decode cX4_points 23 = .ok (.iadd, 1) := by decide +kernel
theorem dX4_points_24 : decode cX4_points 24 = .ok (.istore_n 3, 1) := by decide +kernel
theorem dX4_points_25 : decode cX4_points 25 = .ok (.iinc 4 1, 3) := by decide +kernel
theorem dX4_points_28 : decode cX4_points 28 = .ok (.goto (-23), 3) := by decide +kernel
theorem dX4_points_31 : decode cX4_points 31 = .ok (.iload_n 3, 1) := by decide +kernel
theorem dX4_points_32 : decode cX4_points 32 = .ok (.ireturn, 1) := by decide +kernel
set_option maxRecDepth 20000 in
theorem ggX4_pointsOfDay_X4_standingOfDay : GoodIn wsX4_pointsOfDay wsX4_standingOfDay := goodIn_r _ [6, 7, 8, 9, 5, 10, 11, 12, 13, 14, 15, 16, 17, 18, 19, 20, 21, 22, 23, 24, 25, 26, 27, 28, 29, 30, 31] (by decide +kernel) (by decide +kernel)
set_option maxRecDepth 20000 in
theorem gX4_pointsOfDay_X4_standingOfDay : GoodIn wsX4_pointsOfDay (wsV RX4 137 RX4 yX4_standingOfDay wsX4_standingOfDay) := goodIn_app (goodIn_of _ (by decide +kernel)) ggX4_pointsOfDay_X4_standingOfDay
theorem dX4_pointsOfDay_0 : decode cX4_pointsOfDay 0 = .ok (.iconst 0, 1) := by decide +kernel
theorem dX4_pointsOfDay_1 : decode cX4_pointsOfDay 1 = .ok (.istore_n 2, 1) := by decide +kernel
theorem dX4_pointsOfDay_2 : decode cX4_pointsOfDay 2 = .ok (.iconst 0, 1) := by decide +kernel
theorem dX4_pointsOfDay_3 : decode cX4_pointsOfDay 3 = .ok (.istore_n 3, 1) := by decide +kernel
theorem dX4_pointsOfDay_4 : decode cX4_pointsOfDay 4 = .ok (.iload_n 3, 1) := by decide +kernel
theorem dX4_pointsOfDay_5 : decode cX4_pointsOfDay 5 = .ok (.aload_n 0, 1) := by decide +kernel
theorem dX4_pointsOfDay_6 : decode cX4_pointsOfDay 6 = .ok (.getfield 37, 3) := by decide +kernel
theorem dX4_pointsOfDay_9 : decode cX4_pointsOfDay 9 = .ok (.if_icmp .ge 18, 3) := by decide +kernel
theorem dX4_pointsOfDay_12 : decode cX4_pointsOfDay 12 = .ok (.iload_n 2, 1) := by decide +kernel
theorem dX4_pointsOfDay_13 : decode cX4_pointsOfDay 13 = .ok (.aload_n 0, 1) := by decide +kernel
theorem dX4_pointsOfDay_14 : decode cX4_pointsOfDay 14 = .ok (.iload_n 3, 1) := by decide +kernel
theorem dX4_pointsOfDay_15 : decode cX4_pointsOfDay 15 = .ok (.iload_n 1, 1) := by decide +kernel
theorem dX4_pointsOfDay_16 : decode cX4_pointsOfDay 16 = .ok (.invokevirtual 137, 3) := by decide +kernel
theorem dX4_pointsOfDay_19 : decode cX4_pointsOfDay 19 = .ok (.iadd, 1) := by decide +kernel
theorem dX4_pointsOfDay_20 : decode cX4_pointsOfDay 20 = .ok (.istore_n 2, 1) := by decide +kernel
theorem dX4_pointsOfDay_21 : decode cX4_pointsOfDay 21 = .ok (.iinc 3 1, 3) := by decide +kernel
theorem dX4_pointsOfDay_24 : decode cX4_pointsOfDay 24 = .ok (.goto (-20), 3) := by decide +kernel
theorem dX4_pointsOfDay_27 : decode cX4_pointsOfDay 27 = .ok (.iload_n 2, 1) := by decide +kernel
theorem dX4_pointsOfDay_28 : decode cX4_pointsOfDay 28 = .ok (.ireturn, 1) := by decide +kernel
set_option maxRecDepth 20000 in
theorem ggX4_isBarred_X5_at : GoodIn wsX4_isBarred wsX5_at := goodIn_r _ [4] (by decide +kernel) (by decide +kernel)
set_option maxRecDepth 20000 in
theorem gX4_isBarred_X5_at_n64 : GoodIn wsX4_isBarred (wsX5_at) := ggX4_isBarred_X5_at
theorem dX4_isBarred_0 : decode cX4_isBarred 0 = .ok (.aload_n 0, 1) := by decide +kernel
theorem dX4_isBarred_1 : decode cX4_isBarred 1 = .ok (.getfield 43, 3) := by decide +kernel
theorem dX4_isBarred_4 : decode cX4_isBarred 4 = .ok (.iload_n 1, 1) := by decide +kernel
theorem dX4_isBarred_5 : decode cX4_isBarred 5 = .ok (.invokestatic 64, 3) := by decide +kernel
theorem dX4_isBarred_8 : decode cX4_isBarred 8 = .ok (.iconst 3, 1) := by decide +kernel
theorem dX4_isBarred_9 : decode cX4_isBarred 9 = .ok (.if_icmp .lt 7, 3) := by decide +kernel
theorem dX4_isBarred_12 : decode cX4_isBarred 12 = .ok (.iconst 1, 1) := by decide +kernel
theorem dX4_isBarred_13 : decode cX4_isBarred 13 = .ok (.goto 4, 3) := by decide +kernel
theorem dX4_isBarred_16 : decode cX4_isBarred 16 = .ok (.iconst 0, 1) := by decide +kernel
theorem dX4_isBarred_17 : decode cX4_isBarred 17 = .ok (.ireturn, 1) := by decide +kernel
set_option maxRecDepth 20000 in
theorem ggX4_reasonAgainst_X4_hasHouse : GoodIn wsX4_reasonAgainst wsX4_hasHouse := goodIn_r _ [5, 6, 94, 95, 96, 97, 98, 99, 100, 101, 102, 103, 104] (by decide +kernel) (by decide +kernel)
set_option maxRecDepth 20000 in
theorem gX4_reasonAgainst_X4_hasHouse : GoodIn wsX4_reasonAgainst (wsV RX4 143 RX4 yX4_hasHouse wsX4_hasHouse) := goodIn_app (goodIn_of _ (by decide +kernel)) ggX4_reasonAgainst_X4_hasHouse
set_option maxRecDepth 20000 in
theorem ggX4_reasonAgainst_X4_hasMill : GoodIn wsX4_reasonAgainst wsX4_hasMill := goodIn_r _ [10, 11, 94, 95, 96, 97, 98, 99, 100, 101, 102, 103, 104] (by decide +kernel) (by decide +kernel)
set_option maxRecDepth 20000 in
theorem gX4_reasonAgainst_X4_hasMill : GoodIn wsX4_reasonAgainst (wsV RX4 146 RX4 yX4_hasMill wsX4_hasMill) := goodIn_app (goodIn_of _ (by decide +kernel)) ggX4_reasonAgainst_X4_hasMill
set_option maxRecDepth 20000 in
theorem ggX4_reasonAgainst_X5_isHour : GoodIn wsX4_reasonAgainst wsX5_isHour := goodIn_r _ [14] (by decide +kernel) (by decide +kernel)
set_option maxRecDepth 20000 in
theorem gX4_reasonAgainst_X5_isHour_n149 : GoodIn wsX4_reasonAgainst (wsX5_isHour) := ggX4_reasonAgainst_X5_isHour
set_option maxRecDepth 20000 in
theorem ggX4_reasonAgainst_X4_isBarred : GoodIn wsX4_reasonAgainst wsX4_isBarred := goodIn_r _ [18, 19, 20, 13, 21, 94, 95, 96, 97, 98, 99, 100, 101, 102, 103, 104] (by decide +kernel) (by decide +kernel)
set_option maxRecDepth 20000 in
theorem gX4_reasonAgainst_X4_isBarred : GoodIn wsX4_reasonAgainst (wsV RX4 152 RX4 yX4_isBarred wsX4_isBarred) := goodIn_app (goodIn_of _ (by decide +kernel)) ggX4_reasonAgainst_X4_isBarred
set_option maxRecDepth 20000 in
theorem ggX4_reasonAgainst_X4_stands : GoodIn wsX4_reasonAgainst wsX4_stands := goodIn_r _ [25, 26, 27, 28, 4, 29, 20, 13, 21, 94, 95, 96, 97, 98, 99, 100, 101, 102, 103, 104] (by decide +kernel) (by decide +kernel)
set_option maxRecDepth 20000 in
theorem gX4_reasonAgainst_X4_stands : GoodIn wsX4_reasonAgainst (wsV RX4 134 RX4 yX4_stands wsX4_stands) := goodIn_app (goodIn_of _ (by decide +kernel)) ggX4_reasonAgainst_X4_stands
set_option maxRecDepth 20000 in
theorem ggX4_reasonAgainst_X4_isTied : GoodIn wsX4_reasonAgainst wsX4_isTied := goodIn_r _ [33, 34, 35, 36, 4, 37, 38, 20, 13, 21, 94, 95, 96, 97, 98, 99, 100, 101, 102, 103, 104] (by decide +kernel) (by decide +kernel)
set_option maxRecDepth 20000 in
theorem gX4_reasonAgainst_X4_isTied : GoodIn wsX4_reasonAgainst (wsV RX4 87 RX4 yX4_isTied wsX4_isTied) := goodIn_app (goodIn_of _ (by decide +kernel)) ggX4_reasonAgainst_X4_isTied
set_option maxRecDepth 20000 in
theorem ggX4_reasonAgainst_X4_blows : GoodIn wsX4_reasonAgainst wsX4_blows := goodIn_r _ [42, 43, 44, 45, 4, 46, 47, 20, 13, 21, 94, 95, 96, 97, 98, 99, 100, 101, 102, 103, 104] (by decide +kernel) (by decide +kernel)
set_option maxRecDepth 20000 in
theorem gX4_reasonAgainst_X4_blows : GoodIn wsX4_reasonAgainst (wsV RX4 83 RX4 yX4_blows wsX4_blows) := goodIn_app (goodIn_of _ (by decide +kernel)) ggX4_reasonAgainst_X4_blows
set_option maxRecDepth 20000 in
theorem ggX4_reasonAgainst_X2_hasSun : GoodIn wsX4_reasonAgainst wsX2_hasSun := goodIn_r _ [51] (by decide +kernel) (by decide +kernel)
set_option maxRecDepth 20000 in
theorem gX4_reasonAgainst_X2_hasSun : GoodIn wsX4_reasonAgainst (va_wsS RX4 155 yX2_hasSun wsX2_hasSun) := goodIn_app (goodIn_of _ (by decide +kernel)) ggX4_reasonAgainst_X2_hasSun
set_option maxRecDepth 20000 in
theorem ggX4_reasonAgainst_X4_troublesIfUntied : GoodIn wsX4_reasonAgainst wsX4_troublesIfUntied := goodIn_r _ [55, 56, 57, 58, 20, 13, 21, 59, 60, 61, 4, 62, 63, 64, 65, 66, 43, 44, 45, 46, 47, 67, 68, 69, 70, 71, 72, 73, 74, 75, 76, 77, 78, 79, 80, 81, 39, 40, 41, 42, 82, 83, 50, 84, 85, 86, 87, 88, 89, 90, 91, 92, 93, 94, 95, 96, 97, 98, 99, 100, 101, 102, 103, 104] (by decide +kernel) (by decide +kernel)
set_option maxRecDepth 20000 in
theorem gX4_reasonAgainst_X4_troublesIfUntied : GoodIn wsX4_reasonAgainst (wsV RX4 125 RX4 yX4_troublesIfUntied wsX4_troublesIfUntied) := goodIn_app (goodIn_of _ (by decide +kernel)) ggX4_reasonAgainst_X4_troublesIfUntied
theorem dX4_reasonAgainst_0 : decode cX4_reasonAgainst 0 = .ok (.aload_n 0, 1) := by decide +kernel
theorem dX4_reasonAgainst_1 : decode cX4_reasonAgainst 1 = .ok (.iload_n 1, 1) := by decide +kernel
theorem dX4_reasonAgainst_2 : decode cX4_reasonAgainst 2 = .ok (.invokevirtual 143, 3) := by decide +kernel
theorem dX4_reasonAgainst_5 : decode cX4_reasonAgainst 5 = .ok (.ifCond .eq 19, 3) := by decide +kernel
theorem dX4_reasonAgainst_8 : decode cX4_reasonAgainst 8 = .ok (.aload_n 0, 1) := by decide +kernel
theorem dX4_reasonAgainst_9 : decode cX4_reasonAgainst 9 = .ok (.iload_n 2, 1) := by decide +kernel
theorem dX4_reasonAgainst_10 : decode cX4_reasonAgainst 10 = .ok (.invokevirtual 146, 3) := by decide +kernel
theorem dX4_reasonAgainst_13 : decode cX4_reasonAgainst 13 = .ok (.ifCond .eq 11, 3) := by decide +kernel
theorem dX4_reasonAgainst_16 : decode cX4_reasonAgainst 16 = .ok (.iload 4, 2) := by decide +kernel
theorem dX4_reasonAgainst_18 : decode cX4_reasonAgainst 18 = .ok (.invokestatic 149, 3) := by decide +kernel
theorem dX4_reasonAgainst_21 : decode cX4_reasonAgainst 21 = .ok (.ifCond .ne 5, 3) := by decide +kernel
theorem dX4_reasonAgainst_24 : decode cX4_reasonAgainst 24 = .ok (.iconst (-1), 1) := by decide +kernel
theorem dX4_reasonAgainst_25 : decode cX4_reasonAgainst 25 = .ok (.ireturn, 1) := by decide +kernel
theorem dX4_reasonAgainst_26 : decode cX4_reasonAgainst 26 = .ok (.iload_n 3, 1) := by decide +kernel
theorem dX4_reasonAgainst_27 : decode cX4_reasonAgainst 27 = .ok (.ifCond .eq 11, 3) := by decide +kernel
theorem dX4_reasonAgainst_30 : decode cX4_reasonAgainst 30 = .ok (.iload_n 3, 1) := by decide +kernel
theorem dX4_reasonAgainst_31 : decode cX4_reasonAgainst 31 = .ok (.iconst 1, 1) := by decide +kernel
theorem dX4_reasonAgainst_32 : decode cX4_reasonAgainst 32 = .ok (.if_icmp .eq 6, 3) := by decide +kernel
theorem dX4_reasonAgainst_35 : decode cX4_reasonAgainst 35 = .ok (.bipush (-2), 2) := by decide +kernel
theorem dX4_reasonAgainst_37 : decode cX4_reasonAgainst 37 = .ok (.ireturn, 1) := by decide +kernel
theorem dX4_reasonAgainst_38 : decode cX4_reasonAgainst 38 = .ok (.aload_n 0, 1) := by decide +kernel
theorem dX4_reasonAgainst_39 : decode cX4_reasonAgainst 39 = .ok (.iload_n 1, 1) := by decide +kernel
theorem dX4_reasonAgainst_40 : decode cX4_reasonAgainst 40 = .ok (.invokevirtual 152, 3) := by decide +kernel
theorem dX4_reasonAgainst_43 : decode cX4_reasonAgainst 43 = .ok (.ifCond .eq 5, 3) := by decide +kernel
theorem dX4_reasonAgainst_46 : decode cX4_reasonAgainst 46 = .ok (.iconst 1, 1) := by decide +kernel
theorem dX4_reasonAgainst_47 : decode cX4_reasonAgainst 47 = .ok (.ireturn, 1) := by decide +kernel
theorem dX4_reasonAgainst_48 : decode cX4_reasonAgainst 48 = .ok (.aload_n 0, 1) := by decide +kernel
theorem dX4_reasonAgainst_49 : decode cX4_reasonAgainst 49 = .ok (.iload_n 1, 1) := by decide +kernel
theorem dX4_reasonAgainst_50 : decode cX4_reasonAgainst 50 = .ok (.iload_n 2, 1) := by decide +kernel
theorem dX4_reasonAgainst_51 : decode cX4_reasonAgainst 51 = .ok (.iload_n 3, 1) := by decide +kernel
theorem dX4_reasonAgainst_52 : decode cX4_reasonAgainst 52 = .ok (.iload 4, 2) := by decide +kernel
theorem dX4_reasonAgainst_54 : decode cX4_reasonAgainst 54 = .ok (.invokevirtual 134, 3) := by decide +kernel
theorem dX4_reasonAgainst_57 : decode cX4_reasonAgainst 57 = .ok (.ifCond .eq 5, 3) := by decide +kernel
theorem dX4_reasonAgainst_60 : decode cX4_reasonAgainst 60 = .ok (.iconst 2, 1) := by decide +kernel
theorem dX4_reasonAgainst_61 : decode cX4_reasonAgainst 61 = .ok (.ireturn, 1) := by decide +kernel
theorem dX4_reasonAgainst_62 : decode cX4_reasonAgainst 62 = .ok (.aload_n 0, 1) := by decide +kernel
theorem dX4_reasonAgainst_63 : decode cX4_reasonAgainst 63 = .ok (.iload_n 2, 1) := by decide +kernel
theorem dX4_reasonAgainst_64 : decode cX4_reasonAgainst 64 = .ok (.iload 4, 2) := by decide +kernel
theorem dX4_reasonAgainst_66 : decode cX4_reasonAgainst 66 = .ok (.invokevirtual 87, 3) := by decide +kernel
theorem dX4_reasonAgainst_69 : decode cX4_reasonAgainst 69 = .ok (.ifCond .eq 5, 3) := by decide +kernel
theorem dX4_reasonAgainst_72 : decode cX4_reasonAgainst 72 = .ok (.iconst 3, 1) := by decide +kernel
theorem dX4_reasonAgainst_73 : decode cX4_reasonAgainst 73 = .ok (.ireturn, 1) := by decide +kernel
theorem dX4_reasonAgainst_74 : decode cX4_reasonAgainst 74 = .ok (.aload_n 0, 1) := by decide +kernel
theorem dX4_reasonAgainst_75 : decode cX4_reasonAgainst 75 = .ok (.iload 4, 2) := by decide +kernel
theorem dX4_reasonAgainst_77 : decode cX4_reasonAgainst 77 = .ok (.invokevirtual 83, 3) := by decide +kernel
theorem dX4_reasonAgainst_80 : decode cX4_reasonAgainst 80 = .ok (.ifCond .ne 5, 3) := by decide +kernel
theorem dX4_reasonAgainst_83 : decode cX4_reasonAgainst 83 = .ok (.iconst 4, 1) := by decide +kernel
theorem dX4_reasonAgainst_84 : decode cX4_reasonAgainst 84 = .ok (.ireturn, 1) := by decide +kernel
theorem dX4_reasonAgainst_85 : decode cX4_reasonAgainst 85 = .ok (.iload_n 3, 1) := by decide +kernel
theorem dX4_reasonAgainst_86 : decode cX4_reasonAgainst 86 = .ok (.iconst 1, 1) := by decide +kernel
theorem dX4_reasonAgainst_87 : decode cX4_reasonAgainst 87 = .ok (.if_icmp .ne 13, 3) := by decide +kernel
theorem dX4_reasonAgainst_90 : decode cX4_reasonAgainst 90 = .ok (.iload 4, 2) := by decide +kernel
theorem dX4_reasonAgainst_92 : decode cX4_reasonAgainst 92 = .ok (.invokestatic 155, 3) := by decide +kernel
theorem dX4_reasonAgainst_95 : decode cX4_reasonAgainst 95 = .ok (.ifCond .ne 5, 3) := by decide +kernel
theorem dX4_reasonAgainst_98 : decode cX4_reasonAgainst 98 = .ok (.iconst 5, 1) := by decide +kernel
theorem dX4_reasonAgainst_99 : decode cX4_reasonAgainst 99 = .ok (.ireturn, 1) := by decide +kernel
theorem dX4_reasonAgainst_100 : decode cX4_reasonAgainst 100 = .ok (.aload_n 0, 1) := by decide +kernel
theorem dX4_reasonAgainst_101 : decode cX4_reasonAgainst 101 = .ok (.iload_n 2, 1) := by decide +kernel
theorem dX4_reasonAgainst_102 : decode cX4_reasonAgainst 102 = .ok (.iload_n 1, 1) := by decide +kernel
theorem dX4_reasonAgainst_103 : decode cX4_reasonAgainst 103 = .ok (.iload_n 3, 1) := by decide +kernel
theorem dX4_reasonAgainst_104 : decode cX4_reasonAgainst 104 = .ok (.iload 4, 2) := by decide +kernel
theorem dX4_reasonAgainst_106 : decode cX4_reasonAgainst 106 = .ok (.invokevirtual 125, 3) := by decide +kernel
theorem dX4_reasonAgainst_109 : decode cX4_reasonAgainst 109 = .ok (.ifCond .eq 5, 3) := by decide +kernel
theorem dX4_reasonAgainst_112 : decode cX4_reasonAgainst 112 = .ok (.iconst 0, 1) := by decide +kernel
theorem dX4_reasonAgainst_113 : decode cX4_reasonAgainst 113 = .ok (.ireturn, 1) := by decide +kernel
theorem dX4_reasonAgainst_114 : decode cX4_reasonAgainst 114 = .ok (.iload_n 3, 1) := by decide +kernel
theorem dX4_reasonAgainst_115 : decode cX4_reasonAgainst 115 = .ok (.ifCond .ne 7, 3) := by decide +kernel
theorem dX4_reasonAgainst_118 : decode cX4_reasonAgainst 118 = .ok (.iconst 5, 1) := by decide +kernel
theorem dX4_reasonAgainst_119 : decode cX4_reasonAgainst 119 = .ok (.goto 5, 3) := by decide +kernel
theorem dX4_reasonAgainst_122 : decode cX4_reasonAgainst 122 = .ok (.bipush 6, 2) := by decide +kernel
theorem dX4_reasonAgainst_124 : decode cX4_reasonAgainst 124 = .ok (.ireturn, 1) := by decide +kernel
set_option maxRecDepth 20000 in
theorem ggX5_init_X4_init : GoodIn wsX5_init wsX4_init := goodIn_r _ [21, 22, 2, 3, 23, 24, 25, 26, 27, 28, 29, 30, 31, 32, 33, 34, 35, 36, 37, 54, 55, 56, 57, 58, 59, 60, 61, 62, 63, 64] (by decide +kernel) (by decide +kernel)
set_option maxRecDepth 20000 in
theorem gX5_init_X4_init : GoodIn wsX5_init (wsX4_init) := ggX5_init_X4_init
set_option maxRecDepth 20000 in
theorem ggX5_init_X1_init : GoodIn wsX5_init wsX1_init := goodIn_r _ [40, 41, 2, 3, 42, 43, 5, 6, 44, 45, 46, 20, 21, 22, 23, 24, 25, 26, 27, 28, 29, 30, 31, 32, 33, 34, 35, 36, 37, 71, 72, 73, 54, 55, 56, 57, 58, 59, 60, 61, 62, 63, 64] (by decide +kernel) (by decide +kernel)
set_option maxRecDepth 20000 in
theorem gX5_init_X1_init : GoodIn wsX5_init (wsX1_init) := ggX5_init_X1_init
set_option maxRecDepth 20000 in
theorem ggX5_init_X3_init : GoodIn wsX5_init wsX3_init := goodIn_r _ [49, 50, 2, 3, 51, 52, 53, 74, 75] (by decide +kernel) (by decide +kernel)
set_option maxRecDepth 20000 in
theorem gX5_init_X3_init : GoodIn wsX5_init (wsX3_init) := ggX5_init_X3_init
theorem dX5_init_0 : decode cX5_init 0 = .ok (.aload_n 0, 1) := by decide +kernel
theorem dX5_init_1 : decode cX5_init 1 = .ok (.invokespecial 3, 3) := by decide +kernel
theorem dX5_init_4 : decode cX5_init 4 = .ok (.aload_n 0, 1) := by decide +kernel
theorem dX5_init_5 : decode cX5_init 5 = .ok (.new 9, 3) := by decide +kernel
theorem dX5_init_8 : decode cX5_init 8 = .ok (.dup, 1) := by decide +kernel
theorem dX5_init_9 : decode cX5_init 9 = .ok (.invokespecial 11, 3) := by decide +kernel
theorem dX5_init_12 : decode cX5_init 12 = .ok (.putfield 12, 3) := by decide +kernel
theorem dX5_init_15 : decode cX5_init 15 = .ok (.aload_n 0, 1) := by decide +kernel
theorem dX5_init_16 : decode cX5_init 16 = .ok (.new 9, 3) := by decide +kernel
theorem dX5_init_19 : decode cX5_init 19 = .ok (.dup, 1) := by decide +kernel
theorem dX5_init_20 : decode cX5_init 20 = .ok (.invokespecial 11, 3) := by decide +kernel
theorem dX5_init_23 : decode cX5_init 23 = .ok (.putfield 16, 3) := by decide +kernel
theorem dX5_init_26 : decode cX5_init 26 = .ok (.aload_n 0, 1) := by decide +kernel
theorem dX5_init_27 : decode cX5_init 27 = .ok (.new 9, 3) := by decide +kernel
theorem dX5_init_30 : decode cX5_init 30 = .ok (.dup, 1) := by decide +kernel
theorem dX5_init_31 : decode cX5_init 31 = .ok (.invokespecial 11, 3) := by decide +kernel
theorem dX5_init_34 : decode cX5_init 34 = .ok (.putfield 19, 3) := by decide +kernel
theorem dX5_init_37 : decode cX5_init 37 = .ok (.aload_n 0, 1) := by decide +kernel
theorem dX5_init_38 : decode cX5_init 38 = .ok (.iconst 0, 1) := by decide +kernel
theorem dX5_init_39 : decode cX5_init 39 = .ok (.putfield 22, 3) := by decide +kernel
theorem dX5_init_42 : decode cX5_init 42 = .ok (.aload_n 0, 1) := by decide +kernel
theorem dX5_init_43 : decode cX5_init 43 = .ok (.new 26, 3) := by decide +kernel
theorem dX5_init_46 : decode cX5_init 46 = .ok (.dup, 1) := by decide +kernel
theorem dX5_init_47 : decode cX5_init 47 = .ok (.invokespecial 28, 3) := by decide +kernel
theorem dX5_init_50 : decode cX5_init 50 = .ok (.putfield 29, 3) := by decide +kernel
theorem dX5_init_53 : decode cX5_init 53 = .ok (.aload_n 0, 1) := by decide +kernel
theorem dX5_init_54 : decode cX5_init 54 = .ok (.new 33, 3) := by decide +kernel
theorem dX5_init_57 : decode cX5_init 57 = .ok (.dup, 1) := by decide +kernel
theorem dX5_init_58 : decode cX5_init 58 = .ok (.invokespecial 35, 3) := by decide +kernel
theorem dX5_init_61 : decode cX5_init 61 = .ok (.putfield 36, 3) := by decide +kernel
theorem dX5_init_64 : decode cX5_init 64 = .ok (.return_, 1) := by decide +kernel
set_option maxRecDepth 20000 in
theorem ggX5_mill_X4_copyFrom : GoodIn wsX5_mill wsX4_copyFrom := goodIn_r _ [7, 8, 9, 10, 11, 12, 13, 14, 15, 16, 17, 18, 19, 20, 21, 76, 77, 78, 79, 80, 81, 82, 83, 84, 85, 86] (by decide +kernel) (by decide +kernel)
set_option maxRecDepth 20000 in
theorem gX5_mill_X4_copyFrom : GoodIn wsX5_mill (wsV RX5 40 RX4 yX4_copyFrom wsX4_copyFrom) := goodIn_app (goodIn_of _ (by decide +kernel)) ggX5_mill_X4_copyFrom
set_option maxRecDepth 20000 in
theorem ggX5_mill_X5_bringMill : GoodIn wsX5_mill wsX5_bringMill := goodIn_r _ [25, 2, 26, 27, 20, 28, 29, 30, 31, 6, 32, 33, 34, 35, 36, 13, 11, 37, 38, 39, 40, 41, 42, 43, 44, 45, 16, 15, 46, 47, 48, 70, 71, 72, 73, 74, 75, 76, 77, 78, 79, 80, 81, 82, 83, 84, 85, 86] (by decide +kernel) (by decide +kernel)
set_option maxRecDepth 20000 in
theorem gX5_mill_X5_bringMill : GoodIn wsX5_mill (wsV RX5 44 RX5 yX5_bringMill wsX5_bringMill) := goodIn_app (goodIn_of _ (by decide +kernel)) ggX5_mill_X5_bringMill
set_option maxRecDepth 20000 in
theorem ggX5_mill_X5_recorded : GoodIn wsX5_mill wsX5_recorded := goodIn_r _ [52, 53, 1, 54, 55, 20, 56, 57, 58, 59, 60, 61, 62, 63, 64, 65, 66, 67, 68, 69, 4, 5, 6, 7, 8, 9, 10, 11, 12, 13, 14, 15, 16, 17, 18, 19, 21, 70, 71, 72, 73, 74, 75, 87, 88, 89, 76, 77, 78, 79, 80, 81, 82, 83, 84, 85, 86] (by decide +kernel) (by decide +kernel)
set_option maxRecDepth 20000 in
theorem gX5_mill_X5_recorded : GoodIn wsX5_mill (wsV RX5 48 RX5 yX5_recorded wsX5_recorded) := goodIn_app (goodIn_of _ (by decide +kernel)) ggX5_mill_X5_recorded
theorem dX5_mill_0 : decode cX5_mill 0 = .ok (.aload_n 0, 1) := by decide +kernel
theorem dX5_mill_1 : decode cX5_mill 1 = .ok (.getfield 16, 3) := by decide +kernel
theorem dX5_mill_4 : decode cX5_mill 4 = .ok (.aload_n 0, 1) := by decide +kernel
theorem dX5_mill_5 : decode cX5_mill 5 = .ok (.getfield 12, 3) := by decide +kernel
theorem dX5_mill_8 : decode cX5_mill 8 = .ok (.invokevirtual 40, 3) := by decide +kernel
theorem dX5_mill_11 : decode cX5_mill 11 = .ok (.aload_n 0, 1) := by decide +kernel
theorem dX5_mill_12 : decode cX5_mill 12 = .ok (.aload_n 0, 1) := by decide +kernel
theorem dX5_mill_13 : decode cX5_mill 13 = .ok (.iload_n 1, 1) := by decide +kernel
theorem dX5_mill_14 : decode cX5_mill 14 = .ok (.iload_n 2, 1) := by decide +kernel
theorem dX5_mill_15 : decode cX5_mill 15 = .ok (.invokevirtual 44, 3) := by decide +kernel
theorem dX5_mill_18 : decode cX5_mill 18 = .ok (.invokevirtual 48, 3) := by decide +kernel
theorem dX5_mill_21 : decode cX5_mill 21 = .ok (.ireturn, 1) := by decide +kernel
set_option maxRecDepth 20000 in
theorem ggX5_house_X4_copyFrom : GoodIn wsX5_house wsX4_copyFrom := goodIn_r _ [7, 8, 9, 10, 11, 12, 13, 14, 15, 16, 17, 18, 19, 20, 21, 76, 77, 78, 79, 80, 81, 82, 83, 84, 85, 86] (by decide +kernel) (by decide +kernel)
set_option maxRecDepth 20000 in
theorem gX5_house_X4_copyFrom : GoodIn wsX5_house (wsV RX5 40 RX4 yX4_copyFrom wsX4_copyFrom) := goodIn_app (goodIn_of _ (by decide +kernel)) ggX5_house_X4_copyFrom
set_option maxRecDepth 20000 in
theorem ggX5_house_X5_bringHouse : GoodIn wsX5_house wsX5_bringHouse := goodIn_r _ [25, 2, 26, 27, 20, 28, 29, 30, 31, 6, 32, 33, 34, 35, 36, 13, 11, 37, 38, 39, 40, 41, 42, 43, 44, 45, 16, 15, 46, 47, 48, 70, 71, 72, 73, 74, 75, 76, 77, 78, 79, 80, 81, 82, 83, 84, 85, 86] (by decide +kernel) (by decide +kernel)
set_option maxRecDepth 20000 in
theorem gX5_house_X5_bringHouse : GoodIn wsX5_house (wsV RX5 52 RX5 yX5_bringHouse wsX5_bringHouse) := goodIn_app (goodIn_of _ (by decide +kernel)) ggX5_house_X5_bringHouse
set_option maxRecDepth 20000 in
theorem ggX5_house_X5_recorded : GoodIn wsX5_house wsX5_recorded := goodIn_r _ [52, 53, 1, 54, 55, 20, 56, 57, 58, 59, 60, 61, 62, 63, 64, 65, 66, 67, 68, 69, 4, 5, 6, 7, 8, 9, 10, 11, 12, 13, 14, 15, 16, 17, 18, 19, 21, 70, 71, 72, 73, 74, 75, 87, 88, 89, 76, 77, 78, 79, 80, 81, 82, 83, 84, 85, 86] (by decide +kernel) (by decide +kernel)
set_option maxRecDepth 20000 in
theorem gX5_house_X5_recorded : GoodIn wsX5_house (wsV RX5 48 RX5 yX5_recorded wsX5_recorded) := goodIn_app (goodIn_of _ (by decide +kernel)) ggX5_house_X5_recorded
theorem dX5_house_0 : decode cX5_house 0 = .ok (.aload_n 0, 1) := by decide +kernel
theorem dX5_house_1 : decode cX5_house 1 = .ok (.getfield 16, 3) := by decide +kernel
theorem dX5_house_4 : decode cX5_house 4 = .ok (.aload_n 0, 1) := by decide +kernel
theorem dX5_house_5 : decode cX5_house 5 = .ok (.getfield 12, 3) := by decide +kernel
theorem dX5_house_8 : decode cX5_house 8 = .ok (.invokevirtual 40, 3) := by decide +kernel
theorem dX5_house_11 : decode cX5_house 11 = .ok (.aload_n 0, 1) := by decide +kernel
theorem dX5_house_12 : decode cX5_house 12 = .ok (.aload_n 0, 1) := by decide +kernel
theorem dX5_house_13 : decode cX5_house 13 = .ok (.iload_n 1, 1) := by decide +kernel
theorem dX5_house_14 : decode cX5_house 14 = .ok (.invokevirtual 52, 3) := by decide +kernel
theorem dX5_house_17 : decode cX5_house 17 = .ok (.invokevirtual 48, 3) := by decide +kernel
theorem dX5_house_20 : decode cX5_house 20 = .ok (.ireturn, 1) := by decide +kernel
set_option maxRecDepth 20000 in
theorem ggX5_wind_X4_copyFrom : GoodIn wsX5_wind wsX4_copyFrom := goodIn_r _ [7, 8, 9, 10, 11, 12, 13, 14, 15, 16, 17, 18, 19, 20, 21, 65, 66, 67, 68, 69, 70, 71, 72, 73, 74, 75] (by decide +kernel) (by decide +kernel)
set_option maxRecDepth 20000 in
theorem gX5_wind_X4_copyFrom : GoodIn wsX5_wind (wsV RX5 40 RX4 yX4_copyFrom wsX4_copyFrom) := goodIn_app (goodIn_of _ (by decide +kernel)) ggX5_wind_X4_copyFrom
set_option maxRecDepth 20000 in
theorem ggX5_wind_X5_tellWind : GoodIn wsX5_wind wsX5_tellWind := goodIn_r _ [25, 2, 26, 27, 20, 28, 29, 30, 31, 6, 32, 8, 33, 34, 35, 36, 37, 59, 60, 61, 62, 63, 64, 65, 66, 67, 68, 69, 70, 71, 72, 73, 74, 75] (by decide +kernel) (by decide +kernel)
set_option maxRecDepth 20000 in
theorem gX5_wind_X5_tellWind : GoodIn wsX5_wind (wsV RX5 55 RX5 yX5_tellWind wsX5_tellWind) := goodIn_app (goodIn_of _ (by decide +kernel)) ggX5_wind_X5_tellWind
set_option maxRecDepth 20000 in
theorem ggX5_wind_X5_recorded : GoodIn wsX5_wind wsX5_recorded := goodIn_r _ [41, 42, 1, 43, 44, 20, 45, 46, 47, 48, 49, 50, 51, 52, 53, 54, 55, 56, 57, 58, 4, 5, 6, 7, 8, 9, 10, 11, 12, 13, 14, 15, 16, 17, 18, 19, 21, 59, 60, 61, 62, 63, 64, 76, 77, 78, 65, 66, 67, 68, 69, 70, 71, 72, 73, 74, 75] (by decide +kernel) (by decide +kernel)
set_option maxRecDepth 20000 in
theorem gX5_wind_X5_recorded : GoodIn wsX5_wind (wsV RX5 48 RX5 yX5_recorded wsX5_recorded) := goodIn_app (goodIn_of _ (by decide +kernel)) ggX5_wind_X5_recorded
theorem dX5_wind_0 : decode cX5_wind 0 = .ok (.aload_n 0, 1) := by decide +kernel
theorem dX5_wind_1 : decode cX5_wind 1 = .ok (.getfield 16, 3) := by decide +kernel
theorem dX5_wind_4 : decode cX5_wind 4 = .ok (.aload_n 0, 1) := by decide +kernel
theorem dX5_wind_5 : decode cX5_wind 5 = .ok (.getfield 12, 3) := by decide +kernel
theorem dX5_wind_8 : decode cX5_wind 8 = .ok (.invokevirtual 40, 3) := by decide +kernel
theorem dX5_wind_11 : decode cX5_wind 11 = .ok (.aload_n 0, 1) := by decide +kernel
theorem dX5_wind_12 : decode cX5_wind 12 = .ok (.aload_n 0, 1) := by decide +kernel
theorem dX5_wind_13 : decode cX5_wind 13 = .ok (.iload_n 1, 1) := by decide +kernel
theorem dX5_wind_14 : decode cX5_wind 14 = .ok (.iload_n 2, 1) := by decide +kernel
theorem dX5_wind_15 : decode cX5_wind 15 = .ok (.iload_n 3, 1) := by decide +kernel
theorem dX5_wind_16 : decode cX5_wind 16 = .ok (.invokevirtual 55, 3) := by decide +kernel
theorem dX5_wind_19 : decode cX5_wind 19 = .ok (.invokevirtual 48, 3) := by decide +kernel
theorem dX5_wind_22 : decode cX5_wind 22 = .ok (.ireturn, 1) := by decide +kernel
set_option maxRecDepth 20000 in
theorem ggX5_set_X5_at : GoodIn wsX5_set wsX5_at := goodIn_r _ [9] (by decide +kernel) (by decide +kernel)
set_option maxRecDepth 20000 in
theorem gX5_set_X5_at : GoodIn wsX5_set (va_wsS RX5 66 yX5_at wsX5_at) := goodIn_app (goodIn_of _ (by decide +kernel)) ggX5_set_X5_at
set_option maxRecDepth 20000 in
theorem ggX5_set_X4_setting : GoodIn wsX5_set wsX4_setting := goodIn_r _ [14, 15, 7, 8, 9, 62, 63, 64, 65, 66, 67, 68, 69, 70, 71, 72] (by decide +kernel) (by decide +kernel)
set_option maxRecDepth 20000 in
theorem gX5_set_X4_setting : GoodIn wsX5_set (wsV RX5 73 RX4 yX4_setting wsX4_setting) := goodIn_app (goodIn_of _ (by decide +kernel)) ggX5_set_X4_setting
set_option maxRecDepth 20000 in
theorem ggX5_set_X4_copyFrom : GoodIn wsX5_set wsX4_copyFrom := goodIn_r _ [19, 20, 15, 21, 22, 23, 24, 25, 26, 27, 28, 29, 30, 8, 31, 62, 63, 64, 65, 66, 67, 68, 69, 70, 71, 72] (by decide +kernel) (by decide +kernel)
set_option maxRecDepth 20000 in
theorem gX5_set_X4_copyFrom : GoodIn wsX5_set (wsV RX5 40 RX4 yX4_copyFrom wsX4_copyFrom) := goodIn_app (goodIn_of _ (by decide +kernel)) ggX5_set_X4_copyFrom
set_option maxRecDepth 20000 in
theorem ggX5_set_X5_put : GoodIn wsX5_set wsX5_put := goodIn_r _ [34] (by decide +kernel) (by decide +kernel)
set_option maxRecDepth 20000 in
theorem gX5_set_X5_put : GoodIn wsX5_set (va_wsS RX5 79 yX5_put wsX5_put) := goodIn_app (goodIn_of _ (by decide +kernel)) ggX5_set_X5_put
set_option maxRecDepth 20000 in
theorem ggX5_set_X5_recorded : GoodIn wsX5_set wsX5_recorded := goodIn_r _ [38, 39, 5, 40, 41, 8, 42, 43, 44, 45, 46, 47, 48, 49, 50, 51, 52, 53, 54, 55, 17, 18, 13, 19, 20, 15, 21, 22, 23, 24, 25, 26, 27, 28, 29, 30, 31, 56, 57, 58, 59, 60, 61, 73, 74, 75, 62, 63, 64, 65, 66, 67, 68, 69, 70, 71, 72] (by decide +kernel) (by decide +kernel)
set_option maxRecDepth 20000 in
theorem gX5_set_X5_recorded : GoodIn wsX5_set (wsV RX5 48 RX5 yX5_recorded wsX5_recorded) := goodIn_app (goodIn_of _ (by decide +kernel)) ggX5_set_X5_recorded
theorem dX5_set_0 : decode cX5_set 0 = .ok (.iload_n 1, 1) := by decide +kernel
theorem dX5_set_1 : decode cX5_set 1 = .ok (.ifCond .lt 11, 3) := by decide +kernel
theorem dX5_set_4 : decode cX5_set 4 = .ok (.iload_n 1, 1) := by decide +kernel
theorem dX5_set_5 : decode cX5_set 5 = .ok (.getstatic 59, 3) := by decide +kernel
theorem dX5_set_8 : decode cX5_set 8 = .ok (.arraylength, 1) := by decide +kernel
theorem dX5_set_9 : decode cX5_set 9 = .ok (.if_icmp .lt 6, 3) := by decide +kernel
theorem dX5_set_12 : decode cX5_set 12 = .ok (.bipush (-2), 2) := by decide +kernel
theorem dX5_set_14 : decode cX5_set 14 = .ok (.ireturn, 1) := by decide +kernel
theorem dX5_set_15 : decode cX5_set 15 = .ok (.iload_n 2, 1) := by decide +kernel
theorem dX5_set_16 : decode cX5_set 16 = .ok (.getstatic 63, 3) := by decide +kernel
theorem dX5_set_19 : decode cX5_set 19 = .ok (.iload_n 1, 1) := by decide +kernel
theorem dX5_set_20 : decode cX5_set 20 = .ok (.invokestatic 66, 3) := by decide +kernel
theorem dX5_set_23 : decode cX5_set 23 = .ok (.if_icmp .lt 14, 3) := by decide +kernel
theorem dX5_set_26 : decode cX5_set 26 = .ok (.iload_n 2, 1) := by decide +kernel
theorem dX5_set_27 : decode cX5_set 27 = .ok (.getstatic 70, 3) := by decide +kernel
theorem dX5_set_30 : decode cX5_set 30 = .ok (.iload_n 1, 1) := by decide +kernel
theorem dX5_set_31 : decode cX5_set 31 = .ok (.invokestatic 66, 3) := by decide +kernel
theorem dX5_set_34 : decode cX5_set 34 = .ok (.if_icmp .le 6, 3) := by decide +kernel
theorem dX5_set_37 : decode cX5_set 37 = .ok (.bipush (-2), 2) := by decide +kernel
theorem dX5_set_39 : decode cX5_set 39 = .ok (.ireturn, 1) := by decide +kernel
theorem dX5_set_40 : decode cX5_set 40 = .ok (.aload_n 0, 1) := by decide +kernel
theorem dX5_set_41 : decode cX5_set 41 = .ok (.getfield 12, 3) := by decide +kernel
theorem dX5_set_44 : decode cX5_set 44 = .ok (.iload_n 1, 1) := by decide +kernel
theorem dX5_set_45 : decode cX5_set 45 = .ok (.invokevirtual 73, 3) := by decide +kernel
theorem dX5_set_48 : decode cX5_set 48 = .ok (.istore_n 3, 1) := by decide +kernel
theorem dX5_set_49 : decode cX5_set 49 = .ok (.iload_n 3, 1) := by decide +kernel
theorem dX5_set_50 : decode cX5_set 50 = .ok (.iload_n 2, 1) := by decide +kernel
theorem dX5_set_51 : decode cX5_set 51 = .ok (.if_icmp .ne 6, 3) := by decide +kernel
theorem dX5_set_54 : decode cX5_set 54 = .ok (.bipush (-5), 2) := by decide +kernel
theorem dX5_set_56 : decode cX5_set 56 = .ok (.ireturn, 1) := by decide +kernel
theorem dX5_set_57 : decode cX5_set 57 = .ok (.aload_n 0, 1) := by decide +kernel
theorem dX5_set_58 : decode cX5_set 58 = .ok (.getfield 16, 3) := by decide +kernel
theorem dX5_set_61 : decode cX5_set 61 = .ok (.aload_n 0, 1) := by decide +kernel
theorem dX5_set_62 : decode cX5_set 62 = .ok (.getfield 12, 3) := by decide +kernel
theorem dX5_set_65 : decode cX5_set 65 = .ok (.invokevirtual 40, 3) := by decide +kernel
theorem dX5_set_68 : decode cX5_set 68 = .ok (.aload_n 0, 1) := by decide +kernel
theorem dX5_set_69 : decode cX5_set 69 = .ok (.getfield 12, 3) := by decide +kernel
theorem dX5_set_72 : decode cX5_set 72 = .ok (.getfield 76, 3) := by decide +kernel
theorem dX5_set_75 : decode cX5_set 75 = .ok (.iload_n 1, 1) := by decide +kernel
theorem dX5_set_76 : decode cX5_set 76 = .ok (.iload_n 2, 1) := by decide +kernel
theorem dX5_set_77 : decode cX5_set 77 = .ok (.invokestatic 79, 3) := by decide +kernel
theorem dX5_set_80 : decode cX5_set 80 = .ok (.aload_n 0, 1) := by decide +kernel
theorem dX5_set_81 : decode cX5_set 81 = .ok (.iload_n 3, 1) := by decide +kernel
theorem dX5_set_82 : decode cX5_set 82 = .ok (.invokevirtual 48, 3) := by decide +kernel
theorem dX5_set_85 : decode cX5_set 85 = .ok (.ireturn, 1) := by decide +kernel
set_option maxRecDepth 20000 in
theorem ggX5_doAll_X3_firstFault : GoodIn wsX5_doAll wsX3_firstFault := goodIn_r _ [8, 9, 10, 11, 12, 7, 13, 14, 15, 16, 17, 18, 19, 20, 21, 22, 23, 24, 25, 26, 27, 28, 29, 30, 31, 32, 33, 34, 35, 36, 246, 247] (by decide +kernel) (by decide +kernel)
set_option maxRecDepth 20000 in
theorem gX5_doAll_X3_firstFault : GoodIn wsX5_doAll (wsV RX5 83 RX3 yX3_firstFault wsX3_firstFault) := goodIn_app (goodIn_of _ (by decide +kernel)) ggX5_doAll_X3_firstFault
set_option maxRecDepth 20000 in
theorem ggX5_doAll_X4_copyFrom : GoodIn wsX5_doAll wsX4_copyFrom := goodIn_r _ [41, 42, 43, 44, 45, 46, 47, 48, 49, 50, 51, 52, 53, 54, 55, 248, 249, 250, 251, 252, 253, 254, 255, 256, 257, 258] (by decide +kernel) (by decide +kernel)
set_option maxRecDepth 20000 in
theorem gX5_doAll_X4_copyFrom : GoodIn wsX5_doAll (wsV RX5 40 RX4 yX4_copyFrom wsX4_copyFrom) := goodIn_app (goodIn_of _ (by decide +kernel)) ggX5_doAll_X4_copyFrom
set_option maxRecDepth 20000 in
theorem ggX5_doAll_X3_signAt : GoodIn wsX5_doAll wsX3_signAt := goodIn_r _ [13, 9, 14, 246, 247] (by decide +kernel) (by decide +kernel)
set_option maxRecDepth 20000 in
theorem gX5_doAll_X3_signAt : GoodIn wsX5_doAll (wsV RX5 91 RX3 yX3_signAt wsX3_signAt) := goodIn_app (goodIn_of _ (by decide +kernel)) ggX5_doAll_X3_signAt
set_option maxRecDepth 20000 in
theorem ggX5_doAll_X5_doPart : GoodIn wsX5_doAll wsX5_doPart := goodIn_r _ [60, 1, 56, 11, 12, 7, 13, 9, 14, 61, 62, 63, 64, 10, 65, 66, 67, 68, 69, 70, 71, 72, 54, 73, 3, 74, 75, 76, 77, 78, 79, 40, 80, 81, 82, 83, 84, 47, 45, 85, 86, 87, 88, 89, 90, 91, 92, 93, 50, 49, 94, 95, 96, 97, 98, 99, 100, 101, 102, 103, 104, 105, 106, 107, 108, 109, 110, 111, 112, 113, 114, 115, 42, 116, 117, 118, 119, 120, 121, 122, 123, 124, 125, 126, 127, 128, 129, 130, 131, 132, 133, 134, 135, 51, 136, 137, 138, 139, 52, 140, 141, 142, 143, 144, 145, 146, 147, 148, 149, 150, 48, 151, 152, 153, 154, 155, 156, 157, 158, 159, 160, 161, 162, 163, 46, 164, 165, 166, 167, 168, 169, 170, 171, 172, 173, 174, 175, 176, 177, 178, 179, 180, 181, 182, 183, 184, 185, 43, 186, 187, 188, 189, 190, 191, 192, 193, 194, 195, 196, 197, 198, 199, 200, 201, 202, 203, 204, 205, 206, 207, 208, 209, 210, 211, 212, 213, 214, 215, 216, 217, 218, 219, 220, 221, 240, 241, 242, 243, 244, 245, 246, 247, 248, 249, 250, 251, 252, 253, 254, 255, 256, 257, 258] (by decide +kernel) (by decide +kernel)
set_option maxRecDepth 20000 in
theorem gX5_doAll_X5_doPart : GoodIn wsX5_doAll (wsV RX5 95 RX5 yX5_doPart wsX5_doPart) := goodIn_app (goodIn_of _ (by decide +kernel)) ggX5_doAll_X5_doPart
set_option maxRecDepth 20000 in
theorem ggX5_doAll_X5_recorded : GoodIn wsX5_doAll wsX5_recorded := goodIn_r _ [225, 226, 2, 198, 199, 54, 200, 227, 228, 229, 230, 231, 232, 233, 234, 235, 236, 237, 238, 239, 38, 39, 40, 41, 42, 43, 44, 45, 46, 47, 48, 49, 50, 51, 52, 53, 55, 240, 241, 242, 243, 244, 245, 259, 260, 261, 248, 249, 250, 251, 252, 253, 254, 255, 256, 257, 258] (by decide +kernel) (by decide +kernel)
set_option maxRecDepth 20000 in
theorem gX5_doAll_X5_recorded : GoodIn wsX5_doAll (wsV RX5 48 RX5 yX5_recorded wsX5_recorded) := goodIn_app (goodIn_of _ (by decide +kernel)) ggX5_doAll_X5_recorded
theorem dX5_doAll_0 : decode cX5_doAll 0 = .ok (.aload_n 0, 1) := by decide +kernel
theorem dX5_doAll_1 : decode cX5_doAll 1 = .ok (.getfield 36, 3) := by decide +kernel
theorem dX5_doAll_4 : decode cX5_doAll 4 = .ok (.invokevirtual 83, 3) := by decide +kernel
theorem dX5_doAll_7 : decode cX5_doAll 7 = .ok (.istore_n 1, 1) := by decide +kernel
theorem dX5_doAll_8 : decode cX5_doAll 8 = .ok (.iload_n 1, 1) := by decide +kernel
theorem dX5_doAll_9 : decode cX5_doAll 9 = .ok (.bipush (-5), 2) := by decide +kernel
theorem dX5_doAll_11 : decode cX5_doAll 11 = .ok (.if_icmp .eq 8, 3) := by decide +kernel
theorem dX5_doAll_14 : decode cX5_doAll 14 = .ok (.bipush (-100), 2) := by decide +kernel
theorem dX5_doAll_16 : decode cX5_doAll 16 = .ok (.iload_n 1, 1) := by decide +kernel
theorem dX5_doAll_17 : decode cX5_doAll 17 = .ok (.isub, 1) := by decide +kernel
theorem dX5_doAll_18 : decode cX5_doAll 18 = .ok (.ireturn, 1) := by decide +kernel
theorem dX5_doAll_19 : decode cX5_doAll 19 = .ok (.aload_n 0, 1) := by decide +kernel
theorem dX5_doAll_20 : decode cX5_doAll 20 = .ok (.getfield 16, 3) := by decide +kernel
theorem dX5_doAll_23 : decode cX5_doAll 23 = .ok (.aload_n 0, 1) := by decide +kernel
theorem dX5_doAll_24 : decode cX5_doAll 24 = .ok (.getfield 12, 3) := by decide +kernel
theorem dX5_doAll_27 : decode cX5_doAll 27 = .ok (.invokevirtual 40, 3) := by decide +kernel
theorem dX5_doAll_30 : decode cX5_doAll 30 = .ok (.iconst 0, 1) := by decide +kernel
theorem dX5_doAll_31 : decode cX5_doAll 31 = .ok (.istore_n 2, 1) := by decide +kernel
theorem dX5_doAll_32 : decode cX5_doAll 32 = .ok (.iconst 0, 1) := by decide +kernel
theorem dX5_doAll_33 : decode cX5_doAll 33 = .ok (.istore_n 3, 1) := by decide +kernel
theorem dX5_doAll_34 : decode cX5_doAll 34 = .ok (.iconst 0, 1) := by decide +kernel
theorem dX5_doAll_35 : decode cX5_doAll 35 = .ok (.istore 4, 2) := by decide +kernel
theorem dX5_doAll_37 : decode cX5_doAll 37 = .ok (.iload 4, 2) := by decide +kernel
theorem dX5_doAll_39 : decode cX5_doAll 39 = .ok (.aload_n 0, 1) := by decide +kernel
theorem dX5_doAll_40 : decode cX5_doAll 40 = .ok (.getfield 36, 3) := by decide +kernel
theorem dX5_doAll_43 : decode cX5_doAll 43 = .ok (.getfield 87, 3) := by decide +kernel
theorem dX5_doAll_46 : decode cX5_doAll 46 = .ok (.if_icmp .gt 86, 3) := by decide +kernel
theorem dX5_doAll_49 : decode cX5_doAll 49 = .ok (.iload 4, 2) := by decide +kernel
theorem dX5_doAll_51 : decode cX5_doAll 51 = .ok (.aload_n 0, 1) := by decide +kernel
theorem dX5_doAll_52 : decode cX5_doAll 52 = .ok (.getfield 36, 3) := by decide +kernel
theorem dX5_doAll_55 : decode cX5_doAll 55 = .ok (.getfield 87, 3) := by decide +kernel
theorem dX5_doAll_58 : decode cX5_doAll 58 = .ok (.if_icmp .eq 17, 3) := by decide +kernel
theorem dX5_doAll_61 : decode cX5_doAll 61 = .ok (.aload_n 0, 1) := by decide +kernel
theorem dX5_doAll_62 : decode cX5_doAll 62 = .ok (.getfield 36, 3) := by decide +kernel
theorem dX5_doAll_65 : decode cX5_doAll 65 = .ok (.iload 4, 2) := by decide +kernel
theorem dX5_doAll_67 : decode cX5_doAll 67 = .ok (.invokevirtual 91, 3) := by decide +kernel
theorem dX5_doAll_70 : decode cX5_doAll 70 = .ok (.bipush 59, 2) := by decide +kernel
theorem dX5_doAll_72 : decode cX5_doAll 72 = .ok (.if_icmp .ne 54, 3) := by decide +kernel
theorem dX5_doAll_75 : decode cX5_doAll 75 = .ok (.aload_n 0, 1) := by decide +kernel
theorem dX5_doAll_76 : decode cX5_doAll 76 = .ok (.iload_n 3, 1) := by decide +kernel
theorem dX5_doAll_77 : decode cX5_doAll 77 = .ok (.iload 4, 2) := by decide +kernel
theorem dX5_doAll_79 : decode cX5_doAll 79 = .ok (.invokevirtual 95, 3) := by decide +kernel
theorem dX5_doAll_82 : decode cX5_doAll 82 = .ok (.istore 5, 2) := by decide +kernel
theorem dX5_doAll_84 : decode cX5_doAll 84 = .ok (.iload 5, 2) := by decide +kernel
theorem dX5_doAll_86 : decode cX5_doAll 86 = .ok (.iconst (-1), 1) := by decide +kernel
theorem dX5_doAll_87 : decode cX5_doAll 87 = .ok (.if_icmp .eq 17, 3) := by decide +kernel
theorem dX5_doAll_90 : decode cX5_doAll 90 = .ok (.iload 5, 2) := by decide +kernel
theorem dX5_doAll_92 : decode cX5_doAll 92 = .ok (.bipush (-4), 2) := by decide +kernel
theorem dX5_doAll_94 : decode cX5_doAll 94 = .ok (.if_icmp .eq 10, 3) := by decide +kernel
theorem dX5_doAll_97 : decode cX5_doAll 97 = .ok (.iload 5, 2) := by decide +kernel
theorem dX5_doAll_99 : decode cX5_doAll 99 = .ok (.bipush (-3), 2) := by decide +kernel
theorem dX5_doAll_101 : decode cX5_doAll 101 = .ok (.if_icmp .ne 17, 3) := by decide +kernel
theorem dX5_doAll_104 : decode cX5_doAll 104 = .ok (.aload_n 0, 1) := by decide +kernel
theorem dX5_doAll_105 : decode cX5_doAll 105 = .ok (.getfield 12, 3) := by decide +kernel
theorem dX5_doAll_108 : decode cX5_doAll 108 = .ok (.aload_n 0, 1) := by decide +kernel
theorem dX5_doAll_109 : decode cX5_doAll 109 = .ok (.getfield 16, 3) := by decide +kernel
theorem dX5_doAll_112 : decode cX5_doAll 112 = .ok (.invokevirtual 40, 3) := by decide +kernel
theorem dX5_doAll_115 : decode cX5_doAll 115 = .ok (.iload 5, 2) := by decide +kernel
theorem dX5_doAll_117 : decode cX5_doAll 117 = .ok (.ireturn, 1) := by decide +kernel
theorem dX5_doAll_118 : decode cX5_doAll 118 = .ok (.iinc 2 1, 3) := by decide +kernel
theorem dX5_doAll_121 : decode cX5_doAll 121 = .ok (.iload 4, 2) := by decide +kernel
theorem dX5_doAll_123 : decode cX5_doAll 123 = .ok (.iconst 1, 1) := by decide +kernel
theorem dX5_doAll_124 : decode cX5_doAll 124 = .ok (.iadd, 1) := by decide +kernel
theorem dX5_doAll_125 : decode cX5_doAll 125 = .ok (.istore_n 3, 1) := by decide +kernel
theorem dX5_doAll_126 : decode cX5_doAll 126 = .ok (.iinc 4 1, 3) := by decide +kernel
theorem dX5_doAll_129 : decode cX5_doAll 129 = .ok (.goto (-92), 3) := by decide +kernel
theorem dX5_doAll_132 : decode cX5_doAll 132 = .ok (.aload_n 0, 1) := by decide +kernel
theorem dX5_doAll_133 : decode cX5_doAll 133 = .ok (.iload_n 2, 1) := by decide +kernel
theorem dX5_doAll_134 : decode cX5_doAll 134 = .ok (.invokevirtual 48, 3) := by decide +kernel
theorem dX5_doAll_137 : decode cX5_doAll 137 = .ok (.ireturn, 1) := by decide +kernel
set_option maxRecDepth 20000 in
theorem ggX5_complain_X4_copyFrom : GoodIn wsX5_complain wsX4_copyFrom := goodIn_r _ [7, 8, 9, 10, 11, 12, 13, 14, 15, 16, 17, 18, 19, 20, 21, 162, 163, 164, 165, 166, 167, 168, 169, 170, 171, 172] (by decide +kernel) (by decide +kernel)
set_option maxRecDepth 20000 in
theorem gX5_complain_X4_copyFrom : GoodIn wsX5_complain (wsV RX5 40 RX4 yX4_copyFrom wsX4_copyFrom) := goodIn_app (goodIn_of _ (by decide +kernel)) ggX5_complain_X4_copyFrom
set_option maxRecDepth 20000 in
theorem ggX5_complain_X5_lodge : GoodIn wsX5_complain wsX5_lodge := goodIn_r _ [25, 2, 26, 27, 28, 6, 29, 30, 31, 32, 33, 15, 34, 35, 36, 37, 11, 38, 20, 39, 40, 41, 42, 43, 17, 44, 45, 46, 47, 48, 49, 18, 50, 51, 52, 53, 54, 55, 56, 57, 58, 59, 60, 14, 61, 62, 63, 64, 65, 66, 67, 68, 8, 69, 70, 71, 72, 73, 74, 75, 76, 16, 13, 12, 77, 78, 79, 80, 81, 82, 83, 84, 85, 86, 87, 88, 89, 90, 91, 92, 93, 94, 95, 96, 97, 98, 9, 99, 100, 101, 102, 103, 104, 105, 106, 107, 108, 109, 110, 111, 112, 113, 114, 115, 116, 117, 118, 119, 120, 121, 122, 123, 124, 125, 126, 127, 128, 129, 130, 131, 132, 133, 134, 135, 136, 137, 156, 157, 158, 159, 160, 161, 162, 163, 164, 165, 166, 167, 168, 169, 170, 171, 172] (by decide +kernel) (by decide +kernel)
set_option maxRecDepth 20000 in
theorem gX5_complain_X5_lodge : GoodIn wsX5_complain (wsV RX5 98 RX5 yX5_lodge wsX5_lodge) := goodIn_app (goodIn_of _ (by decide +kernel)) ggX5_complain_X5_lodge
set_option maxRecDepth 20000 in
theorem ggX5_complain_X5_recorded : GoodIn wsX5_complain wsX5_recorded := goodIn_r _ [141, 142, 1, 111, 112, 20, 113, 143, 144, 145, 146, 147, 148, 149, 150, 151, 152, 153, 154, 155, 4, 5, 6, 7, 8, 9, 10, 11, 12, 13, 14, 15, 16, 17, 18, 19, 21, 156, 157, 158, 159, 160, 161, 173, 174, 175, 162, 163, 164, 165, 166, 167, 168, 169, 170, 171, 172] (by decide +kernel) (by decide +kernel)
set_option maxRecDepth 20000 in
theorem gX5_complain_X5_recorded : GoodIn wsX5_complain (wsV RX5 48 RX5 yX5_recorded wsX5_recorded) := goodIn_app (goodIn_of _ (by decide +kernel)) ggX5_complain_X5_recorded
theorem dX5_complain_0 : decode cX5_complain 0 = .ok (.aload_n 0, 1) := by decide +kernel
theorem dX5_complain_1 : decode cX5_complain 1 = .ok (.getfield 16, 3) := by decide +kernel
theorem dX5_complain_4 : decode cX5_complain 4 = .ok (.aload_n 0, 1) := by decide +kernel
theorem dX5_complain_5 : decode cX5_complain 5 = .ok (.getfield 12, 3) := by decide +kernel
theorem dX5_complain_8 : decode cX5_complain 8 = .ok (.invokevirtual 40, 3) := by decide +kernel
theorem dX5_complain_11 : decode cX5_complain 11 = .ok (.aload_n 0, 1) := by decide +kernel
theorem dX5_complain_12 : decode cX5_complain 12 = .ok (.aload_n 0, 1) := by decide +kernel
theorem dX5_complain_13 : decode cX5_complain 13 = .ok (.iload_n 1, 1) := by decide +kernel
theorem dX5_complain_14 : decode cX5_complain 14 = .ok (.iload_n 2, 1) := by decide +kernel
theorem dX5_complain_15 : decode cX5_complain 15 = .ok (.iload_n 3, 1) := by decide +kernel
theorem dX5_complain_16 : decode cX5_complain 16 = .ok (.iload 4, 2) := by decide +kernel
theorem dX5_complain_18 : decode cX5_complain 18 = .ok (.invokevirtual 98, 3) := by decide +kernel
theorem dX5_complain_21 : decode cX5_complain 21 = .ok (.invokevirtual 48, 3) := by decide +kernel
theorem dX5_complain_24 : decode cX5_complain 24 = .ok (.ireturn, 1) := by decide +kernel
set_option maxRecDepth 20000 in
theorem ggX5_sue_X4_hasMill : GoodIn wsX5_sue wsX4_hasMill := goodIn_r _ [7, 8, 121, 122, 123, 124, 125, 126, 127, 128, 129, 130, 131] (by decide +kernel) (by decide +kernel)
set_option maxRecDepth 20000 in
theorem gX5_sue_X4_hasMill : GoodIn wsX5_sue (wsV RX5 102 RX4 yX4_hasMill wsX4_hasMill) := goodIn_app (goodIn_of _ (by decide +kernel)) ggX5_sue_X4_hasMill
set_option maxRecDepth 20000 in
theorem ggX5_sue_X4_hasHouse : GoodIn wsX5_sue wsX4_hasHouse := goodIn_r _ [12, 13, 121, 122, 123, 124, 125, 126, 127, 128, 129, 130, 131] (by decide +kernel) (by decide +kernel)
set_option maxRecDepth 20000 in
theorem gX5_sue_X4_hasHouse : GoodIn wsX5_sue (wsV RX5 106 RX4 yX4_hasHouse wsX4_hasHouse) := goodIn_app (goodIn_of _ (by decide +kernel)) ggX5_sue_X4_hasHouse
set_option maxRecDepth 20000 in
theorem ggX5_sue_X5_isHour : GoodIn wsX5_sue wsX5_isHour := goodIn_r _ [17] (by decide +kernel) (by decide +kernel)
set_option maxRecDepth 20000 in
theorem gX5_sue_X5_isHour : GoodIn wsX5_sue (va_wsS RX5 109 yX5_isHour wsX5_isHour) := goodIn_app (goodIn_of _ (by decide +kernel)) ggX5_sue_X5_isHour
set_option maxRecDepth 20000 in
theorem ggX5_sue_X4_isTied : GoodIn wsX5_sue wsX4_isTied := goodIn_r _ [21, 22, 23, 24, 6, 25, 26, 27, 16, 28, 121, 122, 123, 124, 125, 126, 127, 128, 129, 130, 131] (by decide +kernel) (by decide +kernel)
set_option maxRecDepth 20000 in
theorem gX5_sue_X4_isTied : GoodIn wsX5_sue (wsV RX5 112 RX4 yX4_isTied wsX4_isTied) := goodIn_app (goodIn_of _ (by decide +kernel)) ggX5_sue_X4_isTied
set_option maxRecDepth 20000 in
theorem ggX5_sue_X4_standingFor : GoodIn wsX5_sue wsX4_standingFor := goodIn_r _ [32, 33, 34, 35, 6, 36, 37, 38, 39, 40, 27, 16, 28, 121, 122, 123, 124, 125, 126, 127, 128, 129, 130, 131] (by decide +kernel) (by decide +kernel)
set_option maxRecDepth 20000 in
theorem gX5_sue_X4_standingFor : GoodIn wsX5_sue (wsV RX5 116 RX4 yX4_standingFor wsX4_standingFor) := goodIn_app (goodIn_of _ (by decide +kernel)) ggX5_sue_X4_standingFor
set_option maxRecDepth 20000 in
theorem ggX5_sue_X4_copyFrom : GoodIn wsX5_sue wsX4_copyFrom := goodIn_r _ [44, 45, 46, 47, 8, 48, 49, 26, 13, 50, 51, 37, 52, 16, 53, 121, 122, 123, 124, 125, 126, 127, 128, 129, 130, 131] (by decide +kernel) (by decide +kernel)
set_option maxRecDepth 20000 in
theorem gX5_sue_X4_copyFrom : GoodIn wsX5_sue (wsV RX5 40 RX4 yX4_copyFrom wsX4_copyFrom) := goodIn_app (goodIn_of _ (by decide +kernel)) ggX5_sue_X4_copyFrom
set_option maxRecDepth 20000 in
theorem ggX5_sue_X5_add : GoodIn wsX5_sue wsX5_add := goodIn_r _ [56, 57, 27, 16, 28, 58, 59, 60] (by decide +kernel) (by decide +kernel)
set_option maxRecDepth 20000 in
theorem gX5_sue_X5_add : GoodIn wsX5_sue (va_wsS RX5 122 yX5_add wsX5_add) := goodIn_app (goodIn_of _ (by decide +kernel)) ggX5_sue_X5_add
set_option maxRecDepth 20000 in
theorem ggX5_sue_X4_windAt : GoodIn wsX5_sue wsX4_windAt := goodIn_r _ [64, 45, 27, 16, 28, 121, 122, 123, 124, 125, 126, 127, 128, 129, 130, 131] (by decide +kernel) (by decide +kernel)
set_option maxRecDepth 20000 in
theorem gX5_sue_X4_windAt : GoodIn wsX5_sue (wsV RX5 125 RX4 yX4_windAt wsX4_windAt) := goodIn_app (goodIn_of _ (by decide +kernel)) ggX5_sue_X4_windAt
set_option maxRecDepth 20000 in
theorem ggX5_sue_X4_tiedHours : GoodIn wsX5_sue wsX4_tiedHours := goodIn_r _ [25, 26, 27, 16, 28, 121, 122, 123, 124, 125, 126, 127, 128, 129, 130, 131] (by decide +kernel) (by decide +kernel)
set_option maxRecDepth 20000 in
theorem gX5_sue_X4_tiedHours : GoodIn wsX5_sue (wsV RX5 128 RX4 yX4_tiedHours wsX4_tiedHours) := goodIn_app (goodIn_of _ (by decide +kernel)) ggX5_sue_X4_tiedHours
set_option maxRecDepth 20000 in
theorem ggX5_sue_J6_bitCount_0f7a4 : GoodIn wsX5_sue wsJ6_bitCount_0f7a4 := goodIn_r _ [69, 70, 71, 72] (by decide +kernel) (by decide +kernel)
set_option maxRecDepth 20000 in
theorem gX5_sue_J6_bitCount_0f7a4 : GoodIn wsX5_sue (va_wsS RX5 131 yJ6_bitCount_0f7a4 wsJ6_bitCount_0f7a4) := goodIn_app (goodIn_of _ (by decide +kernel)) ggX5_sue_J6_bitCount_0f7a4
set_option maxRecDepth 20000 in
theorem ggX5_sue_X4_setting : GoodIn wsX5_sue wsX4_setting := goodIn_r _ [76, 46, 27, 16, 28, 121, 122, 123, 124, 125, 126, 127, 128, 129, 130, 131] (by decide +kernel) (by decide +kernel)
set_option maxRecDepth 20000 in
theorem gX5_sue_X4_setting : GoodIn wsX5_sue (wsV RX5 73 RX4 yX4_setting wsX4_setting) := goodIn_app (goodIn_of _ (by decide +kernel)) ggX5_sue_X4_setting
set_option maxRecDepth 20000 in
theorem ggX5_sue_X5_recorded : GoodIn wsX5_sue wsX5_recorded := goodIn_r _ [80, 81, 2, 82, 83, 16, 84, 85, 86, 87, 88, 89, 90, 91, 92, 93, 94, 95, 96, 97, 42, 43, 6, 44, 45, 46, 47, 8, 48, 49, 26, 13, 50, 51, 37, 52, 53, 115, 116, 117, 118, 119, 120, 132, 133, 134, 121, 122, 123, 124, 125, 126, 127, 128, 129, 130, 131] (by decide +kernel) (by decide +kernel)
set_option maxRecDepth 20000 in
theorem gX5_sue_X5_recorded : GoodIn wsX5_sue (wsV RX5 48 RX5 yX5_recorded wsX5_recorded) := goodIn_app (goodIn_of _ (by decide +kernel)) ggX5_sue_X5_recorded
set_option maxRecDepth 20000 in
theorem ggX5_sue_X5_winSuit : GoodIn wsX5_sue wsX5_winSuit := goodIn_r _ [101, 1, 54, 55, 16, 56, 57, 27, 28, 58, 59, 60, 102, 103, 104, 6, 105, 37, 38, 39, 40, 106, 107, 108, 109, 13, 110, 30, 31, 32, 33, 34, 35, 36, 73, 74, 75, 76, 46, 111, 112, 113, 114, 26, 22, 23, 24, 25, 115, 116, 117, 118, 119, 120, 121, 122, 123, 124, 125, 126, 127, 128, 129, 130, 131] (by decide +kernel) (by decide +kernel)
set_option maxRecDepth 20000 in
theorem gX5_sue_X5_winSuit : GoodIn wsX5_sue (wsV RX5 136 RX5 yX5_winSuit wsX5_winSuit) := goodIn_app (goodIn_of _ (by decide +kernel)) ggX5_sue_X5_winSuit
theorem dX5_sue_0 : decode cX5_sue 0 = .ok (.aload_n 0, 1) := by decide +kernel
theorem dX5_sue_1 : decode cX5_sue 1 = .ok (.getfield 12, 3) := by decide +kernel
theorem dX5_sue_4 : decode cX5_sue 4 = .ok (.iload_n 1, 1) := by decide +kernel
theorem dX5_sue_5 : decode cX5_sue 5 = .ok (.invokevirtual 102, 3) := by decide +kernel
theorem dX5_sue_8 : decode cX5_sue 8 = .ok (.ifCond .eq 21, 3) := by decide +kernel
theorem dX5_sue_11 : decode cX5_sue 11 = .ok (.aload_n 0, 1) := by decide +kernel
theorem dX5_sue_12 : decode cX5_sue 12 = .ok (.getfield 12, 3) := by decide +kernel
theorem dX5_sue_15 : decode cX5_sue 15 = .ok (.iload_n 2, 1) := by decide +kernel
theorem dX5_sue_16 : decode cX5_sue 16 = .ok (.invokevirtual 106, 3) := by decide +kernel
theorem dX5_sue_19 : decode cX5_sue 19 = .ok (.ifCond .eq 10, 3) := by decide +kernel
theorem dX5_sue_22 : decode cX5_sue 22 = .ok (.iload_n 3, 1) := by decide +kernel
theorem dX5_sue_23 : decode cX5_sue 23 = .ok (.invokestatic 109, 3) := by decide +kernel
theorem dX5_sue_26 : decode cX5_sue 26 = .ok (.ifCond .ne 5, 3) := by decide +kernel
theorem dX5_sue_29 : decode cX5_sue 29 = .ok (.iconst (-1), 1) := by decide +kernel
theorem dX5_sue_30 : decode cX5_sue 30 = .ok (.ireturn, 1) := by decide +kernel
theorem dX5_sue_31 : decode cX5_sue 31 = .ok (.aload_n 0, 1) := by decide +kernel
theorem dX5_sue_32 : decode cX5_sue 32 = .ok (.getfield 12, 3) := by decide +kernel
theorem dX5_sue_35 : decode cX5_sue 35 = .ok (.iload_n 1, 1) := by decide +kernel
theorem dX5_sue_36 : decode cX5_sue 36 = .ok (.iload_n 3, 1) := by decide +kernel
theorem dX5_sue_37 : decode cX5_sue 37 = .ok (.invokevirtual 112, 3) := by decide +kernel
theorem dX5_sue_40 : decode cX5_sue 40 = .ok (.ifCond .eq 16, 3) := by decide +kernel
theorem dX5_sue_43 : decode cX5_sue 43 = .ok (.aload_n 0, 1) := by decide +kernel
theorem dX5_sue_44 : decode cX5_sue 44 = .ok (.getfield 12, 3) := by decide +kernel
theorem dX5_sue_47 : decode cX5_sue 47 = .ok (.iload_n 2, 1) := by decide +kernel
theorem dX5_sue_48 : decode cX5_sue 48 = .ok (.iload_n 1, 1) := by decide +kernel
theorem dX5_sue_49 : decode cX5_sue 49 = .ok (.iload_n 3, 1) := by decide +kernel
theorem dX5_sue_50 : decode cX5_sue 50 = .ok (.invokevirtual 116, 3) := by decide +kernel
theorem dX5_sue_53 : decode cX5_sue 53 = .ok (.ifCond .ne 6, 3) := by decide +kernel
theorem dX5_sue_56 : decode cX5_sue 56 = .ok (.bipush (-4), 2) := by decide +kernel
theorem dX5_sue_58 : decode cX5_sue 58 = .ok (.ireturn, 1) := by decide +kernel
theorem dX5_sue_59 : decode cX5_sue 59 = .ok (.aload_n 0, 1) := by decide +kernel
theorem dX5_sue_60 : decode cX5_sue 60 = .ok (.getfield 16, 3) := by decide +kernel
theorem dX5_sue_63 : decode cX5_sue 63 = .ok (.aload_n 0, 1) := by decide +kernel
theorem dX5_sue_64 : decode cX5_sue 64 = .ok (.getfield 12, 3) := by decide +kernel
theorem dX5_sue_67 : decode cX5_sue 67 = .ok (.invokevirtual 40, 3) := by decide +kernel
theorem dX5_sue_70 : decode cX5_sue 70 = .ok (.aload_n 0, 1) := by decide +kernel
theorem dX5_sue_71 : decode cX5_sue 71 = .ok (.getfield 12, 3) := by decide +kernel
theorem dX5_sue_74 : decode cX5_sue 74 = .ok (.getfield 119, 3) := by decide +kernel
theorem dX5_sue_77 : decode cX5_sue 77 = .ok (.iconst 2, 1) := by decide +kernel
theorem dX5_sue_78 : decode cX5_sue 78 = .ok (.iconst 1, 1) := by decide +kernel
theorem dX5_sue_79 : decode cX5_sue 79 = .ok (.invokestatic 122, 3) := by decide +kernel
theorem dX5_sue_82 : decode cX5_sue 82 = .ok (.aload_n 0, 1) := by decide +kernel
theorem dX5_sue_83 : decode cX5_sue 83 = .ok (.getfield 12, 3) := by decide +kernel
theorem dX5_sue_86 : decode cX5_sue 86 = .ok (.iload_n 3, 1) := by decide +kernel
theorem dX5_sue_87 : decode cX5_sue 87 = .ok (.invokevirtual 125, 3) := by decide +kernel
theorem dX5_sue_90 : decode cX5_sue 90 = .ok (.aload_n 0, 1) := by decide +kernel
theorem dX5_sue_91 : decode cX5_sue 91 = .ok (.getfield 12, 3) := by decide +kernel
theorem dX5_sue_94 : decode cX5_sue 94 = .ok (.iload_n 1, 1) := by decide +kernel
theorem dX5_sue_95 : decode cX5_sue 95 = .ok (.invokevirtual 128, 3) := by decide +kernel
theorem dX5_sue_98 : decode cX5_sue 98 = .ok (.invokestatic 131, 3) := by decide +kernel
theorem dX5_sue_101 : decode cX5_sue 101 = .ok (.imul, 1) := by decide +kernel
theorem dX5_sue_102 : decode cX5_sue 102 = .ok (.istore 4, 2) := by decide +kernel
theorem dX5_sue_104 : decode cX5_sue 104 = .ok (.iload 4, 2) := by decide +kernel
theorem dX5_sue_106 : decode cX5_sue 106 = .ok (.aload_n 0, 1) := by decide +kernel
theorem dX5_sue_107 : decode cX5_sue 107 = .ok (.getfield 12, 3) := by decide +kernel
theorem dX5_sue_110 : decode cX5_sue 110 = .ok (.iconst 3, 1) := by decide +kernel
theorem dX5_sue_111 : decode cX5_sue 111 = .ok (.invokevirtual 73, 3) := by decide +kernel
theorem dX5_sue_114 : decode cX5_sue 114 = .ok (.if_icmp .gt 9, 3) := by decide +kernel
theorem dX5_sue_117 : decode cX5_sue 117 = .ok (.aload_n 0, 1) := by decide +kernel
theorem dX5_sue_118 : decode cX5_sue 118 = .ok (.iconst 0, 1) := by decide +kernel
theorem dX5_sue_119 : decode cX5_sue 119 = .ok (.invokevirtual 48, 3) := by decide +kernel
theorem dX5_sue_122 : decode cX5_sue 122 = .ok (.ireturn, 1) := by decide +kernel
theorem dX5_sue_123 : decode cX5_sue 123 = .ok (.aload_n 0, 1) := by decide +kernel
theorem dX5_sue_124 : decode cX5_sue 124 = .ok (.iload_n 1, 1) := by decide +kernel
theorem dX5_sue_125 : decode cX5_sue 125 = .ok (.iload_n 2, 1) := by decide +kernel
theorem dX5_sue_126 : decode cX5_sue 126 = .ok (.iload_n 3, 1) := by decide +kernel
theorem dX5_sue_127 : decode cX5_sue 127 = .ok (.invokevirtual 136, 3) := by decide +kernel
theorem dX5_sue_130 : decode cX5_sue 130 = .ok (.aload_n 0, 1) := by decide +kernel
theorem dX5_sue_131 : decode cX5_sue 131 = .ok (.iconst 1, 1) := by decide +kernel
theorem dX5_sue_132 : decode cX5_sue 132 = .ok (.invokevirtual 48, 3) := by decide +kernel
theorem dX5_sue_135 : decode cX5_sue 135 = .ok (.ireturn, 1) := by decide +kernel
set_option maxRecDepth 20000 in
theorem ggX5_vote_X4_hasMill : GoodIn wsX5_vote wsX4_hasMill := goodIn_r _ [7, 8, 139, 140, 141, 142, 143, 144, 145, 146, 147, 148, 149] (by decide +kernel) (by decide +kernel)
set_option maxRecDepth 20000 in
theorem gX5_vote_X4_hasMill : GoodIn wsX5_vote (wsV RX5 102 RX4 yX4_hasMill wsX4_hasMill) := goodIn_app (goodIn_of _ (by decide +kernel)) ggX5_vote_X4_hasMill
set_option maxRecDepth 20000 in
theorem ggX5_vote_X5_isHour : GoodIn wsX5_vote wsX5_isHour := goodIn_r _ [12] (by decide +kernel) (by decide +kernel)
set_option maxRecDepth 20000 in
theorem gX5_vote_X5_isHour : GoodIn wsX5_vote (va_wsS RX5 109 yX5_isHour wsX5_isHour) := goodIn_app (goodIn_of _ (by decide +kernel)) ggX5_vote_X5_isHour
set_option maxRecDepth 20000 in
theorem ggX5_vote_X4_isTied : GoodIn wsX5_vote wsX4_isTied := goodIn_r _ [16, 17, 18, 19, 6, 20, 21, 22, 11, 23, 139, 140, 141, 142, 143, 144, 145, 146, 147, 148, 149] (by decide +kernel) (by decide +kernel)
set_option maxRecDepth 20000 in
theorem gX5_vote_X4_isTied : GoodIn wsX5_vote (wsV RX5 112 RX4 yX4_isTied wsX4_isTied) := goodIn_app (goodIn_of _ (by decide +kernel)) ggX5_vote_X4_isTied
set_option maxRecDepth 20000 in
theorem ggX5_vote_X4_copyFrom : GoodIn wsX5_vote wsX4_copyFrom := goodIn_r _ [27, 28, 29, 30, 8, 31, 32, 21, 33, 34, 35, 36, 37, 11, 38, 139, 140, 141, 142, 143, 144, 145, 146, 147, 148, 149] (by decide +kernel) (by decide +kernel)
set_option maxRecDepth 20000 in
theorem gX5_vote_X4_copyFrom : GoodIn wsX5_vote (wsV RX5 40 RX4 yX4_copyFrom wsX4_copyFrom) := goodIn_app (goodIn_of _ (by decide +kernel)) ggX5_vote_X4_copyFrom
set_option maxRecDepth 20000 in
theorem ggX5_vote_X5_add : GoodIn wsX5_vote wsX5_add := goodIn_r _ [41, 42, 22, 11, 23, 43, 44, 45] (by decide +kernel) (by decide +kernel)
set_option maxRecDepth 20000 in
theorem gX5_vote_X5_add : GoodIn wsX5_vote (va_wsS RX5 122 yX5_add wsX5_add) := goodIn_app (goodIn_of _ (by decide +kernel)) ggX5_vote_X5_add
set_option maxRecDepth 20000 in
theorem ggX5_vote_X4_votesForUntying : GoodIn wsX5_vote wsX4_votesForUntying := goodIn_r _ [49, 33, 50, 51, 52, 6, 53, 54, 55, 56, 57, 34, 32, 31, 22, 11, 23, 58, 59, 60, 61, 62, 63, 64, 65, 66, 67, 68, 69, 28, 70, 71, 72, 73, 74, 75, 76, 77, 78, 79, 80, 81, 82, 83, 29, 84, 85, 86, 87, 88, 89, 90, 91, 92, 93, 94, 95, 96, 97, 98, 99, 100, 139, 140, 141, 142, 143, 144, 145, 146, 147, 148, 149] (by decide +kernel) (by decide +kernel)
set_option maxRecDepth 20000 in
theorem gX5_vote_X4_votesForUntying : GoodIn wsX5_vote (wsV RX5 143 RX4 yX4_votesForUntying wsX4_votesForUntying) := goodIn_app (goodIn_of _ (by decide +kernel)) ggX5_vote_X4_votesForUntying
set_option maxRecDepth 20000 in
theorem ggX5_vote_X4_untie : GoodIn wsX5_vote wsX4_untie := goodIn_r _ [104, 21, 17, 18, 19, 6, 20, 22, 11, 23, 44, 45, 139, 140, 141, 142, 143, 144, 145, 146, 147, 148, 149] (by decide +kernel) (by decide +kernel)
set_option maxRecDepth 20000 in
theorem gX5_vote_X4_untie : GoodIn wsX5_vote (wsV RX5 146 RX4 yX4_untie wsX4_untie) := goodIn_app (goodIn_of _ (by decide +kernel)) ggX5_vote_X4_untie
set_option maxRecDepth 20000 in
theorem ggX5_vote_X4_dropFor : GoodIn wsX5_vote wsX4_dropFor := goodIn_r _ [108, 36, 109, 110, 6, 111, 22, 11, 23, 44, 45, 139, 140, 141, 142, 143, 144, 145, 146, 147, 148, 149] (by decide +kernel) (by decide +kernel)
set_option maxRecDepth 20000 in
theorem gX5_vote_X4_dropFor : GoodIn wsX5_vote (wsV RX5 150 RX4 yX4_dropFor wsX4_dropFor) := goodIn_app (goodIn_of _ (by decide +kernel)) ggX5_vote_X4_dropFor
set_option maxRecDepth 20000 in
theorem ggX5_vote_X5_recorded : GoodIn wsX5_vote wsX5_recorded := goodIn_r _ [115, 116, 2, 117, 118, 11, 119, 120, 121, 122, 123, 124, 125, 126, 127, 128, 129, 130, 131, 132, 25, 26, 6, 27, 28, 29, 30, 8, 31, 32, 21, 33, 34, 35, 36, 37, 38, 133, 134, 135, 136, 137, 138, 150, 151, 152, 139, 140, 141, 142, 143, 144, 145, 146, 147, 148, 149] (by decide +kernel) (by decide +kernel)
set_option maxRecDepth 20000 in
theorem gX5_vote_X5_recorded : GoodIn wsX5_vote (wsV RX5 48 RX5 yX5_recorded wsX5_recorded) := goodIn_app (goodIn_of _ (by decide +kernel)) ggX5_vote_X5_recorded
theorem dX5_vote_0 : decode cX5_vote 0 = .ok (.aload_n 0, 1) := by decide +kernel
theorem dX5_vote_1 : decode cX5_vote 1 = .ok (.getfield 12, 3) := by decide +kernel
theorem dX5_vote_4 : decode cX5_vote 4 = .ok (.iload_n 1, 1) := by decide +kernel
theorem dX5_vote_5 : decode cX5_vote 5 = .ok (.invokevirtual 102, 3) := by decide +kernel
theorem dX5_vote_8 : decode cX5_vote 8 = .ok (.ifCond .eq 10, 3) := by decide +kernel
theorem dX5_vote_11 : decode cX5_vote 11 = .ok (.iload_n 2, 1) := by decide +kernel
theorem dX5_vote_12 : decode cX5_vote 12 = .ok (.invokestatic 109, 3) := by decide +kernel
theorem dX5_vote_15 : decode cX5_vote 15 = .ok (.ifCond .ne 5, 3) := by decide +kernel
theorem dX5_vote_18 : decode cX5_vote 18 = .ok (.iconst (-1), 1) := by decide +kernel
theorem dX5_vote_19 : decode cX5_vote 19 = .ok (.ireturn, 1) := by decide +kernel
theorem dX5_vote_20 : decode cX5_vote 20 = .ok (.aload_n 0, 1) := by decide +kernel
theorem dX5_vote_21 : decode cX5_vote 21 = .ok (.getfield 12, 3) := by decide +kernel
theorem dX5_vote_24 : decode cX5_vote 24 = .ok (.iload_n 1, 1) := by decide +kernel
theorem dX5_vote_25 : decode cX5_vote 25 = .ok (.iload_n 2, 1) := by decide +kernel
theorem dX5_vote_26 : decode cX5_vote 26 = .ok (.invokevirtual 112, 3) := by decide +kernel
theorem dX5_vote_29 : decode cX5_vote 29 = .ok (.ifCond .eq 13, 3) := by decide +kernel
theorem dX5_vote_32 : decode cX5_vote 32 = .ok (.aload_n 0, 1) := by decide +kernel
theorem dX5_vote_33 : decode cX5_vote 33 = .ok (.getfield 12, 3) := by decide +kernel
theorem dX5_vote_36 : decode cX5_vote 36 = .ok (.getfield 140, 3) := by decide +kernel
theorem dX5_vote_39 : decode cX5_vote 39 = .ok (.ifCond .ne 6, 3) := by decide +kernel
theorem dX5_vote_42 : decode cX5_vote 42 = .ok (.bipush (-4), 2) := by decide +kernel
theorem dX5_vote_44 : decode cX5_vote 44 = .ok (.ireturn, 1) := by decide +kernel
theorem dX5_vote_45 : decode cX5_vote 45 = .ok (.aload_n 0, 1) := by decide +kernel
theorem dX5_vote_46 : decode cX5_vote 46 = .ok (.getfield 16, 3) := by decide +kernel
theorem dX5_vote_49 : decode cX5_vote 49 = .ok (.aload_n 0, 1) := by decide +kernel
theorem dX5_vote_50 : decode cX5_vote 50 = .ok (.getfield 12, 3) := by decide +kernel
theorem dX5_vote_53 : decode cX5_vote 53 = .ok (.invokevirtual 40, 3) := by decide +kernel
theorem dX5_vote_56 : decode cX5_vote 56 = .ok (.aload_n 0, 1) := by decide +kernel
theorem dX5_vote_57 : decode cX5_vote 57 = .ok (.getfield 12, 3) := by decide +kernel
theorem dX5_vote_60 : decode cX5_vote 60 = .ok (.getfield 119, 3) := by decide +kernel
theorem dX5_vote_63 : decode cX5_vote 63 = .ok (.iconst 4, 1) := by decide +kernel
theorem dX5_vote_64 : decode cX5_vote 64 = .ok (.iconst 1, 1) := by decide +kernel
theorem dX5_vote_65 : decode cX5_vote 65 = .ok (.invokestatic 122, 3) := by decide +kernel
theorem dX5_vote_68 : decode cX5_vote 68 = .ok (.aload_n 0, 1) := by decide +kernel
theorem dX5_vote_69 : decode cX5_vote 69 = .ok (.getfield 12, 3) := by decide +kernel
theorem dX5_vote_72 : decode cX5_vote 72 = .ok (.iload_n 1, 1) := by decide +kernel
theorem dX5_vote_73 : decode cX5_vote 73 = .ok (.iload_n 2, 1) := by decide +kernel
theorem dX5_vote_74 : decode cX5_vote 74 = .ok (.invokevirtual 143, 3) := by decide +kernel
theorem dX5_vote_77 : decode cX5_vote 77 = .ok (.istore_n 3, 1) := by decide +kernel
theorem dX5_vote_78 : decode cX5_vote 78 = .ok (.iconst 2, 1) := by decide +kernel
theorem dX5_vote_79 : decode cX5_vote 79 = .ok (.iload_n 3, 1) := by decide +kernel
theorem dX5_vote_80 : decode cX5_vote 80 = .ok (.imul, 1) := by decide +kernel
theorem dX5_vote_81 : decode cX5_vote 81 = .ok (.aload_n 0, 1) := by decide +kernel
theorem dX5_vote_82 : decode cX5_vote 82 = .ok (.getfield 12, 3) := by decide +kernel
theorem dX5_vote_85 : decode cX5_vote 85 = .ok (.getfield 140, 3) := by decide +kernel
theorem dX5_vote_88 : decode cX5_vote 88 = .ok (.if_icmp .le 56, 3) := by decide +kernel
theorem dX5_vote_91 : decode cX5_vote 91 = .ok (.aload_n 0, 1) := by decide +kernel
theorem dX5_vote_92 : decode cX5_vote 92 = .ok (.getfield 12, 3) := by decide +kernel
theorem dX5_vote_95 : decode cX5_vote 95 = .ok (.getfield 119, 3) := by decide +kernel
theorem dX5_vote_98 : decode cX5_vote 98 = .ok (.iconst 5, 1) := by decide +kernel
theorem dX5_vote_99 : decode cX5_vote 99 = .ok (.iconst 1, 1) := by decide +kernel
theorem dX5_vote_100 : decode cX5_vote 100 = .ok (.invokestatic 122, 3) := by decide +kernel
theorem dX5_vote_103 : decode cX5_vote 103 = .ok (.aload_n 0, 1) := by decide +kernel
theorem dX5_vote_104 : decode cX5_vote 104 = .ok (.getfield 12, 3) := by decide +kernel
theorem dX5_vote_107 : decode cX5_vote 107 = .ok (.iload_n 1, 1) := by decide +kernel
theorem dX5_vote_108 : decode cX5_vote 108 = .ok (.iload_n 2, 1) := by decide +kernel
theorem dX5_vote_109 : decode cX5_vote 109 = .ok (.invokevirtual 146, 3) := by decide +kernel
theorem dX5_vote_112 : decode cX5_vote 112 = .ok (.iconst 0, 1) := by decide +kernel
theorem dX5_vote_113 : decode cX5_vote 113 = .ok (.istore 4, 2) := by decide +kernel
theorem dX5_vote_115 : decode cX5_vote 115 = .ok (.iload 4, 2) := by decide +kernel
theorem dX5_vote_117 : decode cX5_vote 117 = .ok (.aload_n 0, 1) := by decide +kernel
theorem dX5_vote_118 : decode cX5_vote 118 = .ok (.getfield 12, 3) := by decide +kernel
theorem dX5_vote_121 : decode cX5_vote 121 = .ok (.getfield 140, 3) := by decide +kernel
theorem dX5_vote_124 : decode cX5_vote 124 = .ok (.if_icmp .ge 20, 3) := by decide +kernel
theorem dX5_vote_127 : decode cX5_vote 127 = .ok (.aload_n 0, 1) := by decide +kernel
theorem dX5_vote_128 : decode cX5_vote 128 = .ok (.getfield 12, 3) := by decide +kernel
theorem dX5_vote_131 : decode cX5_vote 131 = .ok (.iload 4, 2) := by decide +kernel
theorem dX5_vote_133 : decode cX5_vote 133 = .ok (.iload_n 1, 1) := by decide +kernel
theorem dX5_vote_134 : decode cX5_vote 134 = .ok (.iload_n 2, 1) := by decide +kernel
theorem dX5_vote_135 : decode cX5_vote 135 = .ok (.invokevirtual 150, 3) := by decide +kernel
theorem dX5_vote_138 : decode cX5_vote 138 = .ok (.iinc 4 1, 3) := by decide +kernel
theorem dX5_vote_141 : decode cX5_vote 141 = .ok (.goto (-26), 3) := by decide +kernel
theorem dX5_vote_144 : decode cX5_vote 144 = .ok (.aload_n 0, 1) := by decide +kernel
theorem dX5_vote_145 : decode cX5_vote 145 = .ok (.iload_n 3, 1) := by decide +kernel
theorem dX5_vote_146 : decode cX5_vote 146 = .ok (.invokevirtual 48, 3) := by decide +kernel
theorem dX5_vote_149 : decode cX5_vote 149 = .ok (.ireturn, 1) := by decide +kernel
set_option maxRecDepth 20000 in
theorem ggX5_undo_X1_takeLatest : GoodIn wsX5_undo wsX1_takeLatest := goodIn_r _ [7, 8, 9, 10, 11, 6, 12, 13, 14, 15, 16, 17, 18, 19, 20, 21, 22, 23, 24, 25, 26, 27, 28, 29, 30, 31, 32, 33, 40, 41, 42, 43, 44, 45, 46, 47, 48, 49, 50, 51, 52, 53] (by decide +kernel) (by decide +kernel)
set_option maxRecDepth 20000 in
theorem gX5_undo_X1_takeLatest : GoodIn wsX5_undo (wsV RX5 160 RX1 yX1_takeLatest wsX1_takeLatest) := goodIn_app (goodIn_of _ (by decide +kernel)) ggX5_undo_X1_takeLatest
theorem dX5_undo_0 : decode cX5_undo 0 = .ok (.aload_n 0, 1) := by decide +kernel
theorem dX5_undo_1 : decode cX5_undo 1 = .ok (.getfield 29, 3) := by decide +kernel
theorem dX5_undo_4 : decode cX5_undo 4 = .ok (.getfield 157, 3) := by decide +kernel
theorem dX5_undo_7 : decode cX5_undo 7 = .ok (.ifCond .ne 6, 3) := by decide +kernel
theorem dX5_undo_10 : decode cX5_undo 10 = .ok (.bipush (-5), 2) := by decide +kernel
theorem dX5_undo_12 : decode cX5_undo 12 = .ok (.ireturn, 1) := by decide +kernel
theorem dX5_undo_13 : decode cX5_undo 13 = .ok (.aload_n 0, 1) := by decide +kernel
theorem dX5_undo_14 : decode cX5_undo 14 = .ok (.getfield 29, 3) := by decide +kernel
theorem dX5_undo_17 : decode cX5_undo 17 = .ok (.aload_n 0, 1) := by decide +kernel
theorem dX5_undo_18 : decode cX5_undo 18 = .ok (.getfield 12, 3) := by decide +kernel
theorem dX5_undo_21 : decode cX5_undo 21 = .ok (.invokevirtual 160, 3) := by decide +kernel
theorem dX5_undo_24 : decode cX5_undo 24 = .ok (.aload_n 0, 1) := by decide +kernel
theorem dX5_undo_25 : decode cX5_undo 25 = .ok (.getfield 29, 3) := by decide +kernel
theorem dX5_undo_28 : decode cX5_undo 28 = .ok (.getfield 157, 3) := by decide +kernel
theorem dX5_undo_31 : decode cX5_undo 31 = .ok (.ireturn, 1) := by decide +kernel
set_option maxRecDepth 20000 in
theorem ggX5_restore_X4_copyFrom : GoodIn wsX5_restore wsX4_copyFrom := goodIn_r _ [9, 10, 11, 12, 13, 14, 15, 16, 17, 18, 19, 20, 21, 22, 23, 51, 52, 53, 54, 55, 56, 57, 58, 59, 60, 61] (by decide +kernel) (by decide +kernel)
set_option maxRecDepth 20000 in
theorem gX5_restore_X4_copyFrom : GoodIn wsX5_restore (wsV RX5 40 RX4 yX4_copyFrom wsX4_copyFrom) := goodIn_app (goodIn_of _ (by decide +kernel)) ggX5_restore_X4_copyFrom
set_option maxRecDepth 20000 in
theorem ggX5_restore_X5_recorded : GoodIn wsX5_restore wsX5_recorded := goodIn_r _ [27, 28, 2, 29, 30, 22, 31, 32, 33, 34, 35, 36, 37, 38, 39, 40, 41, 42, 43, 44, 6, 7, 8, 9, 10, 11, 12, 13, 14, 15, 16, 17, 18, 19, 20, 21, 23, 45, 46, 47, 48, 49, 50, 62, 63, 64, 51, 52, 53, 54, 55, 56, 57, 58, 59, 60, 61] (by decide +kernel) (by decide +kernel)
set_option maxRecDepth 20000 in
theorem gX5_restore_X5_recorded : GoodIn wsX5_restore (wsV RX5 48 RX5 yX5_recorded wsX5_recorded) := goodIn_app (goodIn_of _ (by decide +kernel)) ggX5_restore_X5_recorded
theorem dX5_restore_0 : decode cX5_restore 0 = .ok (.aload_n 0, 1) := by decide +kernel
theorem dX5_restore_1 : decode cX5_restore 1 = .ok (.getfield 22, 3) := by decide +kernel
theorem dX5_restore_4 : decode cX5_restore 4 = .ok (.ifCond .ne 6, 3) := by decide +kernel
theorem dX5_restore_7 : decode cX5_restore 7 = .ok (.bipush (-5), 2) := by decide +kernel
theorem dX5_restore_9 : decode cX5_restore 9 = .ok (.ireturn, 1) := by decide +kernel
theorem dX5_restore_10 : decode cX5_restore 10 = .ok (.aload_n 0, 1) := by decide +kernel
theorem dX5_restore_11 : decode cX5_restore 11 = .ok (.getfield 16, 3) := by decide +kernel
theorem dX5_restore_14 : decode cX5_restore 14 = .ok (.aload_n 0, 1) := by decide +kernel
theorem dX5_restore_15 : decode cX5_restore 15 = .ok (.getfield 12, 3) := by decide +kernel
theorem dX5_restore_18 : decode cX5_restore 18 = .ok (.invokevirtual 40, 3) := by decide +kernel
theorem dX5_restore_21 : decode cX5_restore 21 = .ok (.aload_n 0, 1) := by decide +kernel
theorem dX5_restore_22 : decode cX5_restore 22 = .ok (.getfield 12, 3) := by decide +kernel
theorem dX5_restore_25 : decode cX5_restore 25 = .ok (.aload_n 0, 1) := by decide +kernel
theorem dX5_restore_26 : decode cX5_restore 26 = .ok (.getfield 19, 3) := by decide +kernel
theorem dX5_restore_29 : decode cX5_restore 29 = .ok (.invokevirtual 40, 3) := by decide +kernel
theorem dX5_restore_32 : decode cX5_restore 32 = .ok (.aload_n 0, 1) := by decide +kernel
theorem dX5_restore_33 : decode cX5_restore 33 = .ok (.aload_n 0, 1) := by decide +kernel
theorem dX5_restore_34 : decode cX5_restore 34 = .ok (.getfield 12, 3) := by decide +kernel
theorem dX5_restore_37 : decode cX5_restore 37 = .ok (.getfield 140, 3) := by decide +kernel
theorem dX5_restore_40 : decode cX5_restore 40 = .ok (.invokevirtual 48, 3) := by decide +kernel
theorem dX5_restore_43 : decode cX5_restore 43 = .ok (.ireturn, 1) := by decide +kernel
set_option maxRecDepth 20000 in
theorem ggX5_yardOf_X5_isYard : GoodIn wsX5_yardOf wsX5_isYard := goodIn_r _ [5] (by decide +kernel) (by decide +kernel)
set_option maxRecDepth 20000 in
theorem gX5_yardOf_X5_isYard : GoodIn wsX5_yardOf (va_wsS RX5 163 yX5_isYard wsX5_isYard) := goodIn_app (goodIn_of _ (by decide +kernel)) ggX5_yardOf_X5_isYard
set_option maxRecDepth 20000 in
theorem ggX5_yardOf_X4_millAt : GoodIn wsX5_yardOf wsX4_millAt := goodIn_r _ [10, 11, 12, 13, 14, 9, 15, 16, 4, 17, 30, 31, 32, 33, 34, 35, 36, 37, 38, 39, 40] (by decide +kernel) (by decide +kernel)
set_option maxRecDepth 20000 in
theorem gX5_yardOf_X4_millAt : GoodIn wsX5_yardOf (wsV RX5 166 RX4 yX4_millAt wsX4_millAt) := goodIn_app (goodIn_of _ (by decide +kernel)) ggX5_yardOf_X4_millAt
set_option maxRecDepth 20000 in
theorem ggX5_yardOf_X4_houseAt : GoodIn wsX5_yardOf wsX4_houseAt := goodIn_r _ [21, 22, 23, 13, 14, 9, 15, 16, 4, 17, 30, 31, 32, 33, 34, 35, 36, 37, 38, 39, 40] (by decide +kernel) (by decide +kernel)
set_option maxRecDepth 20000 in
theorem gX5_yardOf_X4_houseAt : GoodIn wsX5_yardOf (wsV RX5 169 RX4 yX4_houseAt wsX4_houseAt) := goodIn_app (goodIn_of _ (by decide +kernel)) ggX5_yardOf_X4_houseAt
theorem dX5_yardOf_0 : decode cX5_yardOf 0 = .ok (.iload_n 1, 1) := by decide +kernel
theorem dX5_yardOf_1 : decode cX5_yardOf 1 = .ok (.invokestatic 163, 3) := by decide +kernel
theorem dX5_yardOf_4 : decode cX5_yardOf 4 = .ok (.ifCond .ne 5, 3) := by decide +kernel
theorem dX5_yardOf_7 : decode cX5_yardOf 7 = .ok (.iconst (-1), 1) := by decide +kernel
theorem dX5_yardOf_8 : decode cX5_yardOf 8 = .ok (.ireturn, 1) := by decide +kernel
theorem dX5_yardOf_9 : decode cX5_yardOf 9 = .ok (.iload_n 2, 1) := by decide +kernel
theorem dX5_yardOf_10 : decode cX5_yardOf 10 = .ok (.lookupswitch 44 #[(0, 26), (1, 35)], 26) := by decide +kernel
theorem dX5_yardOf_36 : decode cX5_yardOf 36 = .ok (.aload_n 0, 1) := by decide +kernel
theorem dX5_yardOf_37 : decode cX5_yardOf 37 = .ok (.getfield 12, 3) := by decide +kernel
theorem dX5_yardOf_40 : decode cX5_yardOf 40 = .ok (.iload_n 1, 1) := by decide +kernel
theorem dX5_yardOf_41 : decode cX5_yardOf 41 = .ok (.invokevirtual 166, 3) := by decide +kernel
theorem dX5_yardOf_44 : decode cX5_yardOf 44 = .ok (.ireturn, 1) := by decide +kernel
theorem dX5_yardOf_45 : decode cX5_yardOf 45 = .ok (.aload_n 0, 1) := by decide +kernel
theorem dX5_yardOf_46 : decode cX5_yardOf 46 = .ok (.getfield 12, 3) := by decide +kernel
theorem dX5_yardOf_49 : decode cX5_yardOf 49 = .ok (.iload_n 1, 1) := by decide +kernel
theorem dX5_yardOf_50 : decode cX5_yardOf 50 = .ok (.invokevirtual 169, 3) := by decide +kernel
theorem dX5_yardOf_53 : decode cX5_yardOf 53 = .ok (.ireturn, 1) := by decide +kernel
theorem dX5_yardOf_54 : decode cX5_yardOf 54 = .ok (.bipush (-2), 2) := by decide +kernel
theorem dX5_yardOf_56 : decode cX5_yardOf 56 = .ok (.ireturn, 1) := by decide +kernel
set_option maxRecDepth 20000 in
theorem ggX5_millOf_X4_hasMill : GoodIn wsX5_millOf wsX4_hasMill := goodIn_r _ [6, 7, 69, 70, 71, 72, 73, 74, 75, 76, 77, 78, 79] (by decide +kernel) (by decide +kernel)
set_option maxRecDepth 20000 in
theorem gX5_millOf_X4_hasMill : GoodIn wsX5_millOf (wsV RX5 102 RX4 yX4_hasMill wsX4_hasMill) := goodIn_app (goodIn_of _ (by decide +kernel)) ggX5_millOf_X4_hasMill
set_option maxRecDepth 20000 in
theorem ggX5_millOf_X5_at : GoodIn wsX5_millOf wsX5_at := goodIn_r _ [11] (by decide +kernel) (by decide +kernel)
set_option maxRecDepth 20000 in
theorem gX5_millOf_X5_at : GoodIn wsX5_millOf (va_wsS RX5 66 yX5_at wsX5_at) := goodIn_app (goodIn_of _ (by decide +kernel)) ggX5_millOf_X5_at
set_option maxRecDepth 20000 in
theorem ggX5_millOf_X4_tiedHours : GoodIn wsX5_millOf wsX4_tiedHours := goodIn_r _ [15, 16, 9, 10, 11, 69, 70, 71, 72, 73, 74, 75, 76, 77, 78, 79] (by decide +kernel) (by decide +kernel)
set_option maxRecDepth 20000 in
theorem gX5_millOf_X4_tiedHours : GoodIn wsX5_millOf (wsV RX5 128 RX4 yX4_tiedHours wsX4_tiedHours) := goodIn_app (goodIn_of _ (by decide +kernel)) ggX5_millOf_X4_tiedHours
set_option maxRecDepth 20000 in
theorem ggX5_millOf_X4_turningHours : GoodIn wsX5_millOf wsX4_turningHours := goodIn_r _ [20, 21, 22, 23, 5, 24, 25, 26, 27, 28, 29, 30, 31, 32, 33, 9, 10, 11, 34, 35, 36, 37, 38, 13, 14, 15, 16, 69, 70, 71, 72, 73, 74, 75, 76, 77, 78, 79] (by decide +kernel) (by decide +kernel)
set_option maxRecDepth 20000 in
theorem gX5_millOf_X4_turningHours : GoodIn wsX5_millOf (wsV RX5 178 RX4 yX4_turningHours wsX4_turningHours) := goodIn_app (goodIn_of _ (by decide +kernel)) ggX5_millOf_X4_turningHours
set_option maxRecDepth 20000 in
theorem ggX5_millOf_X4_grainOf : GoodIn wsX5_millOf wsX4_grainOf := goodIn_r _ [42, 21, 22, 23, 5, 24, 25, 26, 27, 28, 29, 30, 31, 32, 33, 9, 10, 11, 34, 35, 36, 37, 38, 13, 14, 15, 16, 69, 70, 71, 72, 73, 74, 75, 76, 77, 78, 79] (by decide +kernel) (by decide +kernel)
set_option maxRecDepth 20000 in
theorem gX5_millOf_X4_grainOf : GoodIn wsX5_millOf (wsV RX5 181 RX4 yX4_grainOf wsX4_grainOf) := goodIn_app (goodIn_of _ (by decide +kernel)) ggX5_millOf_X4_grainOf
set_option maxRecDepth 20000 in
theorem ggX5_millOf_X4_pointsOfDay : GoodIn wsX5_millOf wsX4_pointsOfDay := goodIn_r _ [46, 47, 48, 49, 50, 5, 51, 52, 53, 54, 55, 9, 10, 11, 56, 57, 58, 59, 60, 61, 62, 69, 70, 71, 72, 73, 74, 75, 76, 77, 78, 79] (by decide +kernel) (by decide +kernel)
set_option maxRecDepth 20000 in
theorem gX5_millOf_X4_pointsOfDay : GoodIn wsX5_millOf (wsV RX5 184 RX4 yX4_pointsOfDay wsX4_pointsOfDay) := goodIn_app (goodIn_of _ (by decide +kernel)) ggX5_millOf_X4_pointsOfDay
theorem dX5_millOf_0 : decode cX5_millOf 0 = .ok (.aload_n 0, 1) := by decide +kernel
theorem dX5_millOf_1 : decode cX5_millOf 1 = .ok (.getfield 12, 3) := by decide +kernel
theorem dX5_millOf_4 : decode cX5_millOf 4 = .ok (.iload_n 1, 1) := by decide +kernel
theorem dX5_millOf_5 : decode cX5_millOf 5 = .ok (.invokevirtual 102, 3) := by decide +kernel
theorem dX5_millOf_8 : decode cX5_millOf 8 = .ok (.ifCond .ne 5, 3) := by decide +kernel
theorem dX5_millOf_11 : decode cX5_millOf 11 = .ok (.iconst (-1), 1) := by decide +kernel
theorem dX5_millOf_12 : decode cX5_millOf 12 = .ok (.ireturn, 1) := by decide +kernel
theorem dX5_millOf_13 : decode cX5_millOf 13 = .ok (.iload_n 2, 1) := by decide +kernel
theorem dX5_millOf_14 : decode cX5_millOf 14 = .ok (.tableswitch 98 0 5 #[38, 50, 62, 71, 80, 89], 38) := by decide +kernel
theorem dX5_millOf_52 : decode cX5_millOf 52 = .ok (.aload_n 0, 1) := by decide +kernel
theorem dX5_millOf_53 : decode cX5_millOf 53 = .ok (.getfield 12, 3) := by decide +kernel
theorem dX5_millOf_56 : decode cX5_millOf 56 = .ok (.getfield 172, 3) := by decide +kernel
theorem dX5_millOf_59 : decode cX5_millOf 59 = .ok (.iload_n 1, 1) := by decide +kernel
theorem dX5_millOf_60 : decode cX5_millOf 60 = .ok (.invokestatic 66, 3) := by decide +kernel
theorem dX5_millOf_63 : decode cX5_millOf 63 = .ok (.ireturn, 1) := by decide +kernel
theorem dX5_millOf_64 : decode cX5_millOf 64 = .ok (.aload_n 0, 1) := by decide +kernel
theorem dX5_millOf_65 : decode cX5_millOf 65 = .ok (.getfield 12, 3) := by decide +kernel
theorem dX5_millOf_68 : decode cX5_millOf 68 = .ok (.getfield 175, 3) := by decide +kernel
theorem dX5_millOf_71 : decode cX5_millOf 71 = .ok (.iload_n 1, 1) := by decide +kernel
theorem dX5_millOf_72 : decode cX5_millOf 72 = .ok (.invokestatic 66, 3) := by decide +kernel
theorem dX5_millOf_75 : decode cX5_millOf 75 = .ok (.ireturn, 1) := by decide +kernel
theorem dX5_millOf_76 : decode cX5_millOf 76 = .ok (.aload_n 0, 1) := by decide +kernel
theorem dX5_millOf_77 : decode cX5_millOf 77 = .ok (.getfield 12, 3) := by decide +kernel
theorem dX5_millOf_80 : decode cX5_millOf 80 = .ok (.iload_n 1, 1) := by decide +kernel
theorem dX5_millOf_81 : decode cX5_millOf 81 = .ok (.invokevirtual 128, 3) := by decide +kernel
theorem dX5_millOf_84 : decode cX5_millOf 84 = .ok (.ireturn, 1) := by decide +kernel
theorem dX5_millOf_85 : decode cX5_millOf 85 = .ok (.aload_n 0, 1) := by decide +kernel
theorem dX5_millOf_86 : decode cX5_millOf 86 = .ok (.getfield 12, 3) := by decide +kernel
theorem dX5_millOf_89 : decode cX5_millOf 89 = .ok (.iload_n 1, 1) := by decide +kernel
theorem dX5_millOf_90 : decode cX5_millOf 90 = .ok (.invokevirtual 178, 3) := by decide +kernel
theorem dX5_millOf_93 : decode cX5_millOf 93 = .ok (.ireturn, 1) := by decide +kernel
theorem dX5_millOf_94 : decode cX5_millOf 94 = .ok (.aload_n 0, 1) := by decide +kernel
theorem dX5_millOf_95 : decode cX5_millOf 95 = .ok (.getfield 12, 3) := by decide +kernel
theorem dX5_millOf_98 : decode cX5_millOf 98 = .ok (.iload_n 1, 1) := by decide +kernel
theorem dX5_millOf_99 : decode cX5_millOf 99 = .ok (.invokevirtual 181, 3) := by decide +kernel
theorem dX5_millOf_102 : decode cX5_millOf 102 = .ok (.ireturn, 1) := by decide +kernel
theorem dX5_millOf_103 : decode cX5_millOf 103 = .ok (.aload_n 0, 1) := by decide +kernel
theorem dX5_millOf_104 : decode cX5_millOf 104 = .ok (.getfield 12, 3) := by decide +kernel
theorem dX5_millOf_107 : decode cX5_millOf 107 = .ok (.iload_n 1, 1) := by decide +kernel
theorem dX5_millOf_108 : decode cX5_millOf 108 = .ok (.invokevirtual 184, 3) := by decide +kernel
theorem dX5_millOf_111 : decode cX5_millOf 111 = .ok (.ireturn, 1) := by decide +kernel
theorem dX5_millOf_112 : decode cX5_millOf 112 = .ok (.bipush (-2), 2) := by decide +kernel
theorem dX5_millOf_114 : decode cX5_millOf 114 = .ok (.ireturn, 1) := by decide +kernel
set_option maxRecDepth 20000 in
theorem ggX5_houseOf_X4_hasHouse : GoodIn wsX5_houseOf wsX4_hasHouse := goodIn_r _ [6, 7, 112, 113, 114, 115, 116, 117, 118, 119, 120, 121, 122] (by decide +kernel) (by decide +kernel)
set_option maxRecDepth 20000 in
theorem gX5_houseOf_X4_hasHouse : GoodIn wsX5_houseOf (wsV RX5 106 RX4 yX4_hasHouse wsX4_hasHouse) := goodIn_app (goodIn_of _ (by decide +kernel)) ggX5_houseOf_X4_hasHouse
set_option maxRecDepth 20000 in
theorem ggX5_houseOf_X5_at : GoodIn wsX5_houseOf wsX5_at := goodIn_r _ [11] (by decide +kernel) (by decide +kernel)
set_option maxRecDepth 20000 in
theorem gX5_houseOf_X5_at : GoodIn wsX5_houseOf (va_wsS RX5 66 yX5_at wsX5_at) := goodIn_app (goodIn_of _ (by decide +kernel)) ggX5_houseOf_X5_at
set_option maxRecDepth 20000 in
theorem ggX5_houseOf_X4_isBarred : GoodIn wsX5_houseOf wsX4_isBarred := goodIn_r _ [15, 16, 9, 10, 11, 112, 113, 114, 115, 116, 117, 118, 119, 120, 121, 122] (by decide +kernel) (by decide +kernel)
set_option maxRecDepth 20000 in
theorem gX5_houseOf_X4_isBarred : GoodIn wsX5_houseOf (wsV RX5 193 RX4 yX4_isBarred wsX4_isBarred) := goodIn_app (goodIn_of _ (by decide +kernel)) ggX5_houseOf_X4_isBarred
set_option maxRecDepth 20000 in
theorem ggX5_houseOf_X4_standingOf : GoodIn wsX5_houseOf wsX4_standingOf := goodIn_r _ [20, 21, 22, 23, 24, 5, 25, 26, 27, 28, 29, 9, 10, 11, 30, 31, 32, 33, 34, 35, 36, 112, 113, 114, 115, 116, 117, 118, 119, 120, 121, 122] (by decide +kernel) (by decide +kernel)
set_option maxRecDepth 20000 in
theorem gX5_houseOf_X4_standingOf : GoodIn wsX5_houseOf (wsV RX5 196 RX4 yX4_standingOf wsX4_standingOf) := goodIn_app (goodIn_of _ (by decide +kernel)) ggX5_houseOf_X4_standingOf
set_option maxRecDepth 20000 in
theorem ggX5_houseOf_X4_troubledHours : GoodIn wsX5_houseOf wsX4_troubledHours := goodIn_r _ [40, 21, 41, 42, 43, 5, 44, 45, 46, 47, 48, 49, 50, 51, 52, 53, 9, 10, 11, 54, 55, 56, 57, 58, 59, 60, 61, 62, 63, 64, 65, 66, 67, 68, 69, 70, 71, 72, 73, 74, 75, 76, 77, 78, 79, 80, 81, 82, 83, 84, 85, 86, 87, 88, 89, 90, 91, 92, 93, 94, 95, 96, 97, 98, 99, 100, 101, 102, 103, 104, 105, 112, 113, 114, 115, 116, 117, 118, 119, 120, 121, 122] (by decide +kernel) (by decide +kernel)
set_option maxRecDepth 20000 in
theorem gX5_houseOf_X4_troubledHours : GoodIn wsX5_houseOf (wsV RX5 199 RX4 yX4_troubledHours wsX4_troubledHours) := goodIn_app (goodIn_of _ (by decide +kernel)) ggX5_houseOf_X4_troubledHours
theorem dX5_houseOf_0 : decode cX5_houseOf 0 = .ok (.aload_n 0, 1) := by decide +kernel
theorem dX5_houseOf_1 : decode cX5_houseOf 1 = .ok (.getfield 12, 3) := by decide +kernel
theorem dX5_houseOf_4 : decode cX5_houseOf 4 = .ok (.iload_n 1, 1) := by decide +kernel
theorem dX5_houseOf_5 : decode cX5_houseOf 5 = .ok (.invokevirtual 106, 3) := by decide +kernel
theorem dX5_houseOf_8 : decode cX5_houseOf 8 = .ok (.ifCond .ne 5, 3) := by decide +kernel
theorem dX5_houseOf_11 : decode cX5_houseOf 11 = .ok (.iconst (-1), 1) := by decide +kernel
theorem dX5_houseOf_12 : decode cX5_houseOf 12 = .ok (.ireturn, 1) := by decide +kernel
theorem dX5_houseOf_13 : decode cX5_houseOf 13 = .ok (.iload_n 2, 1) := by decide +kernel
theorem dX5_houseOf_14 : decode cX5_houseOf 14 = .ok (.tableswitch 108 0 5 #[38, 50, 62, 79, 88, 98], 38) := by decide +kernel
theorem dX5_houseOf_52 : decode cX5_houseOf 52 = .ok (.aload_n 0, 1) := by decide +kernel
theorem dX5_houseOf_53 : decode cX5_houseOf 53 = .ok (.getfield 12, 3) := by decide +kernel
theorem dX5_houseOf_56 : decode cX5_houseOf 56 = .ok (.getfield 187, 3) := by decide +kernel
theorem dX5_houseOf_59 : decode cX5_houseOf 59 = .ok (.iload_n 1, 1) := by decide +kernel
theorem dX5_houseOf_60 : decode cX5_houseOf 60 = .ok (.invokestatic 66, 3) := by decide +kernel
theorem dX5_houseOf_63 : decode cX5_houseOf 63 = .ok (.ireturn, 1) := by decide +kernel
theorem dX5_houseOf_64 : decode cX5_houseOf 64 = .ok (.aload_n 0, 1) := by decide +kernel
theorem dX5_houseOf_65 : decode cX5_houseOf 65 = .ok (.getfield 12, 3) := by decide +kernel
theorem dX5_houseOf_68 : decode cX5_houseOf 68 = .ok (.getfield 190, 3) := by decide +kernel
theorem dX5_houseOf_71 : decode cX5_houseOf 71 = .ok (.iload_n 1, 1) := by decide +kernel
theorem dX5_houseOf_72 : decode cX5_houseOf 72 = .ok (.invokestatic 66, 3) := by decide +kernel
theorem dX5_houseOf_75 : decode cX5_houseOf 75 = .ok (.ireturn, 1) := by decide +kernel
theorem dX5_houseOf_76 : decode cX5_houseOf 76 = .ok (.aload_n 0, 1) := by decide +kernel
theorem dX5_houseOf_77 : decode cX5_houseOf 77 = .ok (.getfield 12, 3) := by decide +kernel
theorem dX5_houseOf_80 : decode cX5_houseOf 80 = .ok (.iload_n 1, 1) := by decide +kernel
theorem dX5_houseOf_81 : decode cX5_houseOf 81 = .ok (.invokevirtual 193, 3) := by decide +kernel
theorem dX5_houseOf_84 : decode cX5_houseOf 84 = .ok (.ifCond .eq 7, 3) := by decide +kernel
theorem dX5_houseOf_87 : decode cX5_houseOf 87 = .ok (.iconst 1, 1) := by decide +kernel
theorem dX5_houseOf_88 : decode cX5_houseOf 88 = .ok (.goto 4, 3) := by decide +kernel
theorem dX5_houseOf_91 : decode cX5_houseOf 91 = .ok (.iconst 0, 1) := by decide +kernel
theorem dX5_houseOf_92 : decode cX5_houseOf 92 = .ok (.ireturn, 1) := by decide +kernel
theorem dX5_houseOf_93 : decode cX5_houseOf 93 = .ok (.aload_n 0, 1) := by decide +kernel
theorem dX5_houseOf_94 : decode cX5_houseOf 94 = .ok (.getfield 12, 3) := by decide +kernel
theorem dX5_houseOf_97 : decode cX5_houseOf 97 = .ok (.iload_n 1, 1) := by decide +kernel
theorem dX5_houseOf_98 : decode cX5_houseOf 98 = .ok (.invokevirtual 196, 3) := by decide +kernel
theorem dX5_houseOf_101 : decode cX5_houseOf 101 = .ok (.ireturn, 1) := by decide +kernel
theorem dX5_houseOf_102 : decode cX5_houseOf 102 = .ok (.aload_n 0, 1) := by decide +kernel
theorem dX5_houseOf_103 : decode cX5_houseOf 103 = .ok (.getfield 12, 3) := by decide +kernel
theorem dX5_houseOf_106 : decode cX5_houseOf 106 = .ok (.iload_n 1, 1) := by decide +kernel
theorem dX5_houseOf_107 : decode cX5_houseOf 107 = .ok (.iconst 0, 1) := by decide +kernel
theorem dX5_houseOf_108 : decode cX5_houseOf 108 = .ok (.invokevirtual 199, 3) := by decide +kernel
theorem dX5_houseOf_111 : decode cX5_houseOf 111 = .ok (.ireturn, 1) := by decide +kernel
theorem dX5_houseOf_112 : decode cX5_houseOf 112 = .ok (.aload_n 0, 1) := by decide +kernel
theorem dX5_houseOf_113 : decode cX5_houseOf 113 = .ok (.getfield 12, 3) := by decide +kernel
theorem dX5_houseOf_116 : decode cX5_houseOf 116 = .ok (.iload_n 1, 1) := by decide +kernel
theorem dX5_houseOf_117 : decode cX5_houseOf 117 = .ok (.iconst 1, 1) := by decide +kernel
theorem dX5_houseOf_118 : decode cX5_houseOf 118 = .ok (.invokevirtual 199, 3) := by decide +kernel
theorem dX5_houseOf_121 : decode cX5_houseOf 121 = .ok (.ireturn, 1) := by decide +kernel
theorem dX5_houseOf_122 : decode cX5_houseOf 122 = .ok (.bipush (-2), 2) := by decide +kernel
theorem dX5_houseOf_124 : decode cX5_houseOf 124 = .ok (.ireturn, 1) := by decide +kernel
set_option maxRecDepth 20000 in
theorem ggX5_noise_X4_hasMill : GoodIn wsX5_noise wsX4_hasMill := goodIn_r _ [6, 7, 56, 57, 58, 59, 60, 61, 62, 63, 64, 65, 66] (by decide +kernel) (by decide +kernel)
set_option maxRecDepth 20000 in
theorem gX5_noise_X4_hasMill : GoodIn wsX5_noise (wsV RX5 102 RX4 yX4_hasMill wsX4_hasMill) := goodIn_app (goodIn_of _ (by decide +kernel)) ggX5_noise_X4_hasMill
set_option maxRecDepth 20000 in
theorem ggX5_noise_X5_isYard : GoodIn wsX5_noise wsX5_isYard := goodIn_r _ [11] (by decide +kernel) (by decide +kernel)
set_option maxRecDepth 20000 in
theorem gX5_noise_X5_isYard : GoodIn wsX5_noise (va_wsS RX5 163 yX5_isYard wsX5_isYard) := goodIn_app (goodIn_of _ (by decide +kernel)) ggX5_noise_X5_isYard
set_option maxRecDepth 20000 in
theorem ggX5_noise_X5_isHour : GoodIn wsX5_noise wsX5_isHour := goodIn_r _ [14] (by decide +kernel) (by decide +kernel)
set_option maxRecDepth 20000 in
theorem gX5_noise_X5_isHour : GoodIn wsX5_noise (va_wsS RX5 109 yX5_isHour wsX5_isHour) := goodIn_app (goodIn_of _ (by decide +kernel)) ggX5_noise_X5_isHour
set_option maxRecDepth 20000 in
theorem ggX5_noise_X4_noiseIn : GoodIn wsX5_noise wsX4_noiseIn := goodIn_r _ [18, 19, 20, 21, 5, 22, 23, 24, 25, 26, 27, 28, 10, 29, 30, 31, 32, 33, 34, 35, 36, 37, 38, 39, 40, 41, 42, 43, 44, 45, 46, 47, 48, 49, 56, 57, 58, 59, 60, 61, 62, 63, 64, 65, 66] (by decide +kernel) (by decide +kernel)
set_option maxRecDepth 20000 in
theorem gX5_noise_X4_noiseIn : GoodIn wsX5_noise (wsV RX5 202 RX4 yX4_noiseIn wsX4_noiseIn) := goodIn_app (goodIn_of _ (by decide +kernel)) ggX5_noise_X4_noiseIn
theorem dX5_noise_0 : decode cX5_noise 0 = .ok (.aload_n 0, 1) := by decide +kernel
theorem dX5_noise_1 : decode cX5_noise 1 = .ok (.getfield 12, 3) := by decide +kernel
theorem dX5_noise_4 : decode cX5_noise 4 = .ok (.iload_n 1, 1) := by decide +kernel
theorem dX5_noise_5 : decode cX5_noise 5 = .ok (.invokevirtual 102, 3) := by decide +kernel
theorem dX5_noise_8 : decode cX5_noise 8 = .ok (.ifCond .eq 17, 3) := by decide +kernel
theorem dX5_noise_11 : decode cX5_noise 11 = .ok (.iload_n 2, 1) := by decide +kernel
theorem dX5_noise_12 : decode cX5_noise 12 = .ok (.invokestatic 163, 3) := by decide +kernel
theorem dX5_noise_15 : decode cX5_noise 15 = .ok (.ifCond .eq 10, 3) := by decide +kernel
theorem dX5_noise_18 : decode cX5_noise 18 = .ok (.iload_n 3, 1) := by decide +kernel
theorem dX5_noise_19 : decode cX5_noise 19 = .ok (.invokestatic 109, 3) := by decide +kernel
theorem dX5_noise_22 : decode cX5_noise 22 = .ok (.ifCond .ne 5, 3) := by decide +kernel
theorem dX5_noise_25 : decode cX5_noise 25 = .ok (.iconst (-1), 1) := by decide +kernel
theorem dX5_noise_26 : decode cX5_noise 26 = .ok (.ireturn, 1) := by decide +kernel
theorem dX5_noise_27 : decode cX5_noise 27 = .ok (.aload_n 0, 1) := by decide +kernel
theorem dX5_noise_28 : decode cX5_noise 28 = .ok (.getfield 12, 3) := by decide +kernel
theorem dX5_noise_31 : decode cX5_noise 31 = .ok (.iload_n 1, 1) := by decide +kernel
theorem dX5_noise_32 : decode cX5_noise 32 = .ok (.iload_n 2, 1) := by decide +kernel
theorem dX5_noise_33 : decode cX5_noise 33 = .ok (.iload_n 3, 1) := by decide +kernel
theorem dX5_noise_34 : decode cX5_noise 34 = .ok (.invokevirtual 202, 3) := by decide +kernel
theorem dX5_noise_37 : decode cX5_noise 37 = .ok (.ireturn, 1) := by decide +kernel
set_option maxRecDepth 20000 in
theorem ggX5_shadow_X4_hasMill : GoodIn wsX5_shadow wsX4_hasMill := goodIn_r _ [6, 7, 49, 50, 51, 52, 53, 54, 55, 56, 57, 58, 59] (by decide +kernel) (by decide +kernel)
set_option maxRecDepth 20000 in
theorem gX5_shadow_X4_hasMill : GoodIn wsX5_shadow (wsV RX5 102 RX4 yX4_hasMill wsX4_hasMill) := goodIn_app (goodIn_of _ (by decide +kernel)) ggX5_shadow_X4_hasMill
set_option maxRecDepth 20000 in
theorem ggX5_shadow_X5_isYard : GoodIn wsX5_shadow wsX5_isYard := goodIn_r _ [11] (by decide +kernel) (by decide +kernel)
set_option maxRecDepth 20000 in
theorem gX5_shadow_X5_isYard : GoodIn wsX5_shadow (va_wsS RX5 163 yX5_isYard wsX5_isYard) := goodIn_app (goodIn_of _ (by decide +kernel)) ggX5_shadow_X5_isYard
set_option maxRecDepth 20000 in
theorem ggX5_shadow_X5_isHour : GoodIn wsX5_shadow wsX5_isHour := goodIn_r _ [14] (by decide +kernel) (by decide +kernel)
set_option maxRecDepth 20000 in
theorem gX5_shadow_X5_isHour : GoodIn wsX5_shadow (va_wsS RX5 109 yX5_isHour wsX5_isHour) := goodIn_app (goodIn_of _ (by decide +kernel)) ggX5_shadow_X5_isHour
set_option maxRecDepth 20000 in
theorem ggX5_shadow_X5_at : GoodIn wsX5_shadow wsX5_at := goodIn_r _ [17] (by decide +kernel) (by decide +kernel)
set_option maxRecDepth 20000 in
theorem gX5_shadow_X5_at : GoodIn wsX5_shadow (va_wsS RX5 66 yX5_at wsX5_at) := goodIn_app (goodIn_of _ (by decide +kernel)) ggX5_shadow_X5_at
set_option maxRecDepth 20000 in
theorem ggX5_shadow_X2_isMetOnTheWalk : GoodIn wsX5_shadow wsX2_isMetOnTheWalk := goodIn_r _ [21, 22, 23, 20, 24, 25, 26, 27, 28, 29, 30] (by decide +kernel) (by decide +kernel)
set_option maxRecDepth 20000 in
theorem gX5_shadow_X2_isMetOnTheWalk : GoodIn wsX5_shadow (va_wsS RX5 205 yX2_isMetOnTheWalk wsX2_isMetOnTheWalk) := goodIn_app (goodIn_of _ (by decide +kernel)) ggX5_shadow_X2_isMetOnTheWalk
set_option maxRecDepth 20000 in
theorem ggX5_shadow_X2_liesThere : GoodIn wsX5_shadow wsX2_liesThere := goodIn_r _ [33, 34, 10, 35, 36, 37, 38, 39, 40, 41, 42, 25, 26, 20, 27, 28, 29, 30, 22, 23, 24] (by decide +kernel) (by decide +kernel)
set_option maxRecDepth 20000 in
theorem gX5_shadow_X2_liesThere : GoodIn wsX5_shadow (va_wsS RX5 211 yX2_liesThere wsX2_liesThere) := goodIn_app (goodIn_of _ (by decide +kernel)) ggX5_shadow_X2_liesThere
theorem dX5_shadow_0 : decode cX5_shadow 0 = .ok (.aload_n 0, 1) := by decide +kernel
theorem dX5_shadow_1 : decode cX5_shadow 1 = .ok (.getfield 12, 3) := by decide +kernel
theorem dX5_shadow_4 : decode cX5_shadow 4 = .ok (.iload_n 1, 1) := by decide +kernel
theorem dX5_shadow_5 : decode cX5_shadow 5 = .ok (.invokevirtual 102, 3) := by decide +kernel
theorem dX5_shadow_8 : decode cX5_shadow 8 = .ok (.ifCond .eq 17, 3) := by decide +kernel
theorem dX5_shadow_11 : decode cX5_shadow 11 = .ok (.iload_n 2, 1) := by decide +kernel
theorem dX5_shadow_12 : decode cX5_shadow 12 = .ok (.invokestatic 163, 3) := by decide +kernel
theorem dX5_shadow_15 : decode cX5_shadow 15 = .ok (.ifCond .eq 10, 3) := by decide +kernel
theorem dX5_shadow_18 : decode cX5_shadow 18 = .ok (.iload_n 3, 1) := by decide +kernel
theorem dX5_shadow_19 : decode cX5_shadow 19 = .ok (.invokestatic 109, 3) := by decide +kernel
theorem dX5_shadow_22 : decode cX5_shadow 22 = .ok (.ifCond .ne 5, 3) := by decide +kernel
theorem dX5_shadow_25 : decode cX5_shadow 25 = .ok (.iconst (-1), 1) := by decide +kernel
theorem dX5_shadow_26 : decode cX5_shadow 26 = .ok (.ireturn, 1) := by decide +kernel
theorem dX5_shadow_27 : decode cX5_shadow 27 = .ok (.aload_n 0, 1) := by decide +kernel
theorem dX5_shadow_28 : decode cX5_shadow 28 = .ok (.getfield 12, 3) := by decide +kernel
theorem dX5_shadow_31 : decode cX5_shadow 31 = .ok (.getfield 175, 3) := by decide +kernel
theorem dX5_shadow_34 : decode cX5_shadow 34 = .ok (.iload_n 1, 1) := by decide +kernel
theorem dX5_shadow_35 : decode cX5_shadow 35 = .ok (.invokestatic 66, 3) := by decide +kernel
theorem dX5_shadow_38 : decode cX5_shadow 38 = .ok (.istore 5, 2) := by decide +kernel
theorem dX5_shadow_40 : decode cX5_shadow 40 = .ok (.aload_n 0, 1) := by decide +kernel
theorem dX5_shadow_41 : decode cX5_shadow 41 = .ok (.getfield 12, 3) := by decide +kernel
theorem dX5_shadow_44 : decode cX5_shadow 44 = .ok (.getfield 172, 3) := by decide +kernel
theorem dX5_shadow_47 : decode cX5_shadow 47 = .ok (.iload_n 1, 1) := by decide +kernel
theorem dX5_shadow_48 : decode cX5_shadow 48 = .ok (.invokestatic 66, 3) := by decide +kernel
theorem dX5_shadow_51 : decode cX5_shadow 51 = .ok (.istore 6, 2) := by decide +kernel
theorem dX5_shadow_53 : decode cX5_shadow 53 = .ok (.iload 4, 2) := by decide +kernel
theorem dX5_shadow_55 : decode cX5_shadow 55 = .ok (.lookupswitch 61 #[(0, 25), (1, 43)], 25) := by decide +kernel
theorem dX5_shadow_80 : decode cX5_shadow 80 = .ok (.iload 5, 2) := by decide +kernel
theorem dX5_shadow_82 : decode cX5_shadow 82 = .ok (.iload 6, 2) := by decide +kernel
theorem dX5_shadow_84 : decode cX5_shadow 84 = .ok (.iload_n 2, 1) := by decide +kernel
theorem dX5_shadow_85 : decode cX5_shadow 85 = .ok (.iload_n 3, 1) := by decide +kernel
theorem dX5_shadow_86 : decode cX5_shadow 86 = .ok (.invokestatic 205, 3) := by decide +kernel
theorem dX5_shadow_89 : decode cX5_shadow 89 = .ok (.ifCond .eq 7, 3) := by decide +kernel
theorem dX5_shadow_92 : decode cX5_shadow 92 = .ok (.iconst 1, 1) := by decide +kernel
theorem dX5_shadow_93 : decode cX5_shadow 93 = .ok (.goto 4, 3) := by decide +kernel
theorem dX5_shadow_96 : decode cX5_shadow 96 = .ok (.iconst 0, 1) := by decide +kernel
theorem dX5_shadow_97 : decode cX5_shadow 97 = .ok (.ireturn, 1) := by decide +kernel
theorem dX5_shadow_98 : decode cX5_shadow 98 = .ok (.iload 5, 2) := by decide +kernel
theorem dX5_shadow_100 : decode cX5_shadow 100 = .ok (.iload 6, 2) := by decide +kernel
theorem dX5_shadow_102 : decode cX5_shadow 102 = .ok (.iload_n 2, 1) := by decide +kernel
theorem dX5_shadow_103 : decode cX5_shadow 103 = .ok (.iload_n 3, 1) := by decide +kernel
theorem dX5_shadow_104 : decode cX5_shadow 104 = .ok (.invokestatic 211, 3) := by decide +kernel
theorem dX5_shadow_107 : decode cX5_shadow 107 = .ok (.ifCond .eq 7, 3) := by decide +kernel
theorem dX5_shadow_110 : decode cX5_shadow 110 = .ok (.iconst 1, 1) := by decide +kernel
theorem dX5_shadow_111 : decode cX5_shadow 111 = .ok (.goto 4, 3) := by decide +kernel
theorem dX5_shadow_114 : decode cX5_shadow 114 = .ok (.iconst 0, 1) := by decide +kernel
theorem dX5_shadow_115 : decode cX5_shadow 115 = .ok (.ireturn, 1) := by decide +kernel
theorem dX5_shadow_116 : decode cX5_shadow 116 = .ok (.bipush (-2), 2) := by decide +kernel
theorem dX5_shadow_118 : decode cX5_shadow 118 = .ok (.ireturn, 1) := by decide +kernel
set_option maxRecDepth 20000 in
theorem ggX5_why_X4_reasonAgainst : GoodIn wsX5_why wsX4_reasonAgainst := goodIn_r _ [6, 7, 8, 9, 5, 10, 11, 12, 13, 14, 15, 16, 17, 18, 19, 20, 21, 22, 23, 24, 25, 26, 27, 28, 29, 30, 31, 32, 33, 34, 35, 36, 37, 38, 39, 40, 41, 42, 43, 44, 45, 46, 47, 48, 49, 50, 51, 52, 53, 54, 55, 56, 57, 58, 59, 60, 61, 62, 63, 64, 65, 66, 67, 68, 69, 70, 71, 72, 73, 74, 75, 76, 77, 78, 79, 80, 81, 82, 83, 84, 85, 86, 87, 88, 89, 90, 91, 92, 93, 94, 95, 96, 97, 98, 105, 106, 107, 108, 109, 110, 111, 112, 113, 114, 115] (by decide +kernel) (by decide +kernel)
set_option maxRecDepth 20000 in
theorem gX5_why_X4_reasonAgainst : GoodIn wsX5_why (wsV RX5 214 RX4 yX4_reasonAgainst wsX4_reasonAgainst) := goodIn_app (goodIn_of _ (by decide +kernel)) ggX5_why_X4_reasonAgainst
theorem dX5_why_0 : decode cX5_why 0 = .ok (.aload_n 0, 1) := by decide +kernel
theorem dX5_why_1 : decode cX5_why 1 = .ok (.getfield 12, 3) := by decide +kernel
theorem dX5_why_4 : decode cX5_why 4 = .ok (.iload_n 1, 1) := by decide +kernel
theorem dX5_why_5 : decode cX5_why 5 = .ok (.iload_n 2, 1) := by decide +kernel
theorem dX5_why_6 : decode cX5_why 6 = .ok (.iload_n 3, 1) := by decide +kernel
theorem dX5_why_7 : decode cX5_why 7 = .ok (.iload 4, 2) := by decide +kernel
theorem dX5_why_9 : decode cX5_why 9 = .ok (.invokevirtual 214, 3) := by decide +kernel
theorem dX5_why_12 : decode cX5_why 12 = .ok (.ireturn, 1) := by decide +kernel
set_option maxRecDepth 20000 in
theorem ggX5_count_X5_at : GoodIn wsX5_count wsX5_at := goodIn_r _ [7] (by decide +kernel) (by decide +kernel)
set_option maxRecDepth 20000 in
theorem gX5_count_X5_at : GoodIn wsX5_count (va_wsS RX5 66 yX5_at wsX5_at) := goodIn_app (goodIn_of _ (by decide +kernel)) ggX5_count_X5_at
set_option maxRecDepth 20000 in
theorem ggX5_count_X4_tiedHoursOfAll : GoodIn wsX5_count wsX4_tiedHoursOfAll := goodIn_r _ [12, 13, 14, 15, 16, 11, 17, 18, 5, 6, 7, 19, 20, 21, 22, 23, 24, 25, 62, 63, 64, 65, 66, 67, 68, 69, 70, 71, 72] (by decide +kernel) (by decide +kernel)
set_option maxRecDepth 20000 in
theorem gX5_count_X4_tiedHoursOfAll : GoodIn wsX5_count (wsV RX5 220 RX4 yX4_tiedHoursOfAll wsX4_tiedHoursOfAll) := goodIn_app (goodIn_of _ (by decide +kernel)) ggX5_count_X4_tiedHoursOfAll
set_option maxRecDepth 20000 in
theorem ggX5_count_X4_grainOfAll : GoodIn wsX5_count wsX4_grainOfAll := goodIn_r _ [29, 13, 30, 31, 32, 11, 33, 34, 35, 36, 37, 38, 39, 40, 41, 42, 43, 44, 45, 46, 5, 6, 7, 47, 48, 49, 50, 14, 15, 16, 17, 18, 62, 63, 64, 65, 66, 67, 68, 69, 70, 71, 72] (by decide +kernel) (by decide +kernel)
set_option maxRecDepth 20000 in
theorem gX5_count_X4_grainOfAll : GoodIn wsX5_count (wsV RX5 223 RX4 yX4_grainOfAll wsX4_grainOfAll) := goodIn_app (goodIn_of _ (by decide +kernel)) ggX5_count_X4_grainOfAll
set_option maxRecDepth 20000 in
theorem ggX5_count_X4_setting : GoodIn wsX5_count wsX4_setting := goodIn_r _ [54, 55, 5, 6, 7, 62, 63, 64, 65, 66, 67, 68, 69, 70, 71, 72] (by decide +kernel) (by decide +kernel)
set_option maxRecDepth 20000 in
theorem gX5_count_X4_setting : GoodIn wsX5_count (wsV RX5 73 RX4 yX4_setting wsX4_setting) := goodIn_app (goodIn_of _ (by decide +kernel)) ggX5_count_X4_setting
theorem dX5_count_0 : decode cX5_count 0 = .ok (.iload_n 1, 1) := by decide +kernel
theorem dX5_count_1 : decode cX5_count 1 = .ok (.tableswitch 177 0 15 #[79, 87, 95, 95, 95, 95, 95, 95, 109, 117, 125, 133, 141, 150, 159, 168], 79) := by decide +kernel
theorem dX5_count_80 : decode cX5_count 80 = .ok (.aload_n 0, 1) := by decide +kernel
theorem dX5_count_81 : decode cX5_count 81 = .ok (.getfield 12, 3) := by decide +kernel
theorem dX5_count_84 : decode cX5_count 84 = .ok (.getfield 217, 3) := by decide +kernel
theorem dX5_count_87 : decode cX5_count 87 = .ok (.ireturn, 1) := by decide +kernel
theorem dX5_count_88 : decode cX5_count 88 = .ok (.aload_n 0, 1) := by decide +kernel
theorem dX5_count_89 : decode cX5_count 89 = .ok (.getfield 12, 3) := by decide +kernel
theorem dX5_count_92 : decode cX5_count 92 = .ok (.getfield 140, 3) := by decide +kernel
theorem dX5_count_95 : decode cX5_count 95 = .ok (.ireturn, 1) := by decide +kernel
theorem dX5_count_96 : decode cX5_count 96 = .ok (.aload_n 0, 1) := by decide +kernel
theorem dX5_count_97 : decode cX5_count 97 = .ok (.getfield 12, 3) := by decide +kernel
theorem dX5_count_100 : decode cX5_count 100 = .ok (.getfield 119, 3) := by decide +kernel
theorem dX5_count_103 : decode cX5_count 103 = .ok (.iload_n 1, 1) := by decide +kernel
theorem dX5_count_104 : decode cX5_count 104 = .ok (.iconst 2, 1) := by decide +kernel
theorem dX5_count_105 : decode cX5_count 105 = .ok (.isub, 1) := by decide +kernel
theorem dX5_count_106 : decode cX5_count 106 = .ok (.invokestatic 66, 3) := by decide +kernel
theorem dX5_count_109 : decode cX5_count 109 = .ok (.ireturn, 1) := by decide +kernel
theorem dX5_count_110 : decode cX5_count 110 = .ok (.aload_n 0, 1) := by decide +kernel
theorem dX5_count_111 : decode cX5_count 111 = .ok (.getfield 12, 3) := by decide +kernel
theorem dX5_count_114 : decode cX5_count 114 = .ok (.invokevirtual 220, 3) := by decide +kernel
theorem dX5_count_117 : decode cX5_count 117 = .ok (.ireturn, 1) := by decide +kernel
theorem dX5_count_118 : decode cX5_count 118 = .ok (.aload_n 0, 1) := by decide +kernel
theorem dX5_count_119 : decode cX5_count 119 = .ok (.getfield 12, 3) := by decide +kernel
theorem dX5_count_122 : decode cX5_count 122 = .ok (.invokevirtual 223, 3) := by decide +kernel
theorem dX5_count_125 : decode cX5_count 125 = .ok (.ireturn, 1) := by decide +kernel
theorem dX5_count_126 : decode cX5_count 126 = .ok (.aload_n 0, 1) := by decide +kernel
theorem dX5_count_127 : decode cX5_count 127 = .ok (.getfield 29, 3) := by decide +kernel
theorem dX5_count_130 : decode cX5_count 130 = .ok (.getfield 157, 3) := by decide +kernel
theorem dX5_count_133 : decode cX5_count 133 = .ok (.ireturn, 1) := by decide +kernel
theorem dX5_count_134 : decode cX5_count 134 = .ok (.aload_n 0, 1) := by decide +kernel
theorem dX5_count_135 : decode cX5_count 135 = .ok (.getfield 36, 3) := by decide +kernel
theorem dX5_count_138 : decode cX5_count 138 = .ok (.getfield 87, 3) := by decide +kernel
theorem dX5_count_141 : decode cX5_count 141 = .ok (.ireturn, 1) := by decide +kernel
theorem dX5_count_142 : decode cX5_count 142 = .ok (.aload_n 0, 1) := by decide +kernel
theorem dX5_count_143 : decode cX5_count 143 = .ok (.getfield 12, 3) := by decide +kernel
theorem dX5_count_146 : decode cX5_count 146 = .ok (.iconst 0, 1) := by decide +kernel
theorem dX5_count_147 : decode cX5_count 147 = .ok (.invokevirtual 73, 3) := by decide +kernel
theorem dX5_count_150 : decode cX5_count 150 = .ok (.ireturn, 1) := by decide +kernel
theorem dX5_count_151 : decode cX5_count 151 = .ok (.aload_n 0, 1) := by decide +kernel
theorem dX5_count_152 : decode cX5_count 152 = .ok (.getfield 12, 3) := by decide +kernel
theorem dX5_count_155 : decode cX5_count 155 = .ok (.iconst 1, 1) := by decide +kernel
theorem dX5_count_156 : decode cX5_count 156 = .ok (.invokevirtual 73, 3) := by decide +kernel
theorem dX5_count_159 : decode cX5_count 159 = .ok (.ireturn, 1) := by decide +kernel
theorem dX5_count_160 : decode cX5_count 160 = .ok (.aload_n 0, 1) := by decide +kernel
theorem dX5_count_161 : decode cX5_count 161 = .ok (.getfield 12, 3) := by decide +kernel
theorem dX5_count_164 : decode cX5_count 164 = .ok (.iconst 2, 1) := by decide +kernel
theorem dX5_count_165 : decode cX5_count 165 = .ok (.invokevirtual 73, 3) := by decide +kernel
theorem dX5_count_168 : decode cX5_count 168 = .ok (.ireturn, 1) := by decide +kernel
theorem dX5_count_169 : decode cX5_count 169 = .ok (.aload_n 0, 1) := by decide +kernel
theorem dX5_count_170 : decode cX5_count 170 = .ok (.getfield 12, 3) := by decide +kernel
theorem dX5_count_173 : decode cX5_count 173 = .ok (.iconst 3, 1) := by decide +kernel
theorem dX5_count_174 : decode cX5_count 174 = .ok (.invokevirtual 73, 3) := by decide +kernel
theorem dX5_count_177 : decode cX5_count 177 = .ok (.ireturn, 1) := by decide +kernel
theorem dX5_count_178 : decode cX5_count 178 = .ok (.bipush (-2), 2) := by decide +kernel
theorem dX5_count_180 : decode cX5_count 180 = .ok (.ireturn, 1) := by decide +kernel
set_option maxRecDepth 20000 in
theorem ggX5_ground_X4_grainOfAllIfUntied : GoodIn wsX5_ground wsX4_grainOfAllIfUntied := goodIn_r _ [6, 7, 8, 9, 10, 5, 11, 12, 13, 14, 15, 16, 17, 18, 19, 47, 48, 49, 50, 51, 52, 53, 54, 55, 56, 57] (by decide +kernel) (by decide +kernel)
set_option maxRecDepth 20000 in
theorem gX5_ground_X4_grainOfAllIfUntied : GoodIn wsX5_ground (wsV RX5 226 RX4 yX4_grainOfAllIfUntied wsX4_grainOfAllIfUntied) := goodIn_app (goodIn_of _ (by decide +kernel)) ggX5_ground_X4_grainOfAllIfUntied
set_option maxRecDepth 20000 in
theorem ggX5_ground_X4_grainOfAll : GoodIn wsX5_ground wsX4_grainOfAll := goodIn_r _ [23, 7, 24, 25, 26, 5, 27, 28, 29, 30, 31, 8, 9, 10, 11, 12, 13, 14, 15, 16, 17, 18, 19, 32, 33, 34, 35, 36, 37, 38, 39, 40, 47, 48, 49, 50, 51, 52, 53, 54, 55, 56, 57] (by decide +kernel) (by decide +kernel)
set_option maxRecDepth 20000 in
theorem gX5_ground_X4_grainOfAll : GoodIn wsX5_ground (wsV RX5 223 RX4 yX4_grainOfAll wsX4_grainOfAll) := goodIn_app (goodIn_of _ (by decide +kernel)) ggX5_ground_X4_grainOfAll
theorem dX5_ground_0 : decode cX5_ground 0 = .ok (.aload_n 0, 1) := by decide +kernel
theorem dX5_ground_1 : decode cX5_ground 1 = .ok (.getfield 12, 3) := by decide +kernel
theorem dX5_ground_4 : decode cX5_ground 4 = .ok (.invokevirtual 226, 3) := by decide +kernel
theorem dX5_ground_7 : decode cX5_ground 7 = .ok (.istore_n 1, 1) := by decide +kernel
theorem dX5_ground_8 : decode cX5_ground 8 = .ok (.iload_n 1, 1) := by decide +kernel
theorem dX5_ground_9 : decode cX5_ground 9 = .ok (.ifCond .ne 5, 3) := by decide +kernel
theorem dX5_ground_12 : decode cX5_ground 12 = .ok (.fconst 1, 1) := by decide +kernel
theorem dX5_ground_13 : decode cX5_ground 13 = .ok (.freturn, 1) := by decide +kernel
theorem dX5_ground_14 : decode cX5_ground 14 = .ok (.aload_n 0, 1) := by decide +kernel
theorem dX5_ground_15 : decode cX5_ground 15 = .ok (.getfield 12, 3) := by decide +kernel
theorem dX5_ground_18 : decode cX5_ground 18 = .ok (.invokevirtual 223, 3) := by decide +kernel
theorem dX5_ground_21 : decode cX5_ground 21 = .ok (.i2f, 1) := by decide +kernel
theorem dX5_ground_22 : decode cX5_ground 22 = .ok (.iload_n 1, 1) := by decide +kernel
theorem dX5_ground_23 : decode cX5_ground 23 = .ok (.i2f, 1) := by decide +kernel
theorem dX5_ground_24 : decode cX5_ground 24 = .ok (.fdiv, 1) := by decide +kernel
theorem dX5_ground_25 : decode cX5_ground 25 = .ok (.freturn, 1) := by decide +kernel
set_option maxRecDepth 20000 in
theorem ggX5_quietHours_X4_hasMill : GoodIn wsX5_quietHours wsX4_hasMill := goodIn_r _ [6, 7, 75, 76, 77, 78, 79, 80, 81, 82, 83, 84, 85] (by decide +kernel) (by decide +kernel)
set_option maxRecDepth 20000 in
theorem gX5_quietHours_X4_hasMill : GoodIn wsX5_quietHours (wsV RX5 102 RX4 yX4_hasMill wsX4_hasMill) := goodIn_app (goodIn_of _ (by decide +kernel)) ggX5_quietHours_X4_hasMill
set_option maxRecDepth 20000 in
theorem ggX5_quietHours_X4_blows : GoodIn wsX5_quietHours wsX4_blows := goodIn_r _ [11, 12, 13, 14, 5, 15, 16, 17, 18, 19, 75, 76, 77, 78, 79, 80, 81, 82, 83, 84, 85] (by decide +kernel) (by decide +kernel)
set_option maxRecDepth 20000 in
theorem gX5_quietHours_X4_blows : GoodIn wsX5_quietHours (wsV RX5 229 RX4 yX4_blows wsX4_blows) := goodIn_app (goodIn_of _ (by decide +kernel)) ggX5_quietHours_X4_blows
set_option maxRecDepth 20000 in
theorem ggX5_quietHours_X4_troubledIfUntied : GoodIn wsX5_quietHours wsX4_troubledIfUntied := goodIn_r _ [23, 24, 25, 26, 27, 5, 28, 29, 30, 31, 17, 18, 19, 32, 33, 34, 35, 36, 37, 38, 39, 12, 13, 14, 15, 16, 40, 41, 42, 43, 44, 45, 46, 47, 48, 49, 50, 51, 52, 53, 54, 55, 9, 10, 11, 56, 57, 58, 59, 60, 61, 62, 63, 64, 65, 66, 67, 68, 75, 76, 77, 78, 79, 80, 81, 82, 83, 84, 85] (by decide +kernel) (by decide +kernel)
set_option maxRecDepth 20000 in
theorem gX5_quietHours_X4_troubledIfUntied : GoodIn wsX5_quietHours (wsV RX5 232 RX4 yX4_troubledIfUntied wsX4_troubledIfUntied) := goodIn_app (goodIn_of _ (by decide +kernel)) ggX5_quietHours_X4_troubledIfUntied
theorem dX5_quietHours_0 : decode cX5_quietHours 0 = .ok (.aload_n 0, 1) := by decide +kernel
theorem dX5_quietHours_1 : decode cX5_quietHours 1 = .ok (.getfield 12, 3) := by decide +kernel
theorem dX5_quietHours_4 : decode cX5_quietHours 4 = .ok (.iload_n 1, 1) := by decide +kernel
theorem dX5_quietHours_5 : decode cX5_quietHours 5 = .ok (.invokevirtual 102, 3) := by decide +kernel
theorem dX5_quietHours_8 : decode cX5_quietHours 8 = .ok (.ifCond .ne 5, 3) := by decide +kernel
theorem dX5_quietHours_11 : decode cX5_quietHours 11 = .ok (.iconst (-1), 1) := by decide +kernel
theorem dX5_quietHours_12 : decode cX5_quietHours 12 = .ok (.ireturn, 1) := by decide +kernel
theorem dX5_quietHours_13 : decode cX5_quietHours 13 = .ok (.iconst 0, 1) := by decide +kernel
theorem dX5_quietHours_14 : decode cX5_quietHours 14 = .ok (.istore_n 2, 1) := by decide +kernel
theorem dX5_quietHours_15 : decode cX5_quietHours 15 = .ok (.iconst 0, 1) := by decide +kernel
theorem dX5_quietHours_16 : decode cX5_quietHours 16 = .ok (.istore_n 3, 1) := by decide +kernel
theorem dX5_quietHours_17 : decode cX5_quietHours 17 = .ok (.iload_n 3, 1) := by decide +kernel
theorem dX5_quietHours_18 : decode cX5_quietHours 18 = .ok (.bipush 24, 2) := by decide +kernel
theorem dX5_quietHours_20 : decode cX5_quietHours 20 = .ok (.if_icmp .ge 38, 3) := by decide +kernel
theorem dX5_quietHours_23 : decode cX5_quietHours 23 = .ok (.aload_n 0, 1) := by decide +kernel
theorem dX5_quietHours_24 : decode cX5_quietHours 24 = .ok (.getfield 12, 3) := by decide +kernel
theorem dX5_quietHours_27 : decode cX5_quietHours 27 = .ok (.iload_n 3, 1) := by decide +kernel
theorem dX5_quietHours_28 : decode cX5_quietHours 28 = .ok (.invokevirtual 229, 3) := by decide +kernel
theorem dX5_quietHours_31 : decode cX5_quietHours 31 = .ok (.ifCond .eq 21, 3) := by decide +kernel
theorem dX5_quietHours_34 : decode cX5_quietHours 34 = .ok (.aload_n 0, 1) := by decide +kernel
theorem dX5_quietHours_35 : decode cX5_quietHours 35 = .ok (.getfield 12, 3) := by decide +kernel
theorem dX5_quietHours_38 : decode cX5_quietHours 38 = .ok (.iload_n 1, 1) := by decide +kernel
theorem dX5_quietHours_39 : decode cX5_quietHours 39 = .ok (.iload_n 3, 1) := by decide +kernel
theorem dX5_quietHours_40 : decode cX5_quietHours 40 = .ok (.invokevirtual 232, 3) := by decide +kernel
theorem dX5_quietHours_43 : decode cX5_quietHours 43 = .ok (.ifCond .ne 9, 3) := by decide +kernel
theorem dX5_quietHours_46 : decode cX5_quietHours 46 = .ok (.iload_n 2, 1) := by decide +kernel
theorem dX5_quietHours_47 : decode cX5_quietHours 47 = .ok (.iconst 1, 1) := by decide +kernel
theorem dX5_quietHours_48 : decode cX5_quietHours 48 = .ok (.iload_n 3, 1) := by decide +kernel
theorem dX5_quietHours_49 : decode cX5_quietHours 49 = .ok (.ishl, 1) := by decide +kernel
theorem dX5_quietHours_50 : decode cX5_quietHours 50 = .ok (.ior, 1) := by decide +kernel
theorem dX5_quietHours_51 : decode cX5_quietHours 51 = .ok (.istore_n 2, 1) := by decide +kernel
theorem dX5_quietHours_52 : decode cX5_quietHours 52 = .ok (.iinc 3 1, 3) := by decide +kernel
theorem dX5_quietHours_55 : decode cX5_quietHours 55 = .ok (.goto (-38), 3) := by decide +kernel
theorem dX5_quietHours_58 : decode cX5_quietHours 58 = .ok (.iload_n 2, 1) := by decide +kernel
theorem dX5_quietHours_59 : decode cX5_quietHours 59 = .ok (.ireturn, 1) := by decide +kernel
set_option maxRecDepth 20000 in
theorem ggX5_loudest_X5_isHour : GoodIn wsX5_loudest wsX5_isHour := goodIn_r _ [5] (by decide +kernel) (by decide +kernel)
set_option maxRecDepth 20000 in
theorem gX5_loudest_X5_isHour : GoodIn wsX5_loudest (va_wsS RX5 109 yX5_isHour wsX5_isHour) := goodIn_app (goodIn_of _ (by decide +kernel)) ggX5_loudest_X5_isHour
set_option maxRecDepth 20000 in
theorem ggX5_loudest_X4_noiseOfAllMills : GoodIn wsX5_loudest wsX4_noiseOfAllMills := goodIn_r _ [10, 11, 12, 13, 4, 14, 15, 16, 17, 9, 18, 19, 20, 21, 22, 23, 24, 25, 26, 27, 28, 29, 30, 31, 32, 33, 34, 35, 36, 37, 38, 39, 40, 41, 42, 43, 44, 45, 46, 47, 54, 55, 56, 57, 58, 59, 60, 61, 62, 63, 64] (by decide +kernel) (by decide +kernel)
set_option maxRecDepth 20000 in
theorem gX5_loudest_X4_noiseOfAllMills : GoodIn wsX5_loudest (wsV RX5 235 RX4 yX4_noiseOfAllMills wsX4_noiseOfAllMills) := goodIn_app (goodIn_of _ (by decide +kernel)) ggX5_loudest_X4_noiseOfAllMills
theorem dX5_loudest_0 : decode cX5_loudest 0 = .ok (.iload_n 1, 1) := by decide +kernel
theorem dX5_loudest_1 : decode cX5_loudest 1 = .ok (.invokestatic 109, 3) := by decide +kernel
theorem dX5_loudest_4 : decode cX5_loudest 4 = .ok (.ifCond .ne 5, 3) := by decide +kernel
theorem dX5_loudest_7 : decode cX5_loudest 7 = .ok (.iconst (-1), 1) := by decide +kernel
theorem dX5_loudest_8 : decode cX5_loudest 8 = .ok (.ireturn, 1) := by decide +kernel
theorem dX5_loudest_9 : decode cX5_loudest 9 = .ok (.bipush (-5), 2) := by decide +kernel
theorem dX5_loudest_11 : decode cX5_loudest 11 = .ok (.istore_n 2, 1) := by decide +kernel
theorem dX5_loudest_12 : decode cX5_loudest 12 = .ok (.iconst 0, 1) := by decide +kernel
theorem dX5_loudest_13 : decode cX5_loudest 13 = .ok (.istore_n 3, 1) := by decide +kernel
theorem dX5_loudest_14 : decode cX5_loudest 14 = .ok (.iconst 0, 1) := by decide +kernel
theorem dX5_loudest_15 : decode cX5_loudest 15 = .ok (.istore 4, 2) := by decide +kernel
theorem dX5_loudest_17 : decode cX5_loudest 17 = .ok (.iload 4, 2) := by decide +kernel
theorem dX5_loudest_19 : decode cX5_loudest 19 = .ok (.aload_n 0, 1) := by decide +kernel
theorem dX5_loudest_20 : decode cX5_loudest 20 = .ok (.getfield 12, 3) := by decide +kernel
theorem dX5_loudest_23 : decode cX5_loudest 23 = .ok (.getfield 140, 3) := by decide +kernel
theorem dX5_loudest_26 : decode cX5_loudest 26 = .ok (.if_icmp .ge 33, 3) := by decide +kernel
theorem dX5_loudest_29 : decode cX5_loudest 29 = .ok (.aload_n 0, 1) := by decide +kernel
theorem dX5_loudest_30 : decode cX5_loudest 30 = .ok (.getfield 12, 3) := by decide +kernel
theorem dX5_loudest_33 : decode cX5_loudest 33 = .ok (.iload 4, 2) := by decide +kernel
theorem dX5_loudest_35 : decode cX5_loudest 35 = .ok (.iload_n 1, 1) := by decide +kernel
theorem dX5_loudest_36 : decode cX5_loudest 36 = .ok (.invokevirtual 235, 3) := by decide +kernel
theorem dX5_loudest_39 : decode cX5_loudest 39 = .ok (.istore 5, 2) := by decide +kernel
theorem dX5_loudest_41 : decode cX5_loudest 41 = .ok (.iload 5, 2) := by decide +kernel
theorem dX5_loudest_43 : decode cX5_loudest 43 = .ok (.iload_n 3, 1) := by decide +kernel
theorem dX5_loudest_44 : decode cX5_loudest 44 = .ok (.if_icmp .le 9, 3) := by decide +kernel
theorem dX5_loudest_47 : decode cX5_loudest 47 = .ok (.iload 5, 2) := by decide +kernel
theorem dX5_loudest_49 : decode cX5_loudest 49 = .ok (.istore_n 3, 1) := by decide +kernel
theorem dX5_loudest_50 : decode cX5_loudest 50 = .ok (.iload 4, 2) := by decide +kernel
theorem dX5_loudest_52 : decode cX5_loudest 52 = .ok (.istore_n 2, 1) := by decide +kernel
theorem dX5_loudest_53 : decode cX5_loudest 53 = .ok (.iinc 4 1, 3) := by decide +kernel
theorem dX5_loudest_56 : decode cX5_loudest 56 = .ok (.goto (-39), 3) := by decide +kernel
theorem dX5_loudest_59 : decode cX5_loudest 59 = .ok (.iload_n 2, 1) := by decide +kernel
theorem dX5_loudest_60 : decode cX5_loudest 60 = .ok (.ireturn, 1) := by decide +kernel
set_option maxRecDepth 20000 in
theorem ggX5_bestTied_X4_hasMill : GoodIn wsX5_bestTied wsX4_hasMill := goodIn_r _ [6, 7, 88, 89, 90, 91, 92, 93, 94, 95, 96, 97, 98] (by decide +kernel) (by decide +kernel)
set_option maxRecDepth 20000 in
theorem gX5_bestTied_X4_hasMill : GoodIn wsX5_bestTied (wsV RX5 102 RX4 yX4_hasMill wsX4_hasMill) := goodIn_app (goodIn_of _ (by decide +kernel)) ggX5_bestTied_X4_hasMill
set_option maxRecDepth 20000 in
theorem ggX5_bestTied_X4_turns : GoodIn wsX5_bestTied wsX4_turns := goodIn_r _ [11, 12, 13, 14, 5, 15, 16, 17, 18, 19, 20, 21, 22, 23, 24, 25, 26, 27, 28, 29, 30, 31, 32, 88, 89, 90, 91, 92, 93, 94, 95, 96, 97, 98] (by decide +kernel) (by decide +kernel)
set_option maxRecDepth 20000 in
theorem gX5_bestTied_X4_turns : GoodIn wsX5_bestTied (wsV RX5 238 RX4 yX4_turns wsX4_turns) := goodIn_app (goodIn_of _ (by decide +kernel)) ggX5_bestTied_X4_turns
set_option maxRecDepth 20000 in
theorem ggX5_bestTied_X4_troubledIfUntied : GoodIn wsX5_bestTied wsX4_troubledIfUntied := goodIn_r _ [36, 37, 38, 39, 40, 5, 41, 42, 43, 44, 21, 22, 23, 45, 46, 47, 48, 49, 50, 51, 52, 16, 17, 18, 19, 20, 53, 54, 55, 56, 57, 58, 59, 60, 61, 62, 63, 64, 65, 66, 67, 12, 13, 14, 15, 68, 69, 70, 71, 72, 73, 74, 75, 76, 77, 78, 79, 80, 88, 89, 90, 91, 92, 93, 94, 95, 96, 97, 98] (by decide +kernel) (by decide +kernel)
set_option maxRecDepth 20000 in
theorem gX5_bestTied_X4_troubledIfUntied : GoodIn wsX5_bestTied (wsV RX5 232 RX4 yX4_troubledIfUntied wsX4_troubledIfUntied) := goodIn_app (goodIn_of _ (by decide +kernel)) ggX5_bestTied_X4_troubledIfUntied
set_option maxRecDepth 20000 in
theorem ggX5_bestTied_X4_windAt : GoodIn wsX5_bestTied wsX4_windAt := goodIn_r _ [19, 20, 21, 22, 23, 88, 89, 90, 91, 92, 93, 94, 95, 96, 97, 98] (by decide +kernel) (by decide +kernel)
set_option maxRecDepth 20000 in
theorem gX5_bestTied_X4_windAt : GoodIn wsX5_bestTied (wsV RX5 125 RX4 yX4_windAt wsX4_windAt) := goodIn_app (goodIn_of _ (by decide +kernel)) ggX5_bestTied_X4_windAt
theorem dX5_bestTied_0 : decode cX5_bestTied 0 = .ok (.aload_n 0, 1) := by decide +kernel
theorem dX5_bestTied_1 : decode cX5_bestTied 1 = .ok (.getfield 12, 3) := by decide +kernel
theorem dX5_bestTied_4 : decode cX5_bestTied 4 = .ok (.iload_n 1, 1) := by decide +kernel
theorem dX5_bestTied_5 : decode cX5_bestTied 5 = .ok (.invokevirtual 102, 3) := by decide +kernel
theorem dX5_bestTied_8 : decode cX5_bestTied 8 = .ok (.ifCond .ne 5, 3) := by decide +kernel
theorem dX5_bestTied_11 : decode cX5_bestTied 11 = .ok (.iconst (-1), 1) := by decide +kernel
theorem dX5_bestTied_12 : decode cX5_bestTied 12 = .ok (.ireturn, 1) := by decide +kernel
theorem dX5_bestTied_13 : decode cX5_bestTied 13 = .ok (.bipush (-5), 2) := by decide +kernel
theorem dX5_bestTied_15 : decode cX5_bestTied 15 = .ok (.istore_n 2, 1) := by decide +kernel
theorem dX5_bestTied_16 : decode cX5_bestTied 16 = .ok (.iconst 0, 1) := by decide +kernel
theorem dX5_bestTied_17 : decode cX5_bestTied 17 = .ok (.istore_n 3, 1) := by decide +kernel
theorem dX5_bestTied_18 : decode cX5_bestTied 18 = .ok (.iconst 0, 1) := by decide +kernel
theorem dX5_bestTied_19 : decode cX5_bestTied 19 = .ok (.istore 4, 2) := by decide +kernel
theorem dX5_bestTied_21 : decode cX5_bestTied 21 = .ok (.iload 4, 2) := by decide +kernel
theorem dX5_bestTied_23 : decode cX5_bestTied 23 = .ok (.bipush 24, 2) := by decide +kernel
theorem dX5_bestTied_25 : decode cX5_bestTied 25 = .ok (.if_icmp .ge 94, 3) := by decide +kernel
theorem dX5_bestTied_28 : decode cX5_bestTied 28 = .ok (.aload_n 0, 1) := by decide +kernel
theorem dX5_bestTied_29 : decode cX5_bestTied 29 = .ok (.getfield 12, 3) := by decide +kernel
theorem dX5_bestTied_32 : decode cX5_bestTied 32 = .ok (.iload_n 1, 1) := by decide +kernel
theorem dX5_bestTied_33 : decode cX5_bestTied 33 = .ok (.iload 4, 2) := by decide +kernel
theorem dX5_bestTied_35 : decode cX5_bestTied 35 = .ok (.invokevirtual 238, 3) := by decide +kernel
theorem dX5_bestTied_38 : decode cX5_bestTied 38 = .ok (.ifCond .eq 16, 3) := by decide +kernel
theorem dX5_bestTied_41 : decode cX5_bestTied 41 = .ok (.aload_n 0, 1) := by decide +kernel
theorem dX5_bestTied_42 : decode cX5_bestTied 42 = .ok (.getfield 12, 3) := by decide +kernel
theorem dX5_bestTied_45 : decode cX5_bestTied 45 = .ok (.iload_n 1, 1) := by decide +kernel
theorem dX5_bestTied_46 : decode cX5_bestTied 46 = .ok (.iload 4, 2) := by decide +kernel
theorem dX5_bestTied_48 : decode cX5_bestTied 48 = .ok (.invokevirtual 232, 3) := by decide +kernel
theorem dX5_bestTied_51 : decode cX5_bestTied 51 = .ok (.goto 4, 3) := by decide +kernel
theorem dX5_bestTied_54 : decode cX5_bestTied 54 = .ok (.iconst 0, 1) := by decide +kernel
theorem dX5_bestTied_55 : decode cX5_bestTied 55 = .ok (.istore 5, 2) := by decide +kernel
theorem dX5_bestTied_57 : decode cX5_bestTied 57 = .ok (.iload_n 2, 1) := by decide +kernel
theorem dX5_bestTied_58 : decode cX5_bestTied 58 = .ok (.bipush (-5), 2) := by decide +kernel
theorem dX5_bestTied_60 : decode cX5_bestTied 60 = .ok (.if_icmp .eq 27, 3) := by decide +kernel
theorem dX5_bestTied_63 : decode cX5_bestTied 63 = .ok (.aload_n 0, 1) := by decide +kernel
theorem dX5_bestTied_64 : decode cX5_bestTied 64 = .ok (.getfield 12, 3) := by decide +kernel
theorem dX5_bestTied_67 : decode cX5_bestTied 67 = .ok (.iload 4, 2) := by decide +kernel
theorem dX5_bestTied_69 : decode cX5_bestTied 69 = .ok (.invokevirtual 125, 3) := by decide +kernel
theorem dX5_bestTied_72 : decode cX5_bestTied 72 = .ok (.aload_n 0, 1) := by decide +kernel
theorem dX5_bestTied_73 : decode cX5_bestTied 73 = .ok (.getfield 12, 3) := by decide +kernel
theorem dX5_bestTied_76 : decode cX5_bestTied 76 = .ok (.iload_n 2, 1) := by decide +kernel
theorem dX5_bestTied_77 : decode cX5_bestTied 77 = .ok (.invokevirtual 125, 3) := by decide +kernel
theorem dX5_bestTied_80 : decode cX5_bestTied 80 = .ok (.if_icmp .ge 7, 3) := by decide +kernel
theorem dX5_bestTied_83 : decode cX5_bestTied 83 = .ok (.iconst 1, 1) := by decide +kernel
theorem dX5_bestTied_84 : decode cX5_bestTied 84 = .ok (.goto 4, 3) := by decide +kernel
theorem dX5_bestTied_87 : decode cX5_bestTied 87 = .ok (.iconst 0, 1) := by decide +kernel
theorem dX5_bestTied_88 : decode cX5_bestTied 88 = .ok (.istore 6, 2) := by decide +kernel
theorem dX5_bestTied_90 : decode cX5_bestTied 90 = .ok (.iload 5, 2) := by decide +kernel
theorem dX5_bestTied_92 : decode cX5_bestTied 92 = .ok (.iload_n 3, 1) := by decide +kernel
theorem dX5_bestTied_93 : decode cX5_bestTied 93 = .ok (.if_icmp .gt 14, 3) := by decide +kernel
theorem dX5_bestTied_96 : decode cX5_bestTied 96 = .ok (.iload 5, 2) := by decide +kernel
theorem dX5_bestTied_98 : decode cX5_bestTied 98 = .ok (.iload_n 3, 1) := by decide +kernel
theorem dX5_bestTied_99 : decode cX5_bestTied 99 = .ok (.if_icmp .ne 14, 3) := by decide +kernel
theorem dX5_bestTied_102 : decode cX5_bestTied 102 = .ok (.iload 6, 2) := by decide +kernel
theorem dX5_bestTied_104 : decode cX5_bestTied 104 = .ok (.ifCond .eq 9, 3) := by decide +kernel
theorem dX5_bestTied_107 : decode cX5_bestTied 107 = .ok (.iload 5, 2) := by decide +kernel
theorem dX5_bestTied_109 : decode cX5_bestTied 109 = .ok (.istore_n 3, 1) := by decide +kernel
theorem dX5_bestTied_110 : decode cX5_bestTied 110 = .ok (.iload 4, 2) := by decide +kernel
theorem dX5_bestTied_112 : decode cX5_bestTied 112 = .ok (.istore_n 2, 1) := by decide +kernel
theorem dX5_bestTied_113 : decode cX5_bestTied 113 = .ok (.iinc 4 1, 3) := by decide +kernel
theorem dX5_bestTied_116 : decode cX5_bestTied 116 = .ok (.goto (-95), 3) := by decide +kernel
theorem dX5_bestTied_119 : decode cX5_bestTied 119 = .ok (.iload_n 2, 1) := by decide +kernel
theorem dX5_bestTied_120 : decode cX5_bestTied 120 = .ok (.ireturn, 1) := by decide +kernel
set_option maxRecDepth 20000 in
theorem ggX5_ifVoted_X4_hasMill : GoodIn wsX5_ifVoted wsX4_hasMill := goodIn_r _ [6, 7, 81, 82, 83, 84, 85, 86, 87, 88, 89, 90, 91] (by decide +kernel) (by decide +kernel)
set_option maxRecDepth 20000 in
theorem gX5_ifVoted_X4_hasMill : GoodIn wsX5_ifVoted (wsV RX5 102 RX4 yX4_hasMill wsX4_hasMill) := goodIn_app (goodIn_of _ (by decide +kernel)) ggX5_ifVoted_X4_hasMill
set_option maxRecDepth 20000 in
theorem ggX5_ifVoted_X5_isHour : GoodIn wsX5_ifVoted wsX5_isHour := goodIn_r _ [11] (by decide +kernel) (by decide +kernel)
set_option maxRecDepth 20000 in
theorem gX5_ifVoted_X5_isHour : GoodIn wsX5_ifVoted (va_wsS RX5 109 yX5_isHour wsX5_isHour) := goodIn_app (goodIn_of _ (by decide +kernel)) ggX5_ifVoted_X5_isHour
set_option maxRecDepth 20000 in
theorem ggX5_ifVoted_X4_votesForUntying : GoodIn wsX5_ifVoted wsX4_votesForUntying := goodIn_r _ [15, 16, 17, 18, 19, 5, 20, 21, 22, 23, 24, 25, 26, 27, 28, 10, 29, 30, 31, 32, 33, 34, 35, 36, 37, 38, 39, 40, 41, 42, 43, 44, 45, 46, 47, 48, 49, 50, 51, 52, 53, 54, 55, 56, 57, 58, 59, 60, 61, 62, 63, 64, 65, 66, 67, 68, 69, 70, 71, 72, 73, 74, 81, 82, 83, 84, 85, 86, 87, 88, 89, 90, 91] (by decide +kernel) (by decide +kernel)
set_option maxRecDepth 20000 in
theorem gX5_ifVoted_X4_votesForUntying : GoodIn wsX5_ifVoted (wsV RX5 143 RX4 yX4_votesForUntying wsX4_votesForUntying) := goodIn_app (goodIn_of _ (by decide +kernel)) ggX5_ifVoted_X4_votesForUntying
theorem dX5_ifVoted_0 : decode cX5_ifVoted 0 = .ok (.aload_n 0, 1) := by decide +kernel
theorem dX5_ifVoted_1 : decode cX5_ifVoted 1 = .ok (.getfield 12, 3) := by decide +kernel
theorem dX5_ifVoted_4 : decode cX5_ifVoted 4 = .ok (.iload_n 1, 1) := by decide +kernel
theorem dX5_ifVoted_5 : decode cX5_ifVoted 5 = .ok (.invokevirtual 102, 3) := by decide +kernel
theorem dX5_ifVoted_8 : decode cX5_ifVoted 8 = .ok (.ifCond .eq 10, 3) := by decide +kernel
theorem dX5_ifVoted_11 : decode cX5_ifVoted 11 = .ok (.iload_n 2, 1) := by decide +kernel
theorem dX5_ifVoted_12 : decode cX5_ifVoted 12 = .ok (.invokestatic 109, 3) := by decide +kernel
theorem dX5_ifVoted_15 : decode cX5_ifVoted 15 = .ok (.ifCond .ne 5, 3) := by decide +kernel
theorem dX5_ifVoted_18 : decode cX5_ifVoted 18 = .ok (.iconst (-1), 1) := by decide +kernel
theorem dX5_ifVoted_19 : decode cX5_ifVoted 19 = .ok (.ireturn, 1) := by decide +kernel
theorem dX5_ifVoted_20 : decode cX5_ifVoted 20 = .ok (.aload_n 0, 1) := by decide +kernel
theorem dX5_ifVoted_21 : decode cX5_ifVoted 21 = .ok (.getfield 12, 3) := by decide +kernel
theorem dX5_ifVoted_24 : decode cX5_ifVoted 24 = .ok (.iload_n 1, 1) := by decide +kernel
theorem dX5_ifVoted_25 : decode cX5_ifVoted 25 = .ok (.iload_n 2, 1) := by decide +kernel
theorem dX5_ifVoted_26 : decode cX5_ifVoted 26 = .ok (.invokevirtual 143, 3) := by decide +kernel
theorem dX5_ifVoted_29 : decode cX5_ifVoted 29 = .ok (.ireturn, 1) := by decide +kernel
set_option maxRecDepth 20000 in
theorem ggX5_recorded_X5_isVain : GoodIn wsX5_recorded wsX5_isVain := goodIn_r _ [6] (by decide +kernel) (by decide +kernel)
set_option maxRecDepth 20000 in
theorem gX5_recorded_X5_isVain : GoodIn wsX5_recorded (va_wsS RX5 241 yX5_isVain wsX5_isVain) := goodIn_app (goodIn_of _ (by decide +kernel)) ggX5_recorded_X5_isVain
set_option maxRecDepth 20000 in
theorem ggX5_recorded_X1_add : GoodIn wsX5_recorded wsX1_add := goodIn_r _ [11, 12, 13, 14, 15, 16, 10, 17, 18, 19, 20, 21, 22, 23, 24, 25, 26, 27, 28, 29, 30, 31, 32, 33, 34, 35, 5, 36, 43, 44, 45, 46, 47, 48, 49, 50, 51, 52, 53, 54, 55, 56] (by decide +kernel) (by decide +kernel)
set_option maxRecDepth 20000 in
theorem gX5_recorded_X1_add : GoodIn wsX5_recorded (wsV RX5 244 RX1 yX1_add wsX1_add) := goodIn_app (goodIn_of _ (by decide +kernel)) ggX5_recorded_X1_add
theorem dX5_recorded_0 : decode cX5_recorded 0 = .ok (.iload_n 1, 1) := by decide +kernel
theorem dX5_recorded_1 : decode cX5_recorded 1 = .ok (.ifCond .ge 13, 3) := by decide +kernel
theorem dX5_recorded_4 : decode cX5_recorded 4 = .ok (.bipush (-10), 2) := by decide +kernel
theorem dX5_recorded_6 : decode cX5_recorded 6 = .ok (.iload_n 1, 1) := by decide +kernel
theorem dX5_recorded_7 : decode cX5_recorded 7 = .ok (.isub, 1) := by decide +kernel
theorem dX5_recorded_8 : decode cX5_recorded 8 = .ok (.invokestatic 241, 3) := by decide +kernel
theorem dX5_recorded_11 : decode cX5_recorded 11 = .ok (.ifCond .eq 14, 3) := by decide +kernel
theorem dX5_recorded_14 : decode cX5_recorded 14 = .ok (.aload_n 0, 1) := by decide +kernel
theorem dX5_recorded_15 : decode cX5_recorded 15 = .ok (.getfield 29, 3) := by decide +kernel
theorem dX5_recorded_18 : decode cX5_recorded 18 = .ok (.aload_n 0, 1) := by decide +kernel
theorem dX5_recorded_19 : decode cX5_recorded 19 = .ok (.getfield 16, 3) := by decide +kernel
theorem dX5_recorded_22 : decode cX5_recorded 22 = .ok (.invokevirtual 244, 3) := by decide +kernel
theorem dX5_recorded_25 : decode cX5_recorded 25 = .ok (.iload_n 1, 1) := by decide +kernel
theorem dX5_recorded_26 : decode cX5_recorded 26 = .ok (.ireturn, 1) := by decide +kernel
theorem dX5_isVain_0 : decode cX5_isVain 0 = .ok (.iload_n 0, 1) := by decide +kernel
theorem dX5_isVain_1 : decode cX5_isVain 1 = .ok (.iconst 4, 1) := by decide +kernel
theorem dX5_isVain_2 : decode cX5_isVain 2 = .ok (.if_icmp .lt 13, 3) := by decide +kernel
theorem dX5_isVain_5 : decode cX5_isVain 5 = .ok (.iload_n 0, 1) := by decide +kernel
theorem dX5_isVain_6 : decode cX5_isVain 6 = .ok (.bipush 6, 2) := by decide +kernel
theorem dX5_isVain_8 : decode cX5_isVain 8 = .ok (.if_icmp .gt 7, 3) := by decide +kernel
theorem dX5_isVain_11 : decode cX5_isVain 11 = .ok (.iconst 1, 1) := by decide +kernel
theorem dX5_isVain_12 : decode cX5_isVain 12 = .ok (.goto 4, 3) := by decide +kernel
theorem dX5_isVain_15 : decode cX5_isVain 15 = .ok (.iconst 0, 1) := by decide +kernel
theorem dX5_isVain_16 : decode cX5_isVain 16 = .ok (.ireturn, 1) := by decide +kernel
set_option maxRecDepth 20000 in
theorem ggX5_bringMill_X5_isYard : GoodIn wsX5_bringMill wsX5_isYard := goodIn_r _ [5] (by decide +kernel) (by decide +kernel)
set_option maxRecDepth 20000 in
theorem gX5_bringMill_X5_isYard : GoodIn wsX5_bringMill (va_wsS RX5 163 yX5_isYard wsX5_isYard) := goodIn_app (goodIn_of _ (by decide +kernel)) ggX5_bringMill_X5_isYard
set_option maxRecDepth 20000 in
theorem ggX5_bringMill_X4_isFree : GoodIn wsX5_bringMill wsX4_isFree := goodIn_r _ [10, 11, 12, 13, 9, 14, 15, 16, 17, 18, 19, 20, 4, 21, 22, 23, 24, 25, 26, 27, 37, 38, 39, 40, 41, 42, 43, 44, 45, 46, 47] (by decide +kernel) (by decide +kernel)
set_option maxRecDepth 20000 in
theorem gX5_bringMill_X4_isFree : GoodIn wsX5_bringMill (wsV RX5 246 RX4 yX4_isFree wsX4_isFree) := goodIn_app (goodIn_of _ (by decide +kernel)) ggX5_bringMill_X4_isFree
set_option maxRecDepth 20000 in
theorem ggX5_bringMill_X5_put : GoodIn wsX5_bringMill wsX5_put := goodIn_r _ [30] (by decide +kernel) (by decide +kernel)
set_option maxRecDepth 20000 in
theorem gX5_bringMill_X5_put : GoodIn wsX5_bringMill (va_wsS RX5 79 yX5_put wsX5_put) := goodIn_app (goodIn_of _ (by decide +kernel)) ggX5_bringMill_X5_put
theorem dX5_bringMill_0 : decode cX5_bringMill 0 = .ok (.iload_n 2, 1) := by decide +kernel
theorem dX5_bringMill_1 : decode cX5_bringMill 1 = .ok (.invokestatic 163, 3) := by decide +kernel
theorem dX5_bringMill_4 : decode cX5_bringMill 4 = .ok (.ifCond .ne 5, 3) := by decide +kernel
theorem dX5_bringMill_7 : decode cX5_bringMill 7 = .ok (.iconst (-1), 1) := by decide +kernel
theorem dX5_bringMill_8 : decode cX5_bringMill 8 = .ok (.ireturn, 1) := by decide +kernel
theorem dX5_bringMill_9 : decode cX5_bringMill 9 = .ok (.iload_n 1, 1) := by decide +kernel
theorem dX5_bringMill_10 : decode cX5_bringMill 10 = .ok (.iconst 1, 1) := by decide +kernel
theorem dX5_bringMill_11 : decode cX5_bringMill 11 = .ok (.if_icmp .lt 8, 3) := by decide +kernel
theorem dX5_bringMill_14 : decode cX5_bringMill 14 = .ok (.iload_n 1, 1) := by decide +kernel
theorem dX5_bringMill_15 : decode cX5_bringMill 15 = .ok (.iconst 5, 1) := by decide +kernel
theorem dX5_bringMill_16 : decode cX5_bringMill 16 = .ok (.if_icmp .le 6, 3) := by decide +kernel
theorem dX5_bringMill_19 : decode cX5_bringMill 19 = .ok (.bipush (-2), 2) := by decide +kernel
theorem dX5_bringMill_21 : decode cX5_bringMill 21 = .ok (.ireturn, 1) := by decide +kernel
theorem dX5_bringMill_22 : decode cX5_bringMill 22 = .ok (.aload_n 0, 1) := by decide +kernel
theorem dX5_bringMill_23 : decode cX5_bringMill 23 = .ok (.getfield 12, 3) := by decide +kernel
theorem dX5_bringMill_26 : decode cX5_bringMill 26 = .ok (.iload_n 2, 1) := by decide +kernel
theorem dX5_bringMill_27 : decode cX5_bringMill 27 = .ok (.invokevirtual 246, 3) := by decide +kernel
theorem dX5_bringMill_30 : decode cX5_bringMill 30 = .ok (.ifCond .ne 6, 3) := by decide +kernel
theorem dX5_bringMill_33 : decode cX5_bringMill 33 = .ok (.bipush (-4), 2) := by decide +kernel
theorem dX5_bringMill_35 : decode cX5_bringMill 35 = .ok (.ireturn, 1) := by decide +kernel
theorem dX5_bringMill_36 : decode cX5_bringMill 36 = .ok (.aload_n 0, 1) := by decide +kernel
theorem dX5_bringMill_37 : decode cX5_bringMill 37 = .ok (.getfield 12, 3) := by decide +kernel
theorem dX5_bringMill_40 : decode cX5_bringMill 40 = .ok (.getfield 217, 3) := by decide +kernel
theorem dX5_bringMill_43 : decode cX5_bringMill 43 = .ok (.iconst 4, 1) := by decide +kernel
theorem dX5_bringMill_44 : decode cX5_bringMill 44 = .ok (.if_icmp .lt 6, 3) := by decide +kernel
theorem dX5_bringMill_47 : decode cX5_bringMill 47 = .ok (.bipush (-3), 2) := by decide +kernel
theorem dX5_bringMill_49 : decode cX5_bringMill 49 = .ok (.ireturn, 1) := by decide +kernel
theorem dX5_bringMill_50 : decode cX5_bringMill 50 = .ok (.aload_n 0, 1) := by decide +kernel
theorem dX5_bringMill_51 : decode cX5_bringMill 51 = .ok (.getfield 12, 3) := by decide +kernel
theorem dX5_bringMill_54 : decode cX5_bringMill 54 = .ok (.getfield 217, 3) := by decide +kernel
theorem dX5_bringMill_57 : decode cX5_bringMill 57 = .ok (.istore_n 3, 1) := by decide +kernel
theorem dX5_bringMill_58 : decode cX5_bringMill 58 = .ok (.aload_n 0, 1) := by decide +kernel
theorem dX5_bringMill_59 : decode cX5_bringMill 59 = .ok (.getfield 12, 3) := by decide +kernel
theorem dX5_bringMill_62 : decode cX5_bringMill 62 = .ok (.getfield 172, 3) := by decide +kernel
theorem dX5_bringMill_65 : decode cX5_bringMill 65 = .ok (.iload_n 3, 1) := by decide +kernel
theorem dX5_bringMill_66 : decode cX5_bringMill 66 = .ok (.iload_n 1, 1) := by decide +kernel
theorem dX5_bringMill_67 : decode cX5_bringMill 67 = .ok (.invokestatic 79, 3) := by decide +kernel
theorem dX5_bringMill_70 : decode cX5_bringMill 70 = .ok (.aload_n 0, 1) := by decide +kernel
theorem dX5_bringMill_71 : decode cX5_bringMill 71 = .ok (.getfield 12, 3) := by decide +kernel
theorem dX5_bringMill_74 : decode cX5_bringMill 74 = .ok (.getfield 175, 3) := by decide +kernel
theorem dX5_bringMill_77 : decode cX5_bringMill 77 = .ok (.iload_n 3, 1) := by decide +kernel
theorem dX5_bringMill_78 : decode cX5_bringMill 78 = .ok (.iload_n 2, 1) := by decide +kernel
theorem dX5_bringMill_79 : decode cX5_bringMill 79 = .ok (.invokestatic 79, 3) := by decide +kernel
theorem dX5_bringMill_82 : decode cX5_bringMill 82 = .ok (.aload_n 0, 1) := by decide +kernel
theorem dX5_bringMill_83 : decode cX5_bringMill 83 = .ok (.getfield 12, 3) := by decide +kernel
theorem dX5_bringMill_86 : decode cX5_bringMill 86 = .ok (.iload_n 3, 1) := by decide +kernel
theorem dX5_bringMill_87 : decode cX5_bringMill 87 = .ok (.iconst 1, 1) := by decide +kernel
theorem dX5_bringMill_88 : decode cX5_bringMill 88 = .ok (.iadd, 1) := by decide +kernel
theorem dX5_bringMill_89 : decode cX5_bringMill 89 = .ok (.putfield 217, 3) := by decide +kernel
theorem dX5_bringMill_92 : decode cX5_bringMill 92 = .ok (.iload_n 3, 1) := by decide +kernel
theorem dX5_bringMill_93 : decode cX5_bringMill 93 = .ok (.ireturn, 1) := by decide +kernel
set_option maxRecDepth 20000 in
theorem ggX5_bringHouse_X5_isYard : GoodIn wsX5_bringHouse wsX5_isYard := goodIn_r _ [5] (by decide +kernel) (by decide +kernel)
set_option maxRecDepth 20000 in
theorem gX5_bringHouse_X5_isYard : GoodIn wsX5_bringHouse (va_wsS RX5 163 yX5_isYard wsX5_isYard) := goodIn_app (goodIn_of _ (by decide +kernel)) ggX5_bringHouse_X5_isYard
set_option maxRecDepth 20000 in
theorem ggX5_bringHouse_X4_isFree : GoodIn wsX5_bringHouse wsX4_isFree := goodIn_r _ [10, 11, 12, 13, 9, 14, 15, 16, 17, 18, 19, 20, 4, 21, 22, 23, 24, 25, 26, 27, 37, 38, 39, 40, 41, 42, 43, 44, 45, 46, 47] (by decide +kernel) (by decide +kernel)
set_option maxRecDepth 20000 in
theorem gX5_bringHouse_X4_isFree : GoodIn wsX5_bringHouse (wsV RX5 246 RX4 yX4_isFree wsX4_isFree) := goodIn_app (goodIn_of _ (by decide +kernel)) ggX5_bringHouse_X4_isFree
set_option maxRecDepth 20000 in
theorem ggX5_bringHouse_X5_put : GoodIn wsX5_bringHouse wsX5_put := goodIn_r _ [30] (by decide +kernel) (by decide +kernel)
set_option maxRecDepth 20000 in
theorem gX5_bringHouse_X5_put : GoodIn wsX5_bringHouse (va_wsS RX5 79 yX5_put wsX5_put) := goodIn_app (goodIn_of _ (by decide +kernel)) ggX5_bringHouse_X5_put
theorem dX5_bringHouse_0 : decode cX5_bringHouse 0 = .ok (.iload_n 1, 1) := by decide +kernel
theorem dX5_bringHouse_1 : decode cX5_bringHouse 1 = .ok (.invokestatic 163, 3) := by decide +kernel
theorem dX5_bringHouse_4 : decode cX5_bringHouse 4 = .ok (.ifCond .ne 5, 3) := by decide +kernel
theorem dX5_bringHouse_7 : decode cX5_bringHouse 7 = .ok (.iconst (-1), 1) := by decide +kernel
theorem dX5_bringHouse_8 : decode cX5_bringHouse 8 = .ok (.ireturn, 1) := by decide +kernel
theorem dX5_bringHouse_9 : decode cX5_bringHouse 9 = .ok (.aload_n 0, 1) := by decide +kernel
theorem dX5_bringHouse_10 : decode cX5_bringHouse 10 = .ok (.getfield 12, 3) := by decide +kernel
theorem dX5_bringHouse_13 : decode cX5_bringHouse 13 = .ok (.iload_n 1, 1) := by decide +kernel
theorem dX5_bringHouse_14 : decode cX5_bringHouse 14 = .ok (.invokevirtual 246, 3) := by decide +kernel
theorem dX5_bringHouse_17 : decode cX5_bringHouse 17 = .ok (.ifCond .ne 6, 3) := by decide +kernel
theorem dX5_bringHouse_20 : decode cX5_bringHouse 20 = .ok (.bipush (-4), 2) := by decide +kernel
theorem dX5_bringHouse_22 : decode cX5_bringHouse 22 = .ok (.ireturn, 1) := by decide +kernel
theorem dX5_bringHouse_23 : decode cX5_bringHouse 23 = .ok (.aload_n 0, 1) := by decide +kernel
theorem dX5_bringHouse_24 : decode cX5_bringHouse 24 = .ok (.getfield 12, 3) := by decide +kernel
theorem dX5_bringHouse_27 : decode cX5_bringHouse 27 = .ok (.getfield 140, 3) := by decide +kernel
theorem dX5_bringHouse_30 : decode cX5_bringHouse 30 = .ok (.bipush 10, 2) := by decide +kernel
theorem dX5_bringHouse_32 : decode cX5_bringHouse 32 = .ok (.if_icmp .lt 6, 3) := by decide +kernel
theorem dX5_bringHouse_35 : decode cX5_bringHouse 35 = .ok (.bipush (-3), 2) := by decide +kernel
theorem dX5_bringHouse_37 : decode cX5_bringHouse 37 = .ok (.ireturn, 1) := by decide +kernel
theorem dX5_bringHouse_38 : decode cX5_bringHouse 38 = .ok (.aload_n 0, 1) := by decide +kernel
theorem dX5_bringHouse_39 : decode cX5_bringHouse 39 = .ok (.getfield 12, 3) := by decide +kernel
theorem dX5_bringHouse_42 : decode cX5_bringHouse 42 = .ok (.getfield 140, 3) := by decide +kernel
theorem dX5_bringHouse_45 : decode cX5_bringHouse 45 = .ok (.istore_n 2, 1) := by decide +kernel
theorem dX5_bringHouse_46 : decode cX5_bringHouse 46 = .ok (.aload_n 0, 1) := by decide +kernel
theorem dX5_bringHouse_47 : decode cX5_bringHouse 47 = .ok (.getfield 12, 3) := by decide +kernel
theorem dX5_bringHouse_50 : decode cX5_bringHouse 50 = .ok (.getfield 187, 3) := by decide +kernel
theorem dX5_bringHouse_53 : decode cX5_bringHouse 53 = .ok (.iload_n 2, 1) := by decide +kernel
theorem dX5_bringHouse_54 : decode cX5_bringHouse 54 = .ok (.iload_n 1, 1) := by decide +kernel
theorem dX5_bringHouse_55 : decode cX5_bringHouse 55 = .ok (.invokestatic 79, 3) := by decide +kernel
theorem dX5_bringHouse_58 : decode cX5_bringHouse 58 = .ok (.aload_n 0, 1) := by decide +kernel
theorem dX5_bringHouse_59 : decode cX5_bringHouse 59 = .ok (.getfield 12, 3) := by decide +kernel
theorem dX5_bringHouse_62 : decode cX5_bringHouse 62 = .ok (.iload_n 2, 1) := by decide +kernel
theorem dX5_bringHouse_63 : decode cX5_bringHouse 63 = .ok (.iconst 1, 1) := by decide +kernel
theorem dX5_bringHouse_64 : decode cX5_bringHouse 64 = .ok (.iadd, 1) := by decide +kernel
theorem dX5_bringHouse_65 : decode cX5_bringHouse 65 = .ok (.putfield 140, 3) := by decide +kernel
theorem dX5_bringHouse_68 : decode cX5_bringHouse 68 = .ok (.iload_n 2, 1) := by decide +kernel
theorem dX5_bringHouse_69 : decode cX5_bringHouse 69 = .ok (.ireturn, 1) := by decide +kernel
set_option maxRecDepth 20000 in
theorem ggX5_tellWind_X5_isHour : GoodIn wsX5_tellWind wsX5_isHour := goodIn_r _ [5] (by decide +kernel) (by decide +kernel)
set_option maxRecDepth 20000 in
theorem gX5_tellWind_X5_isHour : GoodIn wsX5_tellWind (va_wsS RX5 109 yX5_isHour wsX5_isHour) := goodIn_app (goodIn_of _ (by decide +kernel)) ggX5_tellWind_X5_isHour
set_option maxRecDepth 20000 in
theorem ggX5_tellWind_X4_windAt : GoodIn wsX5_tellWind wsX4_windAt := goodIn_r _ [10, 11, 12, 4, 13, 23, 24, 25, 26, 27, 28, 29, 30, 31, 32, 33] (by decide +kernel) (by decide +kernel)
set_option maxRecDepth 20000 in
theorem gX5_tellWind_X4_windAt : GoodIn wsX5_tellWind (wsV RX5 125 RX4 yX4_windAt wsX4_windAt) := goodIn_app (goodIn_of _ (by decide +kernel)) ggX5_tellWind_X4_windAt
set_option maxRecDepth 20000 in
theorem ggX5_tellWind_X5_put : GoodIn wsX5_tellWind wsX5_put := goodIn_r _ [16] (by decide +kernel) (by decide +kernel)
set_option maxRecDepth 20000 in
theorem gX5_tellWind_X5_put : GoodIn wsX5_tellWind (va_wsS RX5 79 yX5_put wsX5_put) := goodIn_app (goodIn_of _ (by decide +kernel)) ggX5_tellWind_X5_put
theorem dX5_tellWind_0 : decode cX5_tellWind 0 = .ok (.iload_n 1, 1) := by decide +kernel
theorem dX5_tellWind_1 : decode cX5_tellWind 1 = .ok (.invokestatic 109, 3) := by decide +kernel
theorem dX5_tellWind_4 : decode cX5_tellWind 4 = .ok (.ifCond .eq 15, 3) := by decide +kernel
theorem dX5_tellWind_7 : decode cX5_tellWind 7 = .ok (.iload_n 2, 1) := by decide +kernel
theorem dX5_tellWind_8 : decode cX5_tellWind 8 = .ok (.invokestatic 109, 3) := by decide +kernel
theorem dX5_tellWind_11 : decode cX5_tellWind 11 = .ok (.ifCond .eq 8, 3) := by decide +kernel
theorem dX5_tellWind_14 : decode cX5_tellWind 14 = .ok (.iload_n 2, 1) := by decide +kernel
theorem dX5_tellWind_15 : decode cX5_tellWind 15 = .ok (.iload_n 1, 1) := by decide +kernel
theorem dX5_tellWind_16 : decode cX5_tellWind 16 = .ok (.if_icmp .ge 5, 3) := by decide +kernel
theorem dX5_tellWind_19 : decode cX5_tellWind 19 = .ok (.iconst (-1), 1) := by decide +kernel
theorem dX5_tellWind_20 : decode cX5_tellWind 20 = .ok (.ireturn, 1) := by decide +kernel
theorem dX5_tellWind_21 : decode cX5_tellWind 21 = .ok (.iload_n 3, 1) := by decide +kernel
theorem dX5_tellWind_22 : decode cX5_tellWind 22 = .ok (.ifCond .lt 9, 3) := by decide +kernel
theorem dX5_tellWind_25 : decode cX5_tellWind 25 = .ok (.iload_n 3, 1) := by decide +kernel
theorem dX5_tellWind_26 : decode cX5_tellWind 26 = .ok (.bipush 9, 2) := by decide +kernel
theorem dX5_tellWind_28 : decode cX5_tellWind 28 = .ok (.if_icmp .le 6, 3) := by decide +kernel
theorem dX5_tellWind_31 : decode cX5_tellWind 31 = .ok (.bipush (-2), 2) := by decide +kernel
theorem dX5_tellWind_33 : decode cX5_tellWind 33 = .ok (.ireturn, 1) := by decide +kernel
theorem dX5_tellWind_34 : decode cX5_tellWind 34 = .ok (.iconst 0, 1) := by decide +kernel
theorem dX5_tellWind_35 : decode cX5_tellWind 35 = .ok (.istore 4, 2) := by decide +kernel
theorem dX5_tellWind_37 : decode cX5_tellWind 37 = .ok (.iload_n 1, 1) := by decide +kernel
theorem dX5_tellWind_38 : decode cX5_tellWind 38 = .ok (.istore 5, 2) := by decide +kernel
theorem dX5_tellWind_40 : decode cX5_tellWind 40 = .ok (.iload 5, 2) := by decide +kernel
theorem dX5_tellWind_42 : decode cX5_tellWind 42 = .ok (.iload_n 2, 1) := by decide +kernel
theorem dX5_tellWind_43 : decode cX5_tellWind 43 = .ok (.if_icmp .gt 38, 3) := by decide +kernel
theorem dX5_tellWind_46 : decode cX5_tellWind 46 = .ok (.aload_n 0, 1) := by decide +kernel
theorem dX5_tellWind_47 : decode cX5_tellWind 47 = .ok (.getfield 12, 3) := by decide +kernel
theorem dX5_tellWind_50 : decode cX5_tellWind 50 = .ok (.iload 5, 2) := by decide +kernel
theorem dX5_tellWind_52 : decode cX5_tellWind 52 = .ok (.invokevirtual 125, 3) := by decide +kernel
theorem dX5_tellWind_55 : decode cX5_tellWind 55 = .ok (.iload_n 3, 1) := by decide +kernel
theorem dX5_tellWind_56 : decode cX5_tellWind 56 = .ok (.if_icmp .eq 19, 3) := by decide +kernel
theorem dX5_tellWind_59 : decode cX5_tellWind 59 = .ok (.aload_n 0, 1) := by decide +kernel
theorem dX5_tellWind_60 : decode cX5_tellWind 60 = .ok (.getfield 12, 3) := by decide +kernel
theorem dX5_tellWind_63 : decode cX5_tellWind 63 = .ok (.getfield 249, 3) := by decide +kernel
theorem dX5_tellWind_66 : decode cX5_tellWind 66 = .ok (.iload 5, 2) := by decide +kernel
theorem dX5_tellWind_68 : decode cX5_tellWind 68 = .ok (.iload_n 3, 1) := by decide +kernel
theorem dX5_tellWind_69 : decode cX5_tellWind 69 = .ok (.invokestatic 79, 3) := by decide +kernel
theorem dX5_tellWind_72 : decode cX5_tellWind 72 = .ok (.iinc 4 1, 3) := by decide +kernel
theorem dX5_tellWind_75 : decode cX5_tellWind 75 = .ok (.iinc 5 1, 3) := by decide +kernel
theorem dX5_tellWind_78 : decode cX5_tellWind 78 = .ok (.goto (-38), 3) := by decide +kernel
theorem dX5_tellWind_81 : decode cX5_tellWind 81 = .ok (.iload 4, 2) := by decide +kernel
theorem dX5_tellWind_83 : decode cX5_tellWind 83 = .ok (.ifCond .ne 8, 3) := by decide +kernel
theorem dX5_tellWind_86 : decode cX5_tellWind 86 = .ok (.bipush (-5), 2) := by decide +kernel
theorem dX5_tellWind_88 : decode cX5_tellWind 88 = .ok (.goto 5, 3) := by decide +kernel
theorem dX5_tellWind_91 : decode cX5_tellWind 91 = .ok (.iload 4, 2) := by decide +kernel
theorem dX5_tellWind_93 : decode cX5_tellWind 93 = .ok (.ireturn, 1) := by decide +kernel
set_option maxRecDepth 20000 in
theorem ggX5_lodge_X4_reasonAgainst : GoodIn wsX5_lodge wsX4_reasonAgainst := goodIn_r _ [6, 7, 8, 9, 5, 10, 11, 12, 13, 14, 15, 16, 17, 18, 19, 20, 21, 22, 23, 24, 25, 26, 27, 28, 29, 30, 31, 32, 33, 34, 35, 36, 37, 38, 39, 40, 41, 42, 43, 44, 45, 46, 47, 48, 49, 50, 51, 52, 53, 54, 55, 56, 57, 58, 59, 60, 61, 62, 63, 64, 65, 66, 67, 68, 69, 70, 71, 72, 73, 74, 75, 76, 77, 78, 79, 80, 81, 82, 83, 84, 85, 86, 87, 88, 89, 90, 91, 92, 93, 94, 95, 96, 97, 98, 132, 133, 134, 135, 136, 137, 138, 139, 140, 141, 142] (by decide +kernel) (by decide +kernel)
set_option maxRecDepth 20000 in
theorem gX5_lodge_X4_reasonAgainst : GoodIn wsX5_lodge (wsV RX5 214 RX4 yX4_reasonAgainst wsX4_reasonAgainst) := goodIn_app (goodIn_of _ (by decide +kernel)) ggX5_lodge_X4_reasonAgainst
set_option maxRecDepth 20000 in
theorem ggX5_lodge_X5_isVain : GoodIn wsX5_lodge wsX5_isVain := goodIn_r _ [101] (by decide +kernel) (by decide +kernel)
set_option maxRecDepth 20000 in
theorem gX5_lodge_X5_isVain : GoodIn wsX5_lodge (va_wsS RX5 241 yX5_isVain wsX5_isVain) := goodIn_app (goodIn_of _ (by decide +kernel)) ggX5_lodge_X5_isVain
set_option maxRecDepth 20000 in
theorem ggX5_lodge_X5_add : GoodIn wsX5_lodge wsX5_add := goodIn_r _ [104, 105, 25, 18, 26, 106, 107, 108] (by decide +kernel) (by decide +kernel)
set_option maxRecDepth 20000 in
theorem gX5_lodge_X5_add : GoodIn wsX5_lodge (va_wsS RX5 122 yX5_add wsX5_add) := goodIn_app (goodIn_of _ (by decide +kernel)) ggX5_lodge_X5_add
set_option maxRecDepth 20000 in
theorem ggX5_lodge_X4_letStand : GoodIn wsX5_lodge wsX4_letStand := goodIn_r _ [112, 31, 32, 33, 5, 34, 25, 18, 26, 107, 108, 132, 133, 134, 135, 136, 137, 138, 139, 140, 141, 142] (by decide +kernel) (by decide +kernel)
set_option maxRecDepth 20000 in
theorem gX5_lodge_X4_letStand : GoodIn wsX5_lodge (wsV RX5 252 RX4 yX4_letStand wsX4_letStand) := goodIn_app (goodIn_of _ (by decide +kernel)) ggX5_lodge_X4_letStand
set_option maxRecDepth 20000 in
theorem ggX5_lodge_X4_points : GoodIn wsX5_lodge wsX4_points := goodIn_r _ [116, 11, 117, 118, 119, 5, 120, 27, 28, 29, 30, 31, 32, 33, 34, 25, 18, 26, 132, 133, 134, 135, 136, 137, 138, 139, 140, 141, 142] (by decide +kernel) (by decide +kernel)
set_option maxRecDepth 20000 in
theorem gX5_lodge_X4_points : GoodIn wsX5_lodge (wsV RX5 256 RX4 yX4_points wsX4_points) := goodIn_app (goodIn_of _ (by decide +kernel)) ggX5_lodge_X4_points
set_option maxRecDepth 20000 in
theorem ggX5_lodge_X4_setting : GoodIn wsX5_lodge wsX4_setting := goodIn_r _ [85, 86, 25, 18, 26, 132, 133, 134, 135, 136, 137, 138, 139, 140, 141, 142] (by decide +kernel) (by decide +kernel)
set_option maxRecDepth 20000 in
theorem gX5_lodge_X4_setting : GoodIn wsX5_lodge (wsV RX5 73 RX4 yX4_setting wsX4_setting) := goodIn_app (goodIn_of _ (by decide +kernel)) ggX5_lodge_X4_setting
set_option maxRecDepth 20000 in
theorem ggX5_lodge_X4_tie : GoodIn wsX5_lodge wsX4_tie := goodIn_r _ [125, 43, 39, 40, 41, 5, 42, 25, 18, 26, 107, 108, 132, 133, 134, 135, 136, 137, 138, 139, 140, 141, 142] (by decide +kernel) (by decide +kernel)
set_option maxRecDepth 20000 in
theorem gX5_lodge_X4_tie : GoodIn wsX5_lodge (wsV RX5 259 RX4 yX4_tie wsX4_tie) := goodIn_app (goodIn_of _ (by decide +kernel)) ggX5_lodge_X4_tie
theorem dX5_lodge_0 : decode cX5_lodge 0 = .ok (.aload_n 0, 1) := by decide +kernel
theorem dX5_lodge_1 : decode cX5_lodge 1 = .ok (.getfield 12, 3) := by decide +kernel
theorem dX5_lodge_4 : decode cX5_lodge 4 = .ok (.iload_n 1, 1) := by decide +kernel
theorem dX5_lodge_5 : decode cX5_lodge 5 = .ok (.iload_n 2, 1) := by decide +kernel
theorem dX5_lodge_6 : decode cX5_lodge 6 = .ok (.iload_n 3, 1) := by decide +kernel
theorem dX5_lodge_7 : decode cX5_lodge 7 = .ok (.iload 4, 2) := by decide +kernel
theorem dX5_lodge_9 : decode cX5_lodge 9 = .ok (.invokevirtual 214, 3) := by decide +kernel
theorem dX5_lodge_12 : decode cX5_lodge 12 = .ok (.istore 5, 2) := by decide +kernel
theorem dX5_lodge_14 : decode cX5_lodge 14 = .ok (.iload 5, 2) := by decide +kernel
theorem dX5_lodge_16 : decode cX5_lodge 16 = .ok (.ifCond .ge 6, 3) := by decide +kernel
theorem dX5_lodge_19 : decode cX5_lodge 19 = .ok (.iload 5, 2) := by decide +kernel
theorem dX5_lodge_21 : decode cX5_lodge 21 = .ok (.ireturn, 1) := by decide +kernel
theorem dX5_lodge_22 : decode cX5_lodge 22 = .ok (.iload 5, 2) := by decide +kernel
theorem dX5_lodge_24 : decode cX5_lodge 24 = .ok (.ifCond .le 41, 3) := by decide +kernel
theorem dX5_lodge_27 : decode cX5_lodge 27 = .ok (.iload 5, 2) := by decide +kernel
theorem dX5_lodge_29 : decode cX5_lodge 29 = .ok (.invokestatic 241, 3) := by decide +kernel
theorem dX5_lodge_32 : decode cX5_lodge 32 = .ok (.ifCond .eq 27, 3) := by decide +kernel
theorem dX5_lodge_35 : decode cX5_lodge 35 = .ok (.aload_n 0, 1) := by decide +kernel
theorem dX5_lodge_36 : decode cX5_lodge 36 = .ok (.getfield 12, 3) := by decide +kernel
theorem dX5_lodge_39 : decode cX5_lodge 39 = .ok (.getfield 190, 3) := by decide +kernel
theorem dX5_lodge_42 : decode cX5_lodge 42 = .ok (.iload_n 1, 1) := by decide +kernel
theorem dX5_lodge_43 : decode cX5_lodge 43 = .ok (.iconst 1, 1) := by decide +kernel
theorem dX5_lodge_44 : decode cX5_lodge 44 = .ok (.invokestatic 122, 3) := by decide +kernel
theorem dX5_lodge_47 : decode cX5_lodge 47 = .ok (.aload_n 0, 1) := by decide +kernel
theorem dX5_lodge_48 : decode cX5_lodge 48 = .ok (.getfield 12, 3) := by decide +kernel
theorem dX5_lodge_51 : decode cX5_lodge 51 = .ok (.getfield 119, 3) := by decide +kernel
theorem dX5_lodge_54 : decode cX5_lodge 54 = .ok (.iconst 1, 1) := by decide +kernel
theorem dX5_lodge_55 : decode cX5_lodge 55 = .ok (.iconst 1, 1) := by decide +kernel
theorem dX5_lodge_56 : decode cX5_lodge 56 = .ok (.invokestatic 122, 3) := by decide +kernel
theorem dX5_lodge_59 : decode cX5_lodge 59 = .ok (.bipush (-10), 2) := by decide +kernel
theorem dX5_lodge_61 : decode cX5_lodge 61 = .ok (.iload 5, 2) := by decide +kernel
theorem dX5_lodge_63 : decode cX5_lodge 63 = .ok (.isub, 1) := by decide +kernel
theorem dX5_lodge_64 : decode cX5_lodge 64 = .ok (.ireturn, 1) := by decide +kernel
theorem dX5_lodge_65 : decode cX5_lodge 65 = .ok (.aload_n 0, 1) := by decide +kernel
theorem dX5_lodge_66 : decode cX5_lodge 66 = .ok (.getfield 12, 3) := by decide +kernel
theorem dX5_lodge_69 : decode cX5_lodge 69 = .ok (.iload_n 1, 1) := by decide +kernel
theorem dX5_lodge_70 : decode cX5_lodge 70 = .ok (.iload_n 2, 1) := by decide +kernel
theorem dX5_lodge_71 : decode cX5_lodge 71 = .ok (.iload_n 3, 1) := by decide +kernel
theorem dX5_lodge_72 : decode cX5_lodge 72 = .ok (.iload 4, 2) := by decide +kernel
theorem dX5_lodge_74 : decode cX5_lodge 74 = .ok (.invokevirtual 252, 3) := by decide +kernel
theorem dX5_lodge_77 : decode cX5_lodge 77 = .ok (.aload_n 0, 1) := by decide +kernel
theorem dX5_lodge_78 : decode cX5_lodge 78 = .ok (.getfield 12, 3) := by decide +kernel
theorem dX5_lodge_81 : decode cX5_lodge 81 = .ok (.getfield 119, 3) := by decide +kernel
theorem dX5_lodge_84 : decode cX5_lodge 84 = .ok (.iconst 0, 1) := by decide +kernel
theorem dX5_lodge_85 : decode cX5_lodge 85 = .ok (.iconst 1, 1) := by decide +kernel
theorem dX5_lodge_86 : decode cX5_lodge 86 = .ok (.invokestatic 122, 3) := by decide +kernel
theorem dX5_lodge_89 : decode cX5_lodge 89 = .ok (.aload_n 0, 1) := by decide +kernel
theorem dX5_lodge_90 : decode cX5_lodge 90 = .ok (.getfield 12, 3) := by decide +kernel
theorem dX5_lodge_93 : decode cX5_lodge 93 = .ok (.iload_n 2, 1) := by decide +kernel
theorem dX5_lodge_94 : decode cX5_lodge 94 = .ok (.iload 4, 2) := by decide +kernel
theorem dX5_lodge_96 : decode cX5_lodge 96 = .ok (.invokevirtual 256, 3) := by decide +kernel
theorem dX5_lodge_99 : decode cX5_lodge 99 = .ok (.istore 6, 2) := by decide +kernel
theorem dX5_lodge_101 : decode cX5_lodge 101 = .ok (.iload 6, 2) := by decide +kernel
theorem dX5_lodge_103 : decode cX5_lodge 103 = .ok (.aload_n 0, 1) := by decide +kernel
theorem dX5_lodge_104 : decode cX5_lodge 104 = .ok (.getfield 12, 3) := by decide +kernel
theorem dX5_lodge_107 : decode cX5_lodge 107 = .ok (.iconst 2, 1) := by decide +kernel
theorem dX5_lodge_108 : decode cX5_lodge 108 = .ok (.invokevirtual 73, 3) := by decide +kernel
theorem dX5_lodge_111 : decode cX5_lodge 111 = .ok (.if_icmp .lt 13, 3) := by decide +kernel
theorem dX5_lodge_114 : decode cX5_lodge 114 = .ok (.aload_n 0, 1) := by decide +kernel
theorem dX5_lodge_115 : decode cX5_lodge 115 = .ok (.getfield 12, 3) := by decide +kernel
theorem dX5_lodge_118 : decode cX5_lodge 118 = .ok (.iload_n 2, 1) := by decide +kernel
theorem dX5_lodge_119 : decode cX5_lodge 119 = .ok (.iload 4, 2) := by decide +kernel
theorem dX5_lodge_121 : decode cX5_lodge 121 = .ok (.invokevirtual 259, 3) := by decide +kernel
theorem dX5_lodge_124 : decode cX5_lodge 124 = .ok (.iload 6, 2) := by decide +kernel
theorem dX5_lodge_126 : decode cX5_lodge 126 = .ok (.ireturn, 1) := by decide +kernel
set_option maxRecDepth 20000 in
theorem ggX5_winSuit_X5_add : GoodIn wsX5_winSuit wsX5_add := goodIn_r _ [5, 6, 7, 4, 8, 9, 10, 11] (by decide +kernel) (by decide +kernel)
set_option maxRecDepth 20000 in
theorem gX5_winSuit_X5_add : GoodIn wsX5_winSuit (va_wsS RX5 122 yX5_add wsX5_add) := goodIn_app (goodIn_of _ (by decide +kernel)) ggX5_winSuit_X5_add
set_option maxRecDepth 20000 in
theorem ggX5_winSuit_X4_dropFor : GoodIn wsX5_winSuit wsX4_dropFor := goodIn_r _ [16, 17, 18, 19, 15, 20, 7, 4, 8, 10, 11, 54, 55, 56, 57, 58, 59, 60, 61, 62, 63, 64] (by decide +kernel) (by decide +kernel)
set_option maxRecDepth 20000 in
theorem gX5_winSuit_X4_dropFor : GoodIn wsX5_winSuit (wsV RX5 150 RX4 yX4_dropFor wsX4_dropFor) := goodIn_app (goodIn_of _ (by decide +kernel)) ggX5_winSuit_X4_dropFor
set_option maxRecDepth 20000 in
theorem ggX5_winSuit_X4_points : GoodIn wsX5_winSuit wsX4_points := goodIn_r _ [24, 25, 26, 27, 28, 15, 29, 30, 31, 32, 33, 17, 18, 19, 20, 7, 4, 8, 54, 55, 56, 57, 58, 59, 60, 61, 62, 63, 64] (by decide +kernel) (by decide +kernel)
set_option maxRecDepth 20000 in
theorem gX5_winSuit_X4_points : GoodIn wsX5_winSuit (wsV RX5 256 RX4 yX4_points wsX4_points) := goodIn_app (goodIn_of _ (by decide +kernel)) ggX5_winSuit_X4_points
set_option maxRecDepth 20000 in
theorem ggX5_winSuit_X4_setting : GoodIn wsX5_winSuit wsX4_setting := goodIn_r _ [37, 38, 7, 4, 8, 54, 55, 56, 57, 58, 59, 60, 61, 62, 63, 64] (by decide +kernel) (by decide +kernel)
set_option maxRecDepth 20000 in
theorem gX5_winSuit_X4_setting : GoodIn wsX5_winSuit (wsV RX5 73 RX4 yX4_setting wsX4_setting) := goodIn_app (goodIn_of _ (by decide +kernel)) ggX5_winSuit_X4_setting
set_option maxRecDepth 20000 in
theorem ggX5_winSuit_X4_untie : GoodIn wsX5_winSuit wsX4_untie := goodIn_r _ [42, 43, 44, 45, 46, 15, 47, 7, 4, 8, 10, 11, 54, 55, 56, 57, 58, 59, 60, 61, 62, 63, 64] (by decide +kernel) (by decide +kernel)
set_option maxRecDepth 20000 in
theorem gX5_winSuit_X4_untie : GoodIn wsX5_winSuit (wsV RX5 146 RX4 yX4_untie wsX4_untie) := goodIn_app (goodIn_of _ (by decide +kernel)) ggX5_winSuit_X4_untie
theorem dX5_winSuit_0 : decode cX5_winSuit 0 = .ok (.aload_n 0, 1) := by decide +kernel
theorem dX5_winSuit_1 : decode cX5_winSuit 1 = .ok (.getfield 12, 3) := by decide +kernel
theorem dX5_winSuit_4 : decode cX5_winSuit 4 = .ok (.getfield 119, 3) := by decide +kernel
theorem dX5_winSuit_7 : decode cX5_winSuit 7 = .ok (.iconst 3, 1) := by decide +kernel
theorem dX5_winSuit_8 : decode cX5_winSuit 8 = .ok (.iconst 1, 1) := by decide +kernel
theorem dX5_winSuit_9 : decode cX5_winSuit 9 = .ok (.invokestatic 122, 3) := by decide +kernel
theorem dX5_winSuit_12 : decode cX5_winSuit 12 = .ok (.aload_n 0, 1) := by decide +kernel
theorem dX5_winSuit_13 : decode cX5_winSuit 13 = .ok (.getfield 12, 3) := by decide +kernel
theorem dX5_winSuit_16 : decode cX5_winSuit 16 = .ok (.getfield 190, 3) := by decide +kernel
theorem dX5_winSuit_19 : decode cX5_winSuit 19 = .ok (.iload_n 2, 1) := by decide +kernel
theorem dX5_winSuit_20 : decode cX5_winSuit 20 = .ok (.iconst 1, 1) := by decide +kernel
theorem dX5_winSuit_21 : decode cX5_winSuit 21 = .ok (.invokestatic 122, 3) := by decide +kernel
theorem dX5_winSuit_24 : decode cX5_winSuit 24 = .ok (.aload_n 0, 1) := by decide +kernel
theorem dX5_winSuit_25 : decode cX5_winSuit 25 = .ok (.getfield 12, 3) := by decide +kernel
theorem dX5_winSuit_28 : decode cX5_winSuit 28 = .ok (.iload_n 2, 1) := by decide +kernel
theorem dX5_winSuit_29 : decode cX5_winSuit 29 = .ok (.iload_n 1, 1) := by decide +kernel
theorem dX5_winSuit_30 : decode cX5_winSuit 30 = .ok (.iload_n 3, 1) := by decide +kernel
theorem dX5_winSuit_31 : decode cX5_winSuit 31 = .ok (.invokevirtual 150, 3) := by decide +kernel
theorem dX5_winSuit_34 : decode cX5_winSuit 34 = .ok (.aload_n 0, 1) := by decide +kernel
theorem dX5_winSuit_35 : decode cX5_winSuit 35 = .ok (.getfield 12, 3) := by decide +kernel
theorem dX5_winSuit_38 : decode cX5_winSuit 38 = .ok (.iload_n 1, 1) := by decide +kernel
theorem dX5_winSuit_39 : decode cX5_winSuit 39 = .ok (.iload_n 3, 1) := by decide +kernel
theorem dX5_winSuit_40 : decode cX5_winSuit 40 = .ok (.invokevirtual 256, 3) := by decide +kernel
theorem dX5_winSuit_43 : decode cX5_winSuit 43 = .ok (.aload_n 0, 1) := by decide +kernel
theorem dX5_winSuit_44 : decode cX5_winSuit 44 = .ok (.getfield 12, 3) := by decide +kernel
theorem dX5_winSuit_47 : decode cX5_winSuit 47 = .ok (.iconst 2, 1) := by decide +kernel
theorem dX5_winSuit_48 : decode cX5_winSuit 48 = .ok (.invokevirtual 73, 3) := by decide +kernel
theorem dX5_winSuit_51 : decode cX5_winSuit 51 = .ok (.if_icmp .ge 12, 3) := by decide +kernel
theorem dX5_winSuit_54 : decode cX5_winSuit 54 = .ok (.aload_n 0, 1) := by decide +kernel
theorem dX5_winSuit_55 : decode cX5_winSuit 55 = .ok (.getfield 12, 3) := by decide +kernel
theorem dX5_winSuit_58 : decode cX5_winSuit 58 = .ok (.iload_n 1, 1) := by decide +kernel
theorem dX5_winSuit_59 : decode cX5_winSuit 59 = .ok (.iload_n 3, 1) := by decide +kernel
theorem dX5_winSuit_60 : decode cX5_winSuit 60 = .ok (.invokevirtual 146, 3) := by decide +kernel
theorem dX5_winSuit_63 : decode cX5_winSuit 63 = .ok (.return_, 1) := by decide +kernel
set_option maxRecDepth 20000 in
theorem ggX5_doPart_X3_signAt : GoodIn wsX5_doPart wsX3_signAt := goodIn_r _ [6, 7, 8, 190, 191] (by decide +kernel) (by decide +kernel)
set_option maxRecDepth 20000 in
theorem gX5_doPart_X3_signAt : GoodIn wsX5_doPart (wsV RX5 91 RX3 yX3_signAt wsX3_signAt) := goodIn_app (goodIn_of _ (by decide +kernel)) ggX5_doPart_X3_signAt
set_option maxRecDepth 20000 in
theorem ggX5_doPart_X3_digitAt : GoodIn wsX5_doPart wsX3_digitAt := goodIn_r _ [12, 13, 3, 4, 5, 6, 7, 8, 190, 191] (by decide +kernel) (by decide +kernel)
set_option maxRecDepth 20000 in
theorem gX5_doPart_X3_digitAt : GoodIn wsX5_doPart (wsV RX5 262 RX3 yX3_digitAt wsX3_digitAt) := goodIn_app (goodIn_of _ (by decide +kernel)) ggX5_doPart_X3_digitAt
set_option maxRecDepth 20000 in
theorem ggX5_doPart_X3_yardAt : GoodIn wsX5_doPart wsX3_yardAt := goodIn_r _ [17, 18, 10, 11, 5, 12, 13, 3, 4, 6, 7, 8, 190, 191] (by decide +kernel) (by decide +kernel)
set_option maxRecDepth 20000 in
theorem gX5_doPart_X3_yardAt : GoodIn wsX5_doPart (wsV RX5 265 RX3 yX3_yardAt wsX3_yardAt) := goodIn_app (goodIn_of _ (by decide +kernel)) ggX5_doPart_X3_yardAt
set_option maxRecDepth 20000 in
theorem ggX5_doPart_X5_bringMill : GoodIn wsX5_doPart wsX5_bringMill := goodIn_r _ [23, 24, 25, 26, 22, 27, 28, 29, 30, 31, 32, 33, 34, 35, 36, 37, 38, 39, 40, 41, 42, 43, 44, 45, 46, 47, 48, 49, 50, 51, 52, 184, 185, 186, 187, 188, 189, 192, 193, 194, 195, 196, 197, 198, 199, 200, 201, 202] (by decide +kernel) (by decide +kernel)
set_option maxRecDepth 20000 in
theorem gX5_doPart_X5_bringMill : GoodIn wsX5_doPart (wsV RX5 44 RX5 yX5_bringMill wsX5_bringMill) := goodIn_app (goodIn_of _ (by decide +kernel)) ggX5_doPart_X5_bringMill
set_option maxRecDepth 20000 in
theorem ggX5_doPart_X5_bringHouse : GoodIn wsX5_doPart wsX5_bringHouse := goodIn_r _ [56, 24, 25, 26, 22, 27, 28, 29, 30, 31, 32, 33, 34, 35, 36, 37, 38, 39, 40, 41, 42, 43, 44, 45, 46, 47, 48, 49, 50, 51, 52, 184, 185, 186, 187, 188, 189, 192, 193, 194, 195, 196, 197, 198, 199, 200, 201, 202] (by decide +kernel) (by decide +kernel)
set_option maxRecDepth 20000 in
theorem gX5_doPart_X5_bringHouse : GoodIn wsX5_doPart (wsV RX5 52 RX5 yX5_bringHouse wsX5_bringHouse) := goodIn_app (goodIn_of _ (by decide +kernel)) ggX5_doPart_X5_bringHouse
set_option maxRecDepth 20000 in
theorem ggX5_doPart_X3_numberAt : GoodIn wsX5_doPart wsX3_numberAt := goodIn_r _ [60, 18, 10, 11, 5, 12, 13, 3, 4, 6, 7, 8, 190, 191] (by decide +kernel) (by decide +kernel)
set_option maxRecDepth 20000 in
theorem gX5_doPart_X3_numberAt : GoodIn wsX5_doPart (wsV RX5 268 RX3 yX3_numberAt wsX3_numberAt) := goodIn_app (goodIn_of _ (by decide +kernel)) ggX5_doPart_X3_numberAt
set_option maxRecDepth 20000 in
theorem ggX5_doPart_X5_tellWind : GoodIn wsX5_doPart wsX5_tellWind := goodIn_r _ [64, 24, 65, 66, 22, 67, 68, 69, 70, 31, 71, 72, 42, 43, 50, 51, 52, 184, 185, 186, 187, 188, 189, 192, 193, 194, 195, 196, 197, 198, 199, 200, 201, 202] (by decide +kernel) (by decide +kernel)
set_option maxRecDepth 20000 in
theorem gX5_doPart_X5_tellWind : GoodIn wsX5_doPart (wsV RX5 55 RX5 yX5_tellWind wsX5_tellWind) := goodIn_app (goodIn_of _ (by decide +kernel)) ggX5_doPart_X5_tellWind
set_option maxRecDepth 20000 in
theorem ggX5_doPart_X5_lodge : GoodIn wsX5_doPart wsX5_lodge := goodIn_r _ [76, 24, 77, 78, 79, 31, 80, 81, 82, 83, 84, 49, 85, 86, 87, 88, 38, 66, 22, 67, 89, 90, 91, 92, 93, 42, 43, 94, 95, 96, 97, 98, 99, 100, 101, 102, 103, 104, 105, 106, 107, 108, 109, 110, 111, 112, 113, 114, 115, 69, 70, 71, 72, 116, 117, 118, 119, 120, 121, 122, 123, 48, 37, 124, 125, 126, 127, 128, 129, 130, 131, 132, 133, 134, 135, 136, 137, 138, 139, 140, 141, 142, 143, 144, 145, 146, 147, 148, 149, 150, 151, 152, 153, 154, 155, 156, 157, 158, 159, 160, 161, 162, 163, 164, 165, 166, 50, 51, 52, 167, 168, 169, 170, 171, 172, 173, 174, 175, 176, 177, 178, 179, 180, 181, 182, 183, 184, 185, 186, 187, 188, 189, 192, 193, 194, 195, 196, 197, 198, 199, 200, 201, 202] (by decide +kernel) (by decide +kernel)
set_option maxRecDepth 20000 in
theorem gX5_doPart_X5_lodge : GoodIn wsX5_doPart (wsV RX5 98 RX5 yX5_lodge wsX5_lodge) := goodIn_app (goodIn_of _ (by decide +kernel)) ggX5_doPart_X5_lodge
theorem dX5_doPart_0 : decode cX5_doPart 0 = .ok (.aload_n 0, 1) := by decide +kernel
theorem dX5_doPart_1 : decode cX5_doPart 1 = .ok (.getfield 36, 3) := by decide +kernel
theorem dX5_doPart_4 : decode cX5_doPart 4 = .ok (.iload_n 1, 1) := by decide +kernel
theorem dX5_doPart_5 : decode cX5_doPart 5 = .ok (.invokevirtual 91, 3) := by decide +kernel
theorem dX5_doPart_8 : decode cX5_doPart 8 = .ok (.lookupswitch 107 #[(104, 61), (109, 36), (119, 76)], 36) := by decide +kernel
theorem dX5_doPart_44 : decode cX5_doPart 44 = .ok (.aload_n 0, 1) := by decide +kernel
theorem dX5_doPart_45 : decode cX5_doPart 45 = .ok (.aload_n 0, 1) := by decide +kernel
theorem dX5_doPart_46 : decode cX5_doPart 46 = .ok (.getfield 36, 3) := by decide +kernel
theorem dX5_doPart_49 : decode cX5_doPart 49 = .ok (.iload_n 1, 1) := by decide +kernel
theorem dX5_doPart_50 : decode cX5_doPart 50 = .ok (.iconst 1, 1) := by decide +kernel
theorem dX5_doPart_51 : decode cX5_doPart 51 = .ok (.iadd, 1) := by decide +kernel
theorem dX5_doPart_52 : decode cX5_doPart 52 = .ok (.invokevirtual 262, 3) := by decide +kernel
theorem dX5_doPart_55 : decode cX5_doPart 55 = .ok (.aload_n 0, 1) := by decide +kernel
theorem dX5_doPart_56 : decode cX5_doPart 56 = .ok (.getfield 36, 3) := by decide +kernel
theorem dX5_doPart_59 : decode cX5_doPart 59 = .ok (.iload_n 1, 1) := by decide +kernel
theorem dX5_doPart_60 : decode cX5_doPart 60 = .ok (.iconst 3, 1) := by decide +kernel
theorem dX5_doPart_61 : decode cX5_doPart 61 = .ok (.iadd, 1) := by decide +kernel
theorem dX5_doPart_62 : decode cX5_doPart 62 = .ok (.invokevirtual 265, 3) := by decide +kernel
theorem dX5_doPart_65 : decode cX5_doPart 65 = .ok (.invokevirtual 44, 3) := by decide +kernel
theorem dX5_doPart_68 : decode cX5_doPart 68 = .ok (.ireturn, 1) := by decide +kernel
theorem dX5_doPart_69 : decode cX5_doPart 69 = .ok (.aload_n 0, 1) := by decide +kernel
theorem dX5_doPart_70 : decode cX5_doPart 70 = .ok (.aload_n 0, 1) := by decide +kernel
theorem dX5_doPart_71 : decode cX5_doPart 71 = .ok (.getfield 36, 3) := by decide +kernel
theorem dX5_doPart_74 : decode cX5_doPart 74 = .ok (.iload_n 1, 1) := by decide +kernel
theorem dX5_doPart_75 : decode cX5_doPart 75 = .ok (.iconst 2, 1) := by decide +kernel
theorem dX5_doPart_76 : decode cX5_doPart 76 = .ok (.iadd, 1) := by decide +kernel
theorem dX5_doPart_77 : decode cX5_doPart 77 = .ok (.invokevirtual 265, 3) := by decide +kernel
theorem dX5_doPart_80 : decode cX5_doPart 80 = .ok (.invokevirtual 52, 3) := by decide +kernel
theorem dX5_doPart_83 : decode cX5_doPart 83 = .ok (.ireturn, 1) := by decide +kernel
theorem dX5_doPart_84 : decode cX5_doPart 84 = .ok (.aload_n 0, 1) := by decide +kernel
theorem dX5_doPart_85 : decode cX5_doPart 85 = .ok (.getfield 36, 3) := by decide +kernel
theorem dX5_doPart_88 : decode cX5_doPart 88 = .ok (.iload_n 1, 1) := by decide +kernel
theorem dX5_doPart_89 : decode cX5_doPart 89 = .ok (.iconst 1, 1) := by decide +kernel
theorem dX5_doPart_90 : decode cX5_doPart 90 = .ok (.iadd, 1) := by decide +kernel
theorem dX5_doPart_91 : decode cX5_doPart 91 = .ok (.iload_n 2, 1) := by decide +kernel
theorem dX5_doPart_92 : decode cX5_doPart 92 = .ok (.iconst 2, 1) := by decide +kernel
theorem dX5_doPart_93 : decode cX5_doPart 93 = .ok (.isub, 1) := by decide +kernel
theorem dX5_doPart_94 : decode cX5_doPart 94 = .ok (.invokevirtual 268, 3) := by decide +kernel
theorem dX5_doPart_97 : decode cX5_doPart 97 = .ok (.istore_n 3, 1) := by decide +kernel
theorem dX5_doPart_98 : decode cX5_doPart 98 = .ok (.aload_n 0, 1) := by decide +kernel
theorem dX5_doPart_99 : decode cX5_doPart 99 = .ok (.iload_n 3, 1) := by decide +kernel
theorem dX5_doPart_100 : decode cX5_doPart 100 = .ok (.iload_n 3, 1) := by decide +kernel
theorem dX5_doPart_101 : decode cX5_doPart 101 = .ok (.aload_n 0, 1) := by decide +kernel
theorem dX5_doPart_102 : decode cX5_doPart 102 = .ok (.getfield 36, 3) := by decide +kernel
theorem dX5_doPart_105 : decode cX5_doPart 105 = .ok (.iload_n 2, 1) := by decide +kernel
theorem dX5_doPart_106 : decode cX5_doPart 106 = .ok (.iconst 1, 1) := by decide +kernel
theorem dX5_doPart_107 : decode cX5_doPart 107 = .ok (.isub, 1) := by decide +kernel
theorem dX5_doPart_108 : decode cX5_doPart 108 = .ok (.invokevirtual 262, 3) := by decide +kernel
theorem dX5_doPart_111 : decode cX5_doPart 111 = .ok (.invokevirtual 55, 3) := by decide +kernel
theorem dX5_doPart_114 : decode cX5_doPart 114 = .ok (.ireturn, 1) := by decide +kernel
theorem dX5_doPart_115 : decode cX5_doPart 115 = .ok (.aload_n 0, 1) := by decide +kernel
theorem dX5_doPart_116 : decode cX5_doPart 116 = .ok (.getfield 36, 3) := by decide +kernel
theorem dX5_doPart_119 : decode cX5_doPart 119 = .ok (.iload_n 1, 1) := by decide +kernel
theorem dX5_doPart_120 : decode cX5_doPart 120 = .ok (.iconst 3, 1) := by decide +kernel
theorem dX5_doPart_121 : decode cX5_doPart 121 = .ok (.iadd, 1) := by decide +kernel
theorem dX5_doPart_122 : decode cX5_doPart 122 = .ok (.invokevirtual 91, 3) := by decide +kernel
theorem dX5_doPart_125 : decode cX5_doPart 125 = .ok (.bipush 110, 2) := by decide +kernel
theorem dX5_doPart_127 : decode cX5_doPart 127 = .ok (.if_icmp .ne 7, 3) := by decide +kernel
theorem dX5_doPart_130 : decode cX5_doPart 130 = .ok (.iconst 0, 1) := by decide +kernel
theorem dX5_doPart_131 : decode cX5_doPart 131 = .ok (.goto 4, 3) := by decide +kernel
theorem dX5_doPart_134 : decode cX5_doPart 134 = .ok (.iconst 1, 1) := by decide +kernel
theorem dX5_doPart_135 : decode cX5_doPart 135 = .ok (.istore 4, 2) := by decide +kernel
theorem dX5_doPart_137 : decode cX5_doPart 137 = .ok (.aload_n 0, 1) := by decide +kernel
theorem dX5_doPart_138 : decode cX5_doPart 138 = .ok (.aload_n 0, 1) := by decide +kernel
theorem dX5_doPart_139 : decode cX5_doPart 139 = .ok (.getfield 36, 3) := by decide +kernel
theorem dX5_doPart_142 : decode cX5_doPart 142 = .ok (.iload_n 1, 1) := by decide +kernel
theorem dX5_doPart_143 : decode cX5_doPart 143 = .ok (.iconst 1, 1) := by decide +kernel
theorem dX5_doPart_144 : decode cX5_doPart 144 = .ok (.iadd, 1) := by decide +kernel
theorem dX5_doPart_145 : decode cX5_doPart 145 = .ok (.invokevirtual 262, 3) := by decide +kernel
theorem dX5_doPart_148 : decode cX5_doPart 148 = .ok (.aload_n 0, 1) := by decide +kernel
theorem dX5_doPart_149 : decode cX5_doPart 149 = .ok (.getfield 36, 3) := by decide +kernel
theorem dX5_doPart_152 : decode cX5_doPart 152 = .ok (.iload_n 1, 1) := by decide +kernel
theorem dX5_doPart_153 : decode cX5_doPart 153 = .ok (.iconst 2, 1) := by decide +kernel
theorem dX5_doPart_154 : decode cX5_doPart 154 = .ok (.iadd, 1) := by decide +kernel
theorem dX5_doPart_155 : decode cX5_doPart 155 = .ok (.invokevirtual 262, 3) := by decide +kernel
theorem dX5_doPart_158 : decode cX5_doPart 158 = .ok (.iload 4, 2) := by decide +kernel
theorem dX5_doPart_160 : decode cX5_doPart 160 = .ok (.aload_n 0, 1) := by decide +kernel
theorem dX5_doPart_161 : decode cX5_doPart 161 = .ok (.getfield 36, 3) := by decide +kernel
theorem dX5_doPart_164 : decode cX5_doPart 164 = .ok (.iload_n 1, 1) := by decide +kernel
theorem dX5_doPart_165 : decode cX5_doPart 165 = .ok (.iconst 4, 1) := by decide +kernel
theorem dX5_doPart_166 : decode cX5_doPart 166 = .ok (.iadd, 1) := by decide +kernel
theorem dX5_doPart_167 : decode cX5_doPart 167 = .ok (.iload_n 2, 1) := by decide +kernel
theorem dX5_doPart_168 : decode cX5_doPart 168 = .ok (.invokevirtual 268, 3) := by decide +kernel
theorem dX5_doPart_171 : decode cX5_doPart 171 = .ok (.invokevirtual 98, 3) := by decide +kernel
theorem dX5_doPart_174 : decode cX5_doPart 174 = .ok (.ireturn, 1) := by decide +kernel
theorem dX5_at_0 : decode cX5_at 0 = .ok (.iload_n 1, 1) := by decide +kernel
theorem dX5_at_1 : decode cX5_at 1 = .ok (.ifCond .lt 15, 3) := by decide +kernel
theorem dX5_at_4 : decode cX5_at 4 = .ok (.iload_n 1, 1) := by decide +kernel
theorem dX5_at_5 : decode cX5_at 5 = .ok (.aload_n 0, 1) := by decide +kernel
theorem dX5_at_6 : decode cX5_at 6 = .ok (.arraylength, 1) := by decide +kernel
theorem dX5_at_7 : decode cX5_at 7 = .ok (.if_icmp .ge 9, 3) := by decide +kernel
theorem dX5_at_10 : decode cX5_at 10 = .ok (.aload_n 0, 1) := by decide +kernel
theorem dX5_at_11 : decode cX5_at 11 = .ok (.iload_n 1, 1) := by decide +kernel
theorem dX5_at_12 : decode cX5_at 12 = .ok (.iaload, 1) := by decide +kernel
theorem dX5_at_13 : decode cX5_at 13 = .ok (.goto 4, 3) := by decide +kernel
theorem dX5_at_16 : decode cX5_at 16 = .ok (.iconst 0, 1) := by decide +kernel
theorem dX5_at_17 : decode cX5_at 17 = .ok (.ireturn, 1) := by decide +kernel
theorem dX5_put_0 : decode cX5_put 0 = .ok (.iload_n 1, 1) := by decide +kernel
theorem dX5_put_1 : decode cX5_put 1 = .ok (.ifCond .lt 13, 3) := by decide +kernel
theorem dX5_put_4 : decode cX5_put 4 = .ok (.iload_n 1, 1) := by decide +kernel
theorem dX5_put_5 : decode cX5_put 5 = .ok (.aload_n 0, 1) := by decide +kernel
theorem dX5_put_6 : decode cX5_put 6 = .ok (.arraylength, 1) := by decide +kernel
theorem dX5_put_7 : decode cX5_put 7 = .ok (.if_icmp .ge 7, 3) := by decide +kernel
theorem dX5_put_10 : decode cX5_put 10 = .ok (.aload_n 0, 1) := by decide +kernel
theorem dX5_put_11 : decode cX5_put 11 = .ok (.iload_n 1, 1) := by decide +kernel
theorem dX5_put_12 : decode cX5_put 12 = .ok (.iload_n 2, 1) := by decide +kernel
theorem dX5_put_13 : decode cX5_put 13 = .ok (.iastore, 1) := by decide +kernel
theorem dX5_put_14 : decode cX5_put 14 = .ok (.return_, 1) := by decide +kernel
set_option maxRecDepth 20000 in
theorem ggX5_add_X5_at : GoodIn wsX5_add wsX5_at := goodIn_r _ [4] (by decide +kernel) (by decide +kernel)
set_option maxRecDepth 20000 in
theorem gX5_add_X5_at : GoodIn wsX5_add (va_wsS RX5 66 yX5_at wsX5_at) := goodIn_app (goodIn_of _ (by decide +kernel)) ggX5_add_X5_at
set_option maxRecDepth 20000 in
theorem ggX5_add_X5_put : GoodIn wsX5_add wsX5_put := goodIn_r _ [7] (by decide +kernel) (by decide +kernel)
set_option maxRecDepth 20000 in
theorem gX5_add_X5_put : GoodIn wsX5_add (va_wsS RX5 79 yX5_put wsX5_put) := goodIn_app (goodIn_of _ (by decide +kernel)) ggX5_add_X5_put
theorem dX5_add_0 : decode cX5_add 0 = .ok (.aload_n 0, 1) := by decide +kernel
theorem dX5_add_1 : decode cX5_add 1 = .ok (.iload_n 1, 1) := by decide +kernel
theorem dX5_add_2 : decode cX5_add 2 = .ok (.aload_n 0, 1) := by decide +kernel
theorem dX5_add_3 : decode cX5_add 3 = .ok (.iload_n 1, 1) := by decide +kernel
theorem dX5_add_4 : decode cX5_add 4 = .ok (.invokestatic 66, 3) := by decide +kernel
theorem dX5_add_7 : decode cX5_add 7 = .ok (.iload_n 2, 1) := by decide +kernel
theorem dX5_add_8 : decode cX5_add 8 = .ok (.iadd, 1) := by decide +kernel
theorem dX5_add_9 : decode cX5_add 9 = .ok (.invokestatic 79, 3) := by decide +kernel
theorem dX5_add_12 : decode cX5_add 12 = .ok (.return_, 1) := by decide +kernel
theorem dX5_copyRow_0 : decode cX5_copyRow 0 = .ok (.iconst 0, 1) := by decide +kernel
theorem dX5_copyRow_1 : decode cX5_copyRow 1 = .ok (.istore_n 2, 1) := by decide +kernel
theorem dX5_copyRow_2 : decode cX5_copyRow 2 = .ok (.iload_n 2, 1) := by decide +kernel
theorem dX5_copyRow_3 : decode cX5_copyRow 3 = .ok (.aload_n 0, 1) := by decide +kernel
theorem dX5_copyRow_4 : decode cX5_copyRow 4 = .ok (.arraylength, 1) := by decide +kernel
theorem dX5_copyRow_5 : decode cX5_copyRow 5 = .ok (.if_icmp .ge 21, 3) := by decide +kernel
theorem dX5_copyRow_8 : decode cX5_copyRow 8 = .ok (.iload_n 2, 1) := by decide +kernel
theorem dX5_copyRow_9 : decode cX5_copyRow 9 = .ok (.aload_n 1, 1) := by decide +kernel
theorem dX5_copyRow_10 : decode cX5_copyRow 10 = .ok (.arraylength, 1) := by decide +kernel
theorem dX5_copyRow_11 : decode cX5_copyRow 11 = .ok (.if_icmp .ge 15, 3) := by decide +kernel
theorem dX5_copyRow_14 : decode cX5_copyRow 14 = .ok (.aload_n 1, 1) := by decide +kernel
theorem dX5_copyRow_15 : decode cX5_copyRow 15 = .ok (.iload_n 2, 1) := by decide +kernel
theorem dX5_copyRow_16 : decode cX5_copyRow 16 = .ok (.aload_n 0, 1) := by decide +kernel
theorem dX5_copyRow_17 : decode cX5_copyRow 17 = .ok (.iload_n 2, 1) := by decide +kernel
theorem dX5_copyRow_18 : decode cX5_copyRow 18 = .ok (.iaload, 1) := by decide +kernel
theorem dX5_copyRow_19 : decode cX5_copyRow 19 = .ok (.iastore, 1) := by decide +kernel
theorem dX5_copyRow_20 : decode cX5_copyRow 20 = .ok (.iinc 2 1, 3) := by decide +kernel
theorem dX5_copyRow_23 : decode cX5_copyRow 23 = .ok (.goto (-21), 3) := by decide +kernel
theorem dX5_copyRow_26 : decode cX5_copyRow 26 = .ok (.return_, 1) := by decide +kernel
theorem dX5_isHour_0 : decode cX5_isHour 0 = .ok (.iload_n 0, 1) := by decide +kernel
theorem dX5_isHour_1 : decode cX5_isHour 1 = .ok (.ifCond .lt 13, 3) := by decide +kernel
theorem dX5_isHour_4 : decode cX5_isHour 4 = .ok (.iload_n 0, 1) := by decide +kernel
theorem dX5_isHour_5 : decode cX5_isHour 5 = .ok (.bipush 24, 2) := by decide +kernel
theorem dX5_isHour_7 : decode cX5_isHour 7 = .ok (.if_icmp .ge 7, 3) := by decide +kernel
theorem dX5_isHour_10 : decode cX5_isHour 10 = .ok (.iconst 1, 1) := by decide +kernel
theorem dX5_isHour_11 : decode cX5_isHour 11 = .ok (.goto 4, 3) := by decide +kernel
theorem dX5_isHour_14 : decode cX5_isHour 14 = .ok (.iconst 0, 1) := by decide +kernel
theorem dX5_isHour_15 : decode cX5_isHour 15 = .ok (.ireturn, 1) := by decide +kernel
theorem dX5_isYard_0 : decode cX5_isYard 0 = .ok (.iload_n 0, 1) := by decide +kernel
theorem dX5_isYard_1 : decode cX5_isYard 1 = .ok (.ifCond .lt 13, 3) := by decide +kernel
theorem dX5_isYard_4 : decode cX5_isYard 4 = .ok (.iload_n 0, 1) := by decide +kernel
theorem dX5_isYard_5 : decode cX5_isYard 5 = .ok (.bipush 96, 2) := by decide +kernel
theorem dX5_isYard_7 : decode cX5_isYard 7 = .ok (.if_icmp .ge 7, 3) := by decide +kernel
theorem dX5_isYard_10 : decode cX5_isYard 10 = .ok (.iconst 1, 1) := by decide +kernel
theorem dX5_isYard_11 : decode cX5_isYard 11 = .ok (.goto 4, 3) := by decide +kernel
theorem dX5_isYard_14 : decode cX5_isYard 14 = .ok (.iconst 0, 1) := by decide +kernel
theorem dX5_isYard_15 : decode cX5_isYard 15 = .ok (.ireturn, 1) := by decide +kernel
theorem dX5_distance_0 : decode cX5_distance 0 = .ok (.iload_n 0, 1) := by decide +kernel
theorem dX5_distance_1 : decode cX5_distance 1 = .ok (.bipush 12, 2) := by decide +kernel
theorem dX5_distance_3 : decode cX5_distance 3 = .ok (.irem, 1) := by decide +kernel
theorem dX5_distance_4 : decode cX5_distance 4 = .ok (.iload_n 1, 1) := by decide +kernel
theorem dX5_distance_5 : decode cX5_distance 5 = .ok (.bipush 12, 2) := by decide +kernel
theorem dX5_distance_7 : decode cX5_distance 7 = .ok (.irem, 1) := by decide +kernel
theorem dX5_distance_8 : decode cX5_distance 8 = .ok (.isub, 1) := by decide +kernel
theorem dX5_distance_9 : decode cX5_distance 9 = .ok (.invokestatic 271, 3) := by decide +kernel
theorem dX5_distance_12 : decode cX5_distance 12 = .ok (.istore_n 2, 1) := by decide +kernel
theorem dX5_distance_13 : decode cX5_distance 13 = .ok (.iload_n 0, 1) := by decide +kernel
theorem dX5_distance_14 : decode cX5_distance 14 = .ok (.bipush 12, 2) := by decide +kernel
theorem dX5_distance_16 : decode cX5_distance 16 = .ok (.idiv, 1) := by decide +kernel
theorem dX5_distance_17 : decode cX5_distance 17 = .ok (.iload_n 1, 1) := by decide +kernel
theorem dX5_distance_18 : decode cX5_distance 18 = .ok (.bipush 12, 2) := by decide +kernel
theorem dX5_distance_20 : decode cX5_distance 20 = .ok (.idiv, 1) := by decide +kernel
theorem dX5_distance_21 : decode cX5_distance 21 = .ok (.isub, 1) := by decide +kernel
theorem dX5_distance_22 : decode cX5_distance 22 = .ok (.invokestatic 271, 3) := by decide +kernel
theorem dX5_distance_25 : decode cX5_distance 25 = .ok (.istore_n 3, 1) := by decide +kernel
theorem dX5_distance_26 : decode cX5_distance 26 = .ok (.iload_n 2, 1) := by decide +kernel
theorem dX5_distance_27 : decode cX5_distance 27 = .ok (.iload_n 3, 1) := by decide +kernel
theorem dX5_distance_28 : decode cX5_distance 28 = .ok (.invokestatic 276, 3) := by decide +kernel
theorem dX5_distance_31 : decode cX5_distance 31 = .ok (.ireturn, 1) := by decide +kernel
