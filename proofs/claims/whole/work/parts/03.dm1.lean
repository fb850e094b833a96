theorem dX10_init_0 : decode cX10_init 0 = .ok (.aload_n 0, 1) := by decide +kernel
theorem dX10_init_1 : decode cX10_init 1 = .ok (.invokespecial 1, 3) := by decide +kernel
theorem dX10_init_4 : decode cX10_init 4 = .ok (.aload_n 0, 1) := by decide +kernel
theorem dX10_init_5 : decode cX10_init 5 = .ok (.bipush 60, 2) := by decide +kernel
theorem dX10_init_7 : decode cX10_init 7 = .ok (.newarray .int, 2) := by decide +kernel
theorem dX10_init_9 : decode cX10_init 9 = .ok (.putfield 7, 3) := by decide +kernel
theorem dX10_init_12 : decode cX10_init 12 = .ok (.aload_n 0, 1) := by decide +kernel
theorem dX10_init_13 : decode cX10_init 13 = .ok (.bipush 60, 2) := by decide +kernel
theorem dX10_init_15 : decode cX10_init 15 = .ok (.newarray .int, 2) := by decide +kernel
theorem dX10_init_17 : decode cX10_init 17 = .ok (.putfield 13, 3) := by decide +kernel
theorem dX10_init_20 : decode cX10_init 20 = .ok (.aload_n 0, 1) := by decide +kernel
theorem dX10_init_21 : decode cX10_init 21 = .ok (.bipush 60, 2) := by decide +kernel
theorem dX10_init_23 : decode cX10_init 23 = .ok (.newarray .int, 2) := by decide +kernel
theorem dX10_init_25 : decode cX10_init 25 = .ok (.putfield 16, 3) := by decide +kernel
theorem dX10_init_28 : decode cX10_init 28 = .ok (.aload_n 0, 1) := by decide +kernel
theorem dX10_init_29 : decode cX10_init 29 = .ok (.bipush 60, 2) := by decide +kernel
theorem dX10_init_31 : decode cX10_init 31 = .ok (.newarray .int, 2) := by decide +kernel
theorem dX10_init_33 : decode cX10_init 33 = .ok (.putfield 19, 3) := by decide +kernel
theorem dX10_init_36 : decode cX10_init 36 = .ok (.aload_n 0, 1) := by decide +kernel
theorem dX10_init_37 : decode cX10_init 37 = .ok (.bipush 60, 2) := by decide +kernel
theorem dX10_init_39 : decode cX10_init 39 = .ok (.newarray .int, 2) := by decide +kernel
theorem dX10_init_41 : decode cX10_init 41 = .ok (.putfield 22, 3) := by decide +kernel
theorem dX10_init_44 : decode cX10_init 44 = .ok (.aload_n 0, 1) := by decide +kernel
theorem dX10_init_45 : decode cX10_init 45 = .ok (.bipush 60, 2) := by decide +kernel
theorem dX10_init_47 : decode cX10_init 47 = .ok (.newarray .int, 2) := by decide +kernel
theorem dX10_init_49 : decode cX10_init 49 = .ok (.putfield 25, 3) := by decide +kernel
theorem dX10_init_52 : decode cX10_init 52 = .ok (.aload_n 0, 1) := by decide +kernel
theorem dX10_init_53 : decode cX10_init 53 = .ok (.bipush 60, 2) := by decide +kernel
theorem dX10_init_55 : decode cX10_init 55 = .ok (.newarray .int, 2) := by decide +kernel
theorem dX10_init_57 : decode cX10_init 57 = .ok (.putfield 28, 3) := by decide +kernel
theorem dX10_init_60 : decode cX10_init 60 = .ok (.aload_n 0, 1) := by decide +kernel
theorem dX10_init_61 : decode cX10_init 61 = .ok (.sipush 320, 3) := by decide +kernel
theorem dX10_init_64 : decode cX10_init 64 = .ok (.newarray .int, 2) := by decide +kernel
theorem dX10_init_66 : decode cX10_init 66 = .ok (.putfield 31, 3) := by decide +kernel
theorem dX10_init_69 : decode cX10_init 69 = .ok (.aload_n 0, 1) := by decide +kernel
theorem dX10_init_70 : decode cX10_init 70 = .ok (.sipush 320, 3) := by decide +kernel
theorem dX10_init_73 : decode cX10_init 73 = .ok (.newarray .int, 2) := by decide +kernel
theorem dX10_init_75 : decode cX10_init 75 = .ok (.putfield 34, 3) := by decide +kernel
theorem dX10_init_78 : decode cX10_init 78 = .ok (.aload_n 0, 1) := by decide +kernel
theorem dX10_init_79 : decode cX10_init 79 = .ok (.sipush 320, 3) := by decide +kernel
theorem dX10_init_82 : decode cX10_init 82 = .ok (.newarray .int, 2) := by decide +kernel
theorem dX10_init_84 : decode cX10_init 84 = .ok (.putfield 37, 3) := by decide +kernel
theorem dX10_init_87 : decode cX10_init 87 = .ok (.aload_n 0, 1) := by decide +kernel
theorem dX10_init_88 : decode cX10_init 88 = .ok (.sipush 210, 3) := by decide +kernel
theorem dX10_init_91 : decode cX10_init 91 = .ok (.newarray .int, 2) := by decide +kernel
theorem dX10_init_93 : decode cX10_init 93 = .ok (.putfield 40, 3) := by decide +kernel
theorem dX10_init_96 : decode cX10_init 96 = .ok (.aload_n 0, 1) := by decide +kernel
theorem dX10_init_97 : decode cX10_init 97 = .ok (.sipush 210, 3) := by decide +kernel
theorem dX10_init_100 : decode cX10_init 100 = .ok (.newarray .int, 2) := by decide +kernel
theorem dX10_init_102 : decode cX10_init 102 = .ok (.putfield 43, 3) := by decide +kernel
theorem dX10_init_105 : decode cX10_init 105 = .ok (.aload_n 0, 1) := by decide +kernel
theorem dX10_init_106 : decode cX10_init 106 = .ok (.sipush 320, 3) := by decide +kernel
theorem dX10_init_109 : decode cX10_init 109 = .ok (.newarray .int, 2) := by decide +kernel
theorem dX10_init_111 : decode cX10_init 111 = .ok (.putfield 46, 3) := by decide +kernel
theorem dX10_init_114 : decode cX10_init 114 = .ok (.aload_n 0, 1) := by decide +kernel
theorem dX10_init_115 : decode cX10_init 115 = .ok (.sipush 320, 3) := by decide +kernel
theorem dX10_init_118 : decode cX10_init 118 = .ok (.newarray .int, 2) := by decide +kernel
theorem dX10_init_120 : decode cX10_init 120 = .ok (.putfield 49, 3) := by decide +kernel
theorem dX10_init_123 : decode cX10_init 123 = .ok (.aload_n 0, 1) := by decide +kernel
theorem dX10_init_124 : decode cX10_init 124 = .ok (.sipush 320, 3) := by decide +kernel
theorem dX10_init_127 : decode cX10_init 127 = .ok (.newarray .int, 2) := by decide +kernel
theorem dX10_init_129 : decode cX10_init 129 = .ok (.putfield 52, 3) := by decide +kernel
theorem dX10_init_132 : decode cX10_init 132 = .ok (.aload_n 0, 1) := by decide +kernel
theorem dX10_init_133 : decode cX10_init 133 = .ok (.sipush 320, 3) := by decide +kernel
theorem dX10_init_136 : decode cX10_init 136 = .ok (.newarray .int, 2) := by decide +kernel
theorem dX10_init_138 : decode cX10_init 138 = .ok (.putfield 55, 3) := by decide +kernel
theorem dX10_init_141 : decode cX10_init 141 = .ok (.aload_n 0, 1) := by decide +kernel
theorem dX10_init_142 : decode cX10_init 142 = .ok (.sipush 320, 3) := by decide +kernel
theorem dX10_init_145 : decode cX10_init 145 = .ok (.newarray .int, 2) := by decide +kernel
theorem dX10_init_147 : decode cX10_init 147 = .ok (.putfield 58, 3) := by decide +kernel
theorem dX10_init_150 : decode cX10_init 150 = .ok (.aload_n 0, 1) := by decide +kernel
theorem dX10_init_151 : decode cX10_init 151 = .ok (.sipush 320, 3) := by decide +kernel
theorem dX10_init_154 : decode cX10_init 154 = .ok (.newarray .int, 2) := by decide +kernel
theorem dX10_init_156 : decode cX10_init 156 = .ok (.putfield 61, 3) := by decide +kernel
theorem dX10_init_159 : decode cX10_init 159 = .ok (.aload_n 0, 1) := by decide +kernel
theorem dX10_init_160 : decode cX10_init 160 = .ok (.sipush 320, 3) := by decide +kernel
theorem dX10_init_163 : decode cX10_init 163 = .ok (.newarray .int, 2) := by decide +kernel
theorem dX10_init_165 : decode cX10_init 165 = .ok (.putfield 64, 3) := by decide +kernel
theorem dX10_init_168 : decode cX10_init 168 = .ok (.aload_n 0, 1) := by decide +kernel
theorem dX10_init_169 : decode cX10_init 169 = .ok (.sipush 1280, 3) := by decide +kernel
theorem dX10_init_172 : decode cX10_init 172 = .ok (.newarray .int, 2) := by decide +kernel
theorem dX10_init_174 : decode cX10_init 174 = .ok (.putfield 67, 3) := by decide +kernel
theorem dX10_init_177 : decode cX10_init 177 = .ok (.aload_n 0, 1) := by decide +kernel
theorem dX10_init_178 : decode cX10_init 178 = .ok (.sipush 1280, 3) := by decide +kernel
theorem dX10_init_181 : decode cX10_init 181 = .ok (.newarray .int, 2) := by decide +kernel
theorem dX10_init_183 : decode cX10_init 183 = .ok (.putfield 70, 3) := by decide +kernel
theorem dX10_init_186 : decode cX10_init 186 = .ok (.aload_n 0, 1) := by decide +kernel
theorem dX10_init_187 : decode cX10_init 187 = .ok (.sipush 5120, 3) := by decide +kernel
theorem dX10_init_190 : decode cX10_init 190 = .ok (.newarray .int, 2) := by decide +kernel
theorem dX10_init_192 : decode cX10_init 192 = .ok (.putfield 73, 3) := by decide +kernel
theorem dX10_init_195 : decode cX10_init 195 = .ok (.aload_n 0, 1) := by decide +kernel
theorem dX10_init_196 : decode cX10_init 196 = .ok (.sipush 1280, 3) := by decide +kernel
theorem dX10_init_199 : decode cX10_init 199 = .ok (.newarray .int, 2) := by decide +kernel
theorem dX10_init_201 : decode cX10_init 201 = .ok (.putfield 76, 3) := by decide +kernel
theorem dX10_init_204 : decode cX10_init 204 = .ok (.aload_n 0, 1) := by decide +kernel
theorem dX10_init_205 : decode cX10_init 205 = .ok (.iconst (-1), 1) := by decide +kernel
theorem dX10_init_206 : decode cX10_init 206 = .ok (.putfield 79, 3) := by decide +kernel
theorem dX10_init_209 : decode cX10_init 209 = .ok (.aload_n 0, 1) := by decide +kernel
theorem dX10_init_210 : decode cX10_init 210 = .ok (.sipush 1400, 3) := by decide +kernel
theorem dX10_init_213 : decode cX10_init 213 = .ok (.newarray .int, 2) := by decide +kernel
theorem dX10_init_215 : decode cX10_init 215 = .ok (.putfield 83, 3) := by decide +kernel
theorem dX10_init_218 : decode cX10_init 218 = .ok (.aload_n 0, 1) := by decide +kernel
theorem dX10_init_219 : decode cX10_init 219 = .ok (.sipush 2400, 3) := by decide +kernel
theorem dX10_init_222 : decode cX10_init 222 = .ok (.newarray .int, 2) := by decide +kernel
theorem dX10_init_224 : decode cX10_init 224 = .ok (.putfield 86, 3) := by decide +kernel
theorem dX10_init_227 : decode cX10_init 227 = .ok (.aload_n 0, 1) := by decide +kernel
theorem dX10_init_228 : decode cX10_init 228 = .ok (.sipush 1280, 3) := by decide +kernel
theorem dX10_init_231 : decode cX10_init 231 = .ok (.newarray .boolean, 2) := by decide +kernel
theorem dX10_init_233 : decode cX10_init 233 = .ok (.putfield 89, 3) := by decide +kernel
theorem dX10_init_236 : decode cX10_init 236 = .ok (.aload_n 0, 1) := by decide +kernel
theorem dX10_init_237 : decode cX10_init 237 = .ok (.sipush 130, 3) := by decide +kernel
theorem dX10_init_240 : decode cX10_init 240 = .ok (.newarray .int, 2) := by decide +kernel
theorem dX10_init_242 : decode cX10_init 242 = .ok (.putfield 93, 3) := by decide +kernel
theorem dX10_init_245 : decode cX10_init 245 = .ok (.aload_n 0, 1) := by decide +kernel
theorem dX10_init_246 : decode cX10_init 246 = .ok (.sipush 130, 3) := by decide +kernel
theorem dX10_init_249 : decode cX10_init 249 = .ok (.newarray .int, 2) := by decide +kernel
theorem dX10_init_251 : decode cX10_init 251 = .ok (.putfield 96, 3) := by decide +kernel
theorem dX10_init_254 : decode cX10_init 254 = .ok (.aload_n 0, 1) := by decide +kernel
theorem dX10_init_255 : decode cX10_init 255 = .ok (.sipush 130, 3) := by decide +kernel
theorem dX10_init_258 : decode cX10_init 258 = .ok (.newarray .int, 2) := by decide +kernel
theorem dX10_init_260 : decode cX10_init 260 = .ok (.putfield 99, 3) := by decide +kernel
theorem dX10_init_263 : decode cX10_init 263 = .ok (.aload_n 0, 1) := by decide +kernel
theorem dX10_init_264 : decode cX10_init 264 = .ok (.sipush 130, 3) := by decide +kernel
theorem dX10_init_267 : decode cX10_init 267 = .ok (.newarray .int, 2) := by decide +kernel
theorem dX10_init_269 : decode cX10_init 269 = .ok (.putfield 102, 3) := by decide +kernel
theorem dX10_init_272 : decode cX10_init 272 = .ok (.aload_n 0, 1) := by decide +kernel
theorem dX10_init_273 : decode cX10_init 273 = .ok (.sipush 130, 3) := by decide +kernel
theorem dX10_init_276 : decode cX10_init 276 = .ok (.newarray .int, 2) := by decide +kernel
theorem dX10_init_278 : decode cX10_init 278 = .ok (.putfield 105, 3) := by decide +kernel
theorem dX10_init_281 : decode cX10_init 281 = .ok (.aload_n 0, 1) := by decide +kernel
theorem dX10_init_282 : decode cX10_init 282 = .ok (.sipush 250, 3) := by decide +kernel
theorem dX10_init_285 : decode cX10_init 285 = .ok (.newarray .int, 2) := by decide +kernel
theorem dX10_init_287 : decode cX10_init 287 = .ok (.putfield 108, 3) := by decide +kernel
theorem dX10_init_290 : decode cX10_init 290 = .ok (.aload_n 0, 1) := by decide +kernel
theorem dX10_init_291 : decode cX10_init 291 = .ok (.sipush 250, 3) := by decide +kernel
theorem dX10_init_294 : decode cX10_init 294 = .ok (.newarray .int, 2) := by decide +kernel
theorem dX10_init_296 : decode cX10_init 296 = .ok (.putfield 111, 3) := by decide +kernel
theorem dX10_init_299 : decode cX10_init 299 = .ok (.aload_n 0, 1) := by decide +kernel
theorem dX10_init_300 : decode cX10_init 300 = .ok (.sipush 250, 3) := by decide +kernel
theorem dX10_init_303 : decode cX10_init 303 = .ok (.newarray .int, 2) := by decide +kernel
theorem dX10_init_305 : decode cX10_init 305 = .ok (.putfield 114, 3) := by decide +kernel
theorem dX10_init_308 : decode cX10_init 308 = .ok (.return_, 1) := by decide +kernel
theorem dX10_thrown_0 : decode cX10_thrown 0 = .ok (.aload_n 0, 1) := by decide +kernel
theorem dX10_thrown_1 : decode cX10_thrown 1 = .ok (.getfield 117, 3) := by decide +kernel
theorem dX10_thrown_4 : decode cX10_thrown 4 = .ok (.ireturn, 1) := by decide +kernel
theorem dX10_fail_0 : decode cX10_fail 0 = .ok (.aload_n 0, 1) := by decide +kernel
theorem dX10_fail_1 : decode cX10_fail 1 = .ok (.iload_n 1, 1) := by decide +kernel
theorem dX10_fail_2 : decode cX10_fail 2 = .ok (.putfield 117, 3) := by decide +kernel
theorem dX10_fail_5 : decode cX10_fail 5 = .ok (.iconst 0, 1) := by decide +kernel
theorem dX10_fail_6 : decode cX10_fail 6 = .ok (.ireturn, 1) := by decide +kernel
theorem dX10_in_0 : decode cX10_in 0 = .ok (.iload_n 0, 1) := by decide +kernel
theorem dX10_in_1 : decode cX10_in 1 = .ok (.iload_n 1, 1) := by decide +kernel
theorem dX10_in_2 : decode cX10_in 2 = .ok (.if_icmp .lt 12, 3) := by decide +kernel
theorem dX10_in_5 : decode cX10_in 5 = .ok (.iload_n 0, 1) := by decide +kernel
theorem dX10_in_6 : decode cX10_in 6 = .ok (.iload_n 2, 1) := by decide +kernel
theorem dX10_in_7 : decode cX10_in 7 = .ok (.if_icmp .gt 7, 3) := by decide +kernel
theorem dX10_in_10 : decode cX10_in 10 = .ok (.iconst 1, 1) := by decide +kernel
theorem dX10_in_11 : decode cX10_in 11 = .ok (.goto 4, 3) := by decide +kernel
theorem dX10_in_14 : decode cX10_in 14 = .ok (.iconst 0, 1) := by decide +kernel
theorem dX10_in_15 : decode cX10_in 15 = .ok (.ireturn, 1) := by decide +kernel
theorem dX10_greater_0 : decode cX10_greater 0 = .ok (.iload_n 0, 1) := by decide +kernel
theorem dX10_greater_1 : decode cX10_greater 1 = .ok (.iload_n 1, 1) := by decide +kernel
theorem dX10_greater_2 : decode cX10_greater 2 = .ok (.if_icmp .le 7, 3) := by decide +kernel
theorem dX10_greater_5 : decode cX10_greater 5 = .ok (.iload_n 0, 1) := by decide +kernel
theorem dX10_greater_6 : decode cX10_greater 6 = .ok (.goto 4, 3) := by decide +kernel
theorem dX10_greater_9 : decode cX10_greater 9 = .ok (.iload_n 1, 1) := by decide +kernel
theorem dX10_greater_10 : decode cX10_greater 10 = .ok (.ireturn, 1) := by decide +kernel
theorem dX10_isTerm_0 : decode cX10_isTerm 0 = .ok (.iload_n 1, 1) := by decide +kernel
theorem dX10_isTerm_1 : decode cX10_isTerm 1 = .ok (.iconst 0, 1) := by decide +kernel
theorem dX10_isTerm_2 : decode cX10_isTerm 2 = .ok (.aload_n 0, 1) := by decide +kernel
theorem dX10_isTerm_3 : decode cX10_isTerm 3 = .ok (.getfield 120, 3) := by decide +kernel
theorem dX10_isTerm_6 : decode cX10_isTerm 6 = .ok (.iconst 1, 1) := by decide +kernel
theorem dX10_isTerm_7 : decode cX10_isTerm 7 = .ok (.isub, 1) := by decide +kernel
theorem dX10_isTerm_8 : decode cX10_isTerm 8 = .ok (.invokestatic 123, 3) := by decide +kernel
theorem dX10_isTerm_11 : decode cX10_isTerm 11 = .ok (.ireturn, 1) := by decide +kernel
theorem dX10_hasB_0 : decode cX10_hasB 0 = .ok (.iload_n 0, 1) := by decide +kernel
theorem dX10_hasB_1 : decode cX10_hasB 1 = .ok (.iconst 4, 1) := by decide +kernel
theorem dX10_hasB_2 : decode cX10_hasB 2 = .ok (.bipush 8, 2) := by decide +kernel
theorem dX10_hasB_4 : decode cX10_hasB 4 = .ok (.invokestatic 123, 3) := by decide +kernel
theorem dX10_hasB_7 : decode cX10_hasB 7 = .ok (.ireturn, 1) := by decide +kernel
theorem dX10_hasA_0 : decode cX10_hasA 0 = .ok (.iload_n 0, 1) := by decide +kernel
theorem dX10_hasA_1 : decode cX10_hasA 1 = .ok (.iconst 3, 1) := by decide +kernel
theorem dX10_hasA_2 : decode cX10_hasA 2 = .ok (.bipush 11, 2) := by decide +kernel
theorem dX10_hasA_4 : decode cX10_hasA 4 = .ok (.invokestatic 123, 3) := by decide +kernel
theorem dX10_hasA_7 : decode cX10_hasA 7 = .ok (.ireturn, 1) := by decide +kernel
theorem dX10_fits_0 : decode cX10_fits 0 = .ok (.iload_n 1, 1) := by decide +kernel
theorem dX10_fits_1 : decode cX10_fits 1 = .ok (.tableswitch 52 0 2 #[27, 38, 45], 27) := by decide +kernel
theorem dX10_fits_28 : decode cX10_fits 28 = .ok (.iload_n 2, 1) := by decide +kernel
theorem dX10_fits_29 : decode cX10_fits 29 = .ok (.sipush (-1000), 3) := by decide +kernel
theorem dX10_fits_32 : decode cX10_fits 32 = .ok (.sipush 1000, 3) := by decide +kernel
theorem dX10_fits_35 : decode cX10_fits 35 = .ok (.invokestatic 123, 3) := by decide +kernel
theorem dX10_fits_38 : decode cX10_fits 38 = .ok (.ireturn, 1) := by decide +kernel
theorem dX10_fits_39 : decode cX10_fits 39 = .ok (.iload_n 2, 1) := by decide +kernel
theorem dX10_fits_40 : decode cX10_fits 40 = .ok (.iconst 0, 1) := by decide +kernel
theorem dX10_fits_41 : decode cX10_fits 41 = .ok (.iconst 1, 1) := by decide +kernel
theorem dX10_fits_42 : decode cX10_fits 42 = .ok (.invokestatic 123, 3) := by decide +kernel
theorem dX10_fits_45 : decode cX10_fits 45 = .ok (.ireturn, 1) := by decide +kernel
theorem dX10_fits_46 : decode cX10_fits 46 = .ok (.iload_n 2, 1) := by decide +kernel
theorem dX10_fits_47 : decode cX10_fits 47 = .ok (.iconst 0, 1) := by decide +kernel
theorem dX10_fits_48 : decode cX10_fits 48 = .ok (.iconst 5, 1) := by decide +kernel
theorem dX10_fits_49 : decode cX10_fits 49 = .ok (.invokestatic 123, 3) := by decide +kernel
theorem dX10_fits_52 : decode cX10_fits 52 = .ok (.ireturn, 1) := by decide +kernel
theorem dX10_fits_53 : decode cX10_fits 53 = .ok (.aload_n 0, 1) := by decide +kernel
theorem dX10_fits_54 : decode cX10_fits 54 = .ok (.iload_n 2, 1) := by decide +kernel
theorem dX10_fits_55 : decode cX10_fits 55 = .ok (.invokevirtual 127, 3) := by decide +kernel
theorem dX10_fits_58 : decode cX10_fits 58 = .ok (.ifCond .eq 37, 3) := by decide +kernel
theorem dX10_fits_61 : decode cX10_fits 61 = .ok (.iload_n 1, 1) := by decide +kernel
theorem dX10_fits_62 : decode cX10_fits 62 = .ok (.invokestatic 131, 3) := by decide +kernel
theorem dX10_fits_65 : decode cX10_fits 65 = .ok (.ifCond .eq 11, 3) := by decide +kernel
theorem dX10_fits_68 : decode cX10_fits 68 = .ok (.aload_n 0, 1) := by decide +kernel
theorem dX10_fits_69 : decode cX10_fits 69 = .ok (.iload_n 3, 1) := by decide +kernel
theorem dX10_fits_70 : decode cX10_fits 70 = .ok (.invokevirtual 127, 3) := by decide +kernel
theorem dX10_fits_73 : decode cX10_fits 73 = .ok (.ifCond .eq 22, 3) := by decide +kernel
theorem dX10_fits_76 : decode cX10_fits 76 = .ok (.iload_n 1, 1) := by decide +kernel
theorem dX10_fits_77 : decode cX10_fits 77 = .ok (.bipush 7, 2) := by decide +kernel
theorem dX10_fits_79 : decode cX10_fits 79 = .ok (.if_icmp .ne 12, 3) := by decide +kernel
theorem dX10_fits_82 : decode cX10_fits 82 = .ok (.aload_n 0, 1) := by decide +kernel
theorem dX10_fits_83 : decode cX10_fits 83 = .ok (.iload 4, 2) := by decide +kernel
theorem dX10_fits_85 : decode cX10_fits 85 = .ok (.invokevirtual 127, 3) := by decide +kernel
theorem dX10_fits_88 : decode cX10_fits 88 = .ok (.ifCond .eq 7, 3) := by decide +kernel
theorem dX10_fits_91 : decode cX10_fits 91 = .ok (.iconst 1, 1) := by decide +kernel
theorem dX10_fits_92 : decode cX10_fits 92 = .ok (.goto 4, 3) := by decide +kernel
theorem dX10_fits_95 : decode cX10_fits 95 = .ok (.iconst 0, 1) := by decide +kernel
theorem dX10_fits_96 : decode cX10_fits 96 = .ok (.ireturn, 1) := by decide +kernel
theorem dX10_make_0 : decode cX10_make 0 = .ok (.aload_n 0, 1) := by decide +kernel
theorem dX10_make_1 : decode cX10_make 1 = .ok (.iconst 0, 1) := by decide +kernel
theorem dX10_make_2 : decode cX10_make 2 = .ok (.putfield 117, 3) := by decide +kernel
theorem dX10_make_5 : decode cX10_make 5 = .ok (.iload_n 1, 1) := by decide +kernel
theorem dX10_make_6 : decode cX10_make 6 = .ok (.iconst 0, 1) := by decide +kernel
theorem dX10_make_7 : decode cX10_make 7 = .ok (.bipush 11, 2) := by decide +kernel
theorem dX10_make_9 : decode cX10_make 9 = .ok (.invokestatic 123, 3) := by decide +kernel
theorem dX10_make_12 : decode cX10_make 12 = .ok (.ifCond .eq 15, 3) := by decide +kernel
theorem dX10_make_15 : decode cX10_make 15 = .ok (.aload_n 0, 1) := by decide +kernel
theorem dX10_make_16 : decode cX10_make 16 = .ok (.iload_n 1, 1) := by decide +kernel
theorem dX10_make_17 : decode cX10_make 17 = .ok (.iload_n 2, 1) := by decide +kernel
theorem dX10_make_18 : decode cX10_make 18 = .ok (.iload_n 3, 1) := by decide +kernel
theorem dX10_make_19 : decode cX10_make 19 = .ok (.iload 4, 2) := by decide +kernel
theorem dX10_make_21 : decode cX10_make 21 = .ok (.invokevirtual 134, 3) := by decide +kernel
theorem dX10_make_24 : decode cX10_make 24 = .ok (.ifCond .ne 9, 3) := by decide +kernel
theorem dX10_make_27 : decode cX10_make 27 = .ok (.aload_n 0, 1) := by decide +kernel
theorem dX10_make_28 : decode cX10_make 28 = .ok (.iconst 1, 1) := by decide +kernel
theorem dX10_make_29 : decode cX10_make 29 = .ok (.invokevirtual 138, 3) := by decide +kernel
theorem dX10_make_32 : decode cX10_make 32 = .ok (.ireturn, 1) := by decide +kernel
theorem dX10_make_33 : decode cX10_make 33 = .ok (.iconst 1, 1) := by decide +kernel
theorem dX10_make_34 : decode cX10_make 34 = .ok (.istore 5, 2) := by decide +kernel
theorem dX10_make_36 : decode cX10_make 36 = .ok (.iconst 1, 1) := by decide +kernel
theorem dX10_make_37 : decode cX10_make 37 = .ok (.istore 6, 2) := by decide +kernel
theorem dX10_make_39 : decode cX10_make 39 = .ok (.iload_n 1, 1) := by decide +kernel
theorem dX10_make_40 : decode cX10_make 40 = .ok (.invokestatic 142, 3) := by decide +kernel
theorem dX10_make_43 : decode cX10_make 43 = .ok (.ifCond .eq 24, 3) := by decide +kernel
theorem dX10_make_46 : decode cX10_make 46 = .ok (.aload_n 0, 1) := by decide +kernel
theorem dX10_make_47 : decode cX10_make 47 = .ok (.getfield 22, 3) := by decide +kernel
theorem dX10_make_50 : decode cX10_make 50 = .ok (.iload_n 2, 1) := by decide +kernel
theorem dX10_make_51 : decode cX10_make 51 = .ok (.iaload, 1) := by decide +kernel
theorem dX10_make_52 : decode cX10_make 52 = .ok (.iconst 1, 1) := by decide +kernel
theorem dX10_make_53 : decode cX10_make 53 = .ok (.iadd, 1) := by decide +kernel
theorem dX10_make_54 : decode cX10_make 54 = .ok (.istore 5, 2) := by decide +kernel
theorem dX10_make_56 : decode cX10_make 56 = .ok (.iload 6, 2) := by decide +kernel
theorem dX10_make_58 : decode cX10_make 58 = .ok (.aload_n 0, 1) := by decide +kernel
theorem dX10_make_59 : decode cX10_make 59 = .ok (.getfield 25, 3) := by decide +kernel
theorem dX10_make_62 : decode cX10_make 62 = .ok (.iload_n 2, 1) := by decide +kernel
theorem dX10_make_63 : decode cX10_make 63 = .ok (.iaload, 1) := by decide +kernel
theorem dX10_make_64 : decode cX10_make 64 = .ok (.iadd, 1) := by decide +kernel
theorem dX10_make_65 : decode cX10_make 65 = .ok (.istore 6, 2) := by decide +kernel
theorem dX10_make_67 : decode cX10_make 67 = .ok (.iload_n 1, 1) := by decide +kernel
theorem dX10_make_68 : decode cX10_make 68 = .ok (.invokestatic 131, 3) := by decide +kernel
theorem dX10_make_71 : decode cX10_make 71 = .ok (.ifCond .eq 29, 3) := by decide +kernel
theorem dX10_make_74 : decode cX10_make 74 = .ok (.iload 5, 2) := by decide +kernel
theorem dX10_make_76 : decode cX10_make 76 = .ok (.aload_n 0, 1) := by decide +kernel
theorem dX10_make_77 : decode cX10_make 77 = .ok (.getfield 22, 3) := by decide +kernel
theorem dX10_make_80 : decode cX10_make 80 = .ok (.iload_n 3, 1) := by decide +kernel
theorem dX10_make_81 : decode cX10_make 81 = .ok (.iaload, 1) := by decide +kernel
theorem dX10_make_82 : decode cX10_make 82 = .ok (.iconst 1, 1) := by decide +kernel
theorem dX10_make_83 : decode cX10_make 83 = .ok (.iadd, 1) := by decide +kernel
theorem dX10_make_84 : decode cX10_make 84 = .ok (.invokestatic 145, 3) := by decide +kernel
theorem dX10_make_87 : decode cX10_make 87 = .ok (.istore 5, 2) := by decide +kernel
theorem dX10_make_89 : decode cX10_make 89 = .ok (.iload 6, 2) := by decide +kernel
theorem dX10_make_91 : decode cX10_make 91 = .ok (.aload_n 0, 1) := by decide +kernel
theorem dX10_make_92 : decode cX10_make 92 = .ok (.getfield 25, 3) := by decide +kernel
theorem dX10_make_95 : decode cX10_make 95 = .ok (.iload_n 3, 1) := by decide +kernel
theorem dX10_make_96 : decode cX10_make 96 = .ok (.iaload, 1) := by decide +kernel
theorem dX10_make_97 : decode cX10_make 97 = .ok (.iadd, 1) := by decide +kernel
theorem dX10_make_98 : decode cX10_make 98 = .ok (.istore 6, 2) := by decide +kernel
theorem dX10_make_100 : decode cX10_make 100 = .ok (.iload_n 1, 1) := by decide +kernel
theorem dX10_make_101 : decode cX10_make 101 = .ok (.bipush 7, 2) := by decide +kernel
theorem dX10_make_103 : decode cX10_make 103 = .ok (.if_icmp .ne 31, 3) := by decide +kernel
theorem dX10_make_106 : decode cX10_make 106 = .ok (.iload 5, 2) := by decide +kernel
theorem dX10_make_108 : decode cX10_make 108 = .ok (.aload_n 0, 1) := by decide +kernel
theorem dX10_make_109 : decode cX10_make 109 = .ok (.getfield 22, 3) := by decide +kernel
theorem dX10_make_112 : decode cX10_make 112 = .ok (.iload 4, 2) := by decide +kernel
theorem dX10_make_114 : decode cX10_make 114 = .ok (.iaload, 1) := by decide +kernel
theorem dX10_make_115 : decode cX10_make 115 = .ok (.iconst 1, 1) := by decide +kernel
theorem dX10_make_116 : decode cX10_make 116 = .ok (.iadd, 1) := by decide +kernel
theorem dX10_make_117 : decode cX10_make 117 = .ok (.invokestatic 145, 3) := by decide +kernel
theorem dX10_make_120 : decode cX10_make 120 = .ok (.istore 5, 2) := by decide +kernel
theorem dX10_make_122 : decode cX10_make 122 = .ok (.iload 6, 2) := by decide +kernel
theorem dX10_make_124 : decode cX10_make 124 = .ok (.aload_n 0, 1) := by decide +kernel
theorem dX10_make_125 : decode cX10_make 125 = .ok (.getfield 25, 3) := by decide +kernel
theorem dX10_make_128 : decode cX10_make 128 = .ok (.iload 4, 2) := by decide +kernel
theorem dX10_make_130 : decode cX10_make 130 = .ok (.iaload, 1) := by decide +kernel
theorem dX10_make_131 : decode cX10_make 131 = .ok (.iadd, 1) := by decide +kernel
theorem dX10_make_132 : decode cX10_make 132 = .ok (.istore 6, 2) := by decide +kernel
theorem dX10_make_134 : decode cX10_make 134 = .ok (.aload_n 0, 1) := by decide +kernel
theorem dX10_make_135 : decode cX10_make 135 = .ok (.getfield 120, 3) := by decide +kernel
theorem dX10_make_138 : decode cX10_make 138 = .ok (.bipush 60, 2) := by decide +kernel
theorem dX10_make_140 : decode cX10_make 140 = .ok (.if_icmp .eq 17, 3) := by decide +kernel
theorem dX10_make_143 : decode cX10_make 143 = .ok (.iload 5, 2) := by decide +kernel
theorem dX10_make_145 : decode cX10_make 145 = .ok (.bipush 9, 2) := by decide +kernel
theorem dX10_make_147 : decode cX10_make 147 = .ok (.if_icmp .gt 10, 3) := by decide +kernel
theorem dX10_make_150 : decode cX10_make 150 = .ok (.iload 6, 2) := by decide +kernel
theorem dX10_make_152 : decode cX10_make 152 = .ok (.bipush 120, 2) := by decide +kernel
theorem dX10_make_154 : decode cX10_make 154 = .ok (.if_icmp .le 9, 3) := by decide +kernel
theorem dX10_make_157 : decode cX10_make 157 = .ok (.aload_n 0, 1) := by decide +kernel
theorem dX10_make_158 : decode cX10_make 158 = .ok (.iconst 2, 1) := by decide +kernel
theorem dX10_make_159 : decode cX10_make 159 = .ok (.invokevirtual 138, 3) := by decide +kernel
theorem dX10_make_162 : decode cX10_make 162 = .ok (.ireturn, 1) := by decide +kernel
theorem dX10_make_163 : decode cX10_make 163 = .ok (.aload_n 0, 1) := by decide +kernel
theorem dX10_make_164 : decode cX10_make 164 = .ok (.getfield 7, 3) := by decide +kernel
theorem dX10_make_167 : decode cX10_make 167 = .ok (.aload_n 0, 1) := by decide +kernel
theorem dX10_make_168 : decode cX10_make 168 = .ok (.getfield 120, 3) := by decide +kernel
theorem dX10_make_171 : decode cX10_make 171 = .ok (.iload_n 1, 1) := by decide +kernel
theorem dX10_make_172 : decode cX10_make 172 = .ok (.iastore, 1) := by decide +kernel
theorem dX10_make_173 : decode cX10_make 173 = .ok (.aload_n 0, 1) := by decide +kernel
theorem dX10_make_174 : decode cX10_make 174 = .ok (.getfield 13, 3) := by decide +kernel
theorem dX10_make_177 : decode cX10_make 177 = .ok (.aload_n 0, 1) := by decide +kernel
theorem dX10_make_178 : decode cX10_make 178 = .ok (.getfield 120, 3) := by decide +kernel
theorem dX10_make_181 : decode cX10_make 181 = .ok (.iload_n 2, 1) := by decide +kernel
theorem dX10_make_182 : decode cX10_make 182 = .ok (.iastore, 1) := by decide +kernel
theorem dX10_make_183 : decode cX10_make 183 = .ok (.aload_n 0, 1) := by decide +kernel
theorem dX10_make_184 : decode cX10_make 184 = .ok (.getfield 16, 3) := by decide +kernel
theorem dX10_make_187 : decode cX10_make 187 = .ok (.aload_n 0, 1) := by decide +kernel
theorem dX10_make_188 : decode cX10_make 188 = .ok (.getfield 120, 3) := by decide +kernel
theorem dX10_make_191 : decode cX10_make 191 = .ok (.iload_n 3, 1) := by decide +kernel
theorem dX10_make_192 : decode cX10_make 192 = .ok (.iastore, 1) := by decide +kernel
theorem dX10_make_193 : decode cX10_make 193 = .ok (.aload_n 0, 1) := by decide +kernel
theorem dX10_make_194 : decode cX10_make 194 = .ok (.getfield 19, 3) := by decide +kernel
theorem dX10_make_197 : decode cX10_make 197 = .ok (.aload_n 0, 1) := by decide +kernel
theorem dX10_make_198 : decode cX10_make 198 = .ok (.getfield 120, 3) := by decide +kernel
theorem dX10_make_201 : decode cX10_make 201 = .ok (.iload 4, 2) := by decide +kernel
theorem dX10_make_203 : decode cX10_make 203 = .ok (.iastore, 1) := by decide +kernel
theorem dX10_make_204 : decode cX10_make 204 = .ok (.aload_n 0, 1) := by decide +kernel
theorem dX10_make_205 : decode cX10_make 205 = .ok (.getfield 22, 3) := by decide +kernel
theorem dX10_make_208 : decode cX10_make 208 = .ok (.aload_n 0, 1) := by decide +kernel
theorem dX10_make_209 : decode cX10_make 209 = .ok (.getfield 120, 3) := by decide +kernel
theorem dX10_make_212 : decode cX10_make 212 = .ok (.iload 5, 2) := by decide +kernel
theorem dX10_make_214 : decode cX10_make 214 = .ok (.iastore, 1) := by decide +kernel
theorem dX10_make_215 : decode cX10_make 215 = .ok (.aload_n 0, 1) := by decide +kernel
theorem dX10_make_216 : decode cX10_make 216 = .ok (.getfield 25, 3) := by decide +kernel
theorem dX10_make_219 : decode cX10_make 219 = .ok (.aload_n 0, 1) := by decide +kernel
theorem dX10_make_220 : decode cX10_make 220 = .ok (.getfield 120, 3) := by decide +kernel
theorem dX10_make_223 : decode cX10_make 223 = .ok (.iload 6, 2) := by decide +kernel
theorem dX10_make_225 : decode cX10_make 225 = .ok (.iastore, 1) := by decide +kernel
theorem dX10_make_226 : decode cX10_make 226 = .ok (.aload_n 0, 1) := by decide +kernel
theorem dX10_make_227 : decode cX10_make 227 = .ok (.getfield 28, 3) := by decide +kernel
theorem dX10_make_230 : decode cX10_make 230 = .ok (.aload_n 0, 1) := by decide +kernel
theorem dX10_make_231 : decode cX10_make 231 = .ok (.getfield 120, 3) := by decide +kernel
theorem dX10_make_234 : decode cX10_make 234 = .ok (.aload_n 0, 1) := by decide +kernel
theorem dX10_make_235 : decode cX10_make 235 = .ok (.iload_n 1, 1) := by decide +kernel
theorem dX10_make_236 : decode cX10_make 236 = .ok (.iload_n 2, 1) := by decide +kernel
theorem dX10_make_237 : decode cX10_make 237 = .ok (.iload_n 3, 1) := by decide +kernel
theorem dX10_make_238 : decode cX10_make 238 = .ok (.iload 4, 2) := by decide +kernel
theorem dX10_make_240 : decode cX10_make 240 = .ok (.invokevirtual 149, 3) := by decide +kernel
theorem dX10_make_243 : decode cX10_make 243 = .ok (.iastore, 1) := by decide +kernel
theorem dX10_make_244 : decode cX10_make 244 = .ok (.aload_n 0, 1) := by decide +kernel
theorem dX10_make_245 : decode cX10_make 245 = .ok (.dup, 1) := by decide +kernel
theorem dX10_make_246 : decode cX10_make 246 = .ok (.getfield 120, 3) := by decide +kernel
theorem dX10_make_249 : decode cX10_make 249 = .ok (.iconst 1, 1) := by decide +kernel
theorem dX10_make_250 : decode cX10_make 250 = .ok (.iadd, 1) := by decide +kernel
theorem dX10_make_251 : decode cX10_make 251 = .ok (.putfield 120, 3) := by decide +kernel
theorem dX10_make_254 : decode cX10_make 254 = .ok (.aload_n 0, 1) := by decide +kernel
theorem dX10_make_255 : decode cX10_make 255 = .ok (.getfield 120, 3) := by decide +kernel
theorem dX10_make_258 : decode cX10_make 258 = .ok (.iconst 1, 1) := by decide +kernel
theorem dX10_make_259 : decode cX10_make 259 = .ok (.isub, 1) := by decide +kernel
theorem dX10_make_260 : decode cX10_make 260 = .ok (.ireturn, 1) := by decide +kernel
theorem dX10_needs_0 : decode cX10_needs 0 = .ok (.iload_n 1, 1) := by decide +kernel
theorem dX10_needs_1 : decode cX10_needs 1 = .ok (.tableswitch 146 0 11 #[63, 63, 65, 69, 146, 146, 146, 120, 102, 95, 69, 82], 63) := by decide +kernel
theorem dX10_needs_64 : decode cX10_needs 64 = .ok (.iconst 0, 1) := by decide +kernel
theorem dX10_needs_65 : decode cX10_needs 65 = .ok (.ireturn, 1) := by decide +kernel
theorem dX10_needs_66 : decode cX10_needs 66 = .ok (.iload_n 2, 1) := by decide +kernel
theorem dX10_needs_67 : decode cX10_needs 67 = .ok (.iconst 1, 1) := by decide +kernel
theorem dX10_needs_68 : decode cX10_needs 68 = .ok (.iadd, 1) := by decide +kernel
theorem dX10_needs_69 : decode cX10_needs 69 = .ok (.ireturn, 1) := by decide +kernel
theorem dX10_needs_70 : decode cX10_needs 70 = .ok (.aload_n 0, 1) := by decide +kernel
theorem dX10_needs_71 : decode cX10_needs 71 = .ok (.getfield 28, 3) := by decide +kernel
theorem dX10_needs_74 : decode cX10_needs 74 = .ok (.iload_n 2, 1) := by decide +kernel
theorem dX10_needs_75 : decode cX10_needs 75 = .ok (.iaload, 1) := by decide +kernel
theorem dX10_needs_76 : decode cX10_needs 76 = .ok (.iconst 1, 1) := by decide +kernel
theorem dX10_needs_77 : decode cX10_needs 77 = .ok (.isub, 1) := by decide +kernel
theorem dX10_needs_78 : decode cX10_needs 78 = .ok (.iconst 0, 1) := by decide +kernel
theorem dX10_needs_79 : decode cX10_needs 79 = .ok (.invokestatic 145, 3) := by decide +kernel
theorem dX10_needs_82 : decode cX10_needs 82 = .ok (.ireturn, 1) := by decide +kernel
theorem dX10_needs_83 : decode cX10_needs 83 = .ok (.aload_n 0, 1) := by decide +kernel
theorem dX10_needs_84 : decode cX10_needs 84 = .ok (.getfield 28, 3) := by decide +kernel
theorem dX10_needs_87 : decode cX10_needs 87 = .ok (.iload_n 2, 1) := by decide +kernel
theorem dX10_needs_88 : decode cX10_needs 88 = .ok (.iaload, 1) := by decide +kernel
theorem dX10_needs_89 : decode cX10_needs 89 = .ok (.iconst 2, 1) := by decide +kernel
theorem dX10_needs_90 : decode cX10_needs 90 = .ok (.isub, 1) := by decide +kernel
theorem dX10_needs_91 : decode cX10_needs 91 = .ok (.iconst 0, 1) := by decide +kernel
theorem dX10_needs_92 : decode cX10_needs 92 = .ok (.invokestatic 145, 3) := by decide +kernel
theorem dX10_needs_95 : decode cX10_needs 95 = .ok (.ireturn, 1) := by decide +kernel
theorem dX10_needs_96 : decode cX10_needs 96 = .ok (.aload_n 0, 1) := by decide +kernel
theorem dX10_needs_97 : decode cX10_needs 97 = .ok (.getfield 28, 3) := by decide +kernel
theorem dX10_needs_100 : decode cX10_needs 100 = .ok (.iload_n 2, 1) := by decide +kernel
theorem dX10_needs_101 : decode cX10_needs 101 = .ok (.iaload, 1) := by decide +kernel
theorem dX10_needs_102 : decode cX10_needs 102 = .ok (.ireturn, 1) := by decide +kernel
theorem dX10_needs_103 : decode cX10_needs 103 = .ok (.aload_n 0, 1) := by decide +kernel
theorem dX10_needs_104 : decode cX10_needs 104 = .ok (.getfield 28, 3) := by decide +kernel
theorem dX10_needs_107 : decode cX10_needs 107 = .ok (.iload_n 2, 1) := by decide +kernel
theorem dX10_needs_108 : decode cX10_needs 108 = .ok (.iaload, 1) := by decide +kernel
theorem dX10_needs_109 : decode cX10_needs 109 = .ok (.aload_n 0, 1) := by decide +kernel
theorem dX10_needs_110 : decode cX10_needs 110 = .ok (.getfield 28, 3) := by decide +kernel
theorem dX10_needs_113 : decode cX10_needs 113 = .ok (.iload_n 3, 1) := by decide +kernel
theorem dX10_needs_114 : decode cX10_needs 114 = .ok (.iaload, 1) := by decide +kernel
theorem dX10_needs_115 : decode cX10_needs 115 = .ok (.iconst 1, 1) := by decide +kernel
theorem dX10_needs_116 : decode cX10_needs 116 = .ok (.isub, 1) := by decide +kernel
theorem dX10_needs_117 : decode cX10_needs 117 = .ok (.invokestatic 145, 3) := by decide +kernel
theorem dX10_needs_120 : decode cX10_needs 120 = .ok (.ireturn, 1) := by decide +kernel
theorem dX10_needs_121 : decode cX10_needs 121 = .ok (.aload_n 0, 1) := by decide +kernel
theorem dX10_needs_122 : decode cX10_needs 122 = .ok (.getfield 28, 3) := by decide +kernel
theorem dX10_needs_125 : decode cX10_needs 125 = .ok (.iload_n 2, 1) := by decide +kernel
theorem dX10_needs_126 : decode cX10_needs 126 = .ok (.iaload, 1) := by decide +kernel
theorem dX10_needs_127 : decode cX10_needs 127 = .ok (.aload_n 0, 1) := by decide +kernel
theorem dX10_needs_128 : decode cX10_needs 128 = .ok (.getfield 28, 3) := by decide +kernel
theorem dX10_needs_131 : decode cX10_needs 131 = .ok (.iload_n 3, 1) := by decide +kernel
theorem dX10_needs_132 : decode cX10_needs 132 = .ok (.iaload, 1) := by decide +kernel
theorem dX10_needs_133 : decode cX10_needs 133 = .ok (.aload_n 0, 1) := by decide +kernel
theorem dX10_needs_134 : decode cX10_needs 134 = .ok (.getfield 28, 3) := by decide +kernel
theorem dX10_needs_137 : decode cX10_needs 137 = .ok (.iload 4, 2) := by decide +kernel
theorem dX10_needs_139 : decode cX10_needs 139 = .ok (.iaload, 1) := by decide +kernel
theorem dX10_needs_140 : decode cX10_needs 140 = .ok (.invokestatic 145, 3) := by decide +kernel
theorem dX10_needs_143 : decode cX10_needs 143 = .ok (.invokestatic 145, 3) := by decide +kernel
theorem dX10_needs_146 : decode cX10_needs 146 = .ok (.ireturn, 1) := by decide +kernel
theorem dX10_needs_147 : decode cX10_needs 147 = .ok (.aload_n 0, 1) := by decide +kernel
theorem dX10_needs_148 : decode cX10_needs 148 = .ok (.getfield 28, 3) := by decide +kernel
theorem dX10_needs_151 : decode cX10_needs 151 = .ok (.iload_n 2, 1) := by decide +kernel
theorem dX10_needs_152 : decode cX10_needs 152 = .ok (.iaload, 1) := by decide +kernel
theorem dX10_needs_153 : decode cX10_needs 153 = .ok (.aload_n 0, 1) := by decide +kernel
theorem dX10_needs_154 : decode cX10_needs 154 = .ok (.getfield 28, 3) := by decide +kernel
theorem dX10_needs_157 : decode cX10_needs 157 = .ok (.iload_n 3, 1) := by decide +kernel
theorem dX10_needs_158 : decode cX10_needs 158 = .ok (.iaload, 1) := by decide +kernel
theorem dX10_needs_159 : decode cX10_needs 159 = .ok (.invokestatic 145, 3) := by decide +kernel
theorem dX10_needs_162 : decode cX10_needs 162 = .ok (.ireturn, 1) := by decide +kernel
theorem dX10_open_0 : decode cX10_open 0 = .ok (.aload_n 0, 1) := by decide +kernel
theorem dX10_open_1 : decode cX10_open 1 = .ok (.aload_n 0, 1) := by decide +kernel
theorem dX10_open_2 : decode cX10_open 2 = .ok (.iload_n 1, 1) := by decide +kernel
theorem dX10_open_3 : decode cX10_open 3 = .ok (.invokevirtual 127, 3) := by decide +kernel
theorem dX10_open_6 : decode cX10_open 6 = .ok (.ifCond .eq 7, 3) := by decide +kernel
theorem dX10_open_9 : decode cX10_open 9 = .ok (.iconst 0, 1) := by decide +kernel
theorem dX10_open_10 : decode cX10_open 10 = .ok (.goto 4, 3) := by decide +kernel
theorem dX10_open_13 : decode cX10_open 13 = .ok (.iconst 1, 1) := by decide +kernel
theorem dX10_open_14 : decode cX10_open 14 = .ok (.putfield 117, 3) := by decide +kernel
theorem dX10_open_17 : decode cX10_open 17 = .ok (.aload_n 0, 1) := by decide +kernel
theorem dX10_open_18 : decode cX10_open 18 = .ok (.getfield 117, 3) := by decide +kernel
theorem dX10_open_21 : decode cX10_open 21 = .ok (.ifCond .le 7, 3) := by decide +kernel
theorem dX10_open_24 : decode cX10_open 24 = .ok (.iconst 0, 1) := by decide +kernel
theorem dX10_open_25 : decode cX10_open 25 = .ok (.goto 9, 3) := by decide +kernel
theorem dX10_open_28 : decode cX10_open 28 = .ok (.aload_n 0, 1) := by decide +kernel
theorem dX10_open_29 : decode cX10_open 29 = .ok (.getfield 28, 3) := by decide +kernel
theorem dX10_open_32 : decode cX10_open 32 = .ok (.iload_n 1, 1) := by decide +kernel
theorem dX10_open_33 : decode cX10_open 33 = .ok (.iaload, 1) := by decide +kernel
theorem dX10_open_34 : decode cX10_open 34 = .ok (.ireturn, 1) := by decide +kernel
theorem dX10_bind_0 : decode cX10_bind 0 = .ok (.aload_n 0, 1) := by decide +kernel
theorem dX10_bind_1 : decode cX10_bind 1 = .ok (.dup, 1) := by decide +kernel
theorem dX10_bind_2 : decode cX10_bind 2 = .ok (.getfield 153, 3) := by decide +kernel
theorem dX10_bind_5 : decode cX10_bind 5 = .ok (.iconst 1, 1) := by decide +kernel
theorem dX10_bind_6 : decode cX10_bind 6 = .ok (.iadd, 1) := by decide +kernel
theorem dX10_bind_7 : decode cX10_bind 7 = .ok (.putfield 153, 3) := by decide +kernel
theorem dX10_bind_10 : decode cX10_bind 10 = .ok (.aload_n 0, 1) := by decide +kernel
theorem dX10_bind_11 : decode cX10_bind 11 = .ok (.getfield 31, 3) := by decide +kernel
theorem dX10_bind_14 : decode cX10_bind 14 = .ok (.aload_n 0, 1) := by decide +kernel
theorem dX10_bind_15 : decode cX10_bind 15 = .ok (.getfield 153, 3) := by decide +kernel
theorem dX10_bind_18 : decode cX10_bind 18 = .ok (.iload_n 1, 1) := by decide +kernel
theorem dX10_bind_19 : decode cX10_bind 19 = .ok (.iastore, 1) := by decide +kernel
theorem dX10_bind_20 : decode cX10_bind 20 = .ok (.aload_n 0, 1) := by decide +kernel
theorem dX10_bind_21 : decode cX10_bind 21 = .ok (.getfield 34, 3) := by decide +kernel
theorem dX10_bind_24 : decode cX10_bind 24 = .ok (.aload_n 0, 1) := by decide +kernel
theorem dX10_bind_25 : decode cX10_bind 25 = .ok (.getfield 153, 3) := by decide +kernel
theorem dX10_bind_28 : decode cX10_bind 28 = .ok (.iload_n 2, 1) := by decide +kernel
theorem dX10_bind_29 : decode cX10_bind 29 = .ok (.iastore, 1) := by decide +kernel
theorem dX10_bind_30 : decode cX10_bind 30 = .ok (.aload_n 0, 1) := by decide +kernel
theorem dX10_bind_31 : decode cX10_bind 31 = .ok (.getfield 37, 3) := by decide +kernel
theorem dX10_bind_34 : decode cX10_bind 34 = .ok (.aload_n 0, 1) := by decide +kernel
theorem dX10_bind_35 : decode cX10_bind 35 = .ok (.getfield 153, 3) := by decide +kernel
theorem dX10_bind_38 : decode cX10_bind 38 = .ok (.iload_n 3, 1) := by decide +kernel
theorem dX10_bind_39 : decode cX10_bind 39 = .ok (.iastore, 1) := by decide +kernel
theorem dX10_bind_40 : decode cX10_bind 40 = .ok (.aload_n 0, 1) := by decide +kernel
theorem dX10_bind_41 : decode cX10_bind 41 = .ok (.getfield 153, 3) := by decide +kernel
theorem dX10_bind_44 : decode cX10_bind 44 = .ok (.ireturn, 1) := by decide +kernel
theorem dX10_then_0 : decode cX10_then 0 = .ok (.aload_n 0, 1) := by decide +kernel
theorem dX10_then_1 : decode cX10_then 1 = .ok (.dup, 1) := by decide +kernel
theorem dX10_then_2 : decode cX10_then 2 = .ok (.getfield 156, 3) := by decide +kernel
theorem dX10_then_5 : decode cX10_then 5 = .ok (.iconst 1, 1) := by decide +kernel
theorem dX10_then_6 : decode cX10_then 6 = .ok (.iadd, 1) := by decide +kernel
theorem dX10_then_7 : decode cX10_then 7 = .ok (.putfield 156, 3) := by decide +kernel
theorem dX10_then_10 : decode cX10_then 10 = .ok (.aload_n 0, 1) := by decide +kernel
theorem dX10_then_11 : decode cX10_then 11 = .ok (.getfield 46, 3) := by decide +kernel
theorem dX10_then_14 : decode cX10_then 14 = .ok (.aload_n 0, 1) := by decide +kernel
theorem dX10_then_15 : decode cX10_then 15 = .ok (.getfield 156, 3) := by decide +kernel
theorem dX10_then_18 : decode cX10_then 18 = .ok (.iload_n 1, 1) := by decide +kernel
theorem dX10_then_19 : decode cX10_then 19 = .ok (.iastore, 1) := by decide +kernel
theorem dX10_then_20 : decode cX10_then 20 = .ok (.aload_n 0, 1) := by decide +kernel
theorem dX10_then_21 : decode cX10_then 21 = .ok (.getfield 49, 3) := by decide +kernel
theorem dX10_then_24 : decode cX10_then 24 = .ok (.aload_n 0, 1) := by decide +kernel
theorem dX10_then_25 : decode cX10_then 25 = .ok (.getfield 156, 3) := by decide +kernel
theorem dX10_then_28 : decode cX10_then 28 = .ok (.iload_n 2, 1) := by decide +kernel
theorem dX10_then_29 : decode cX10_then 29 = .ok (.iastore, 1) := by decide +kernel
theorem dX10_then_30 : decode cX10_then 30 = .ok (.aload_n 0, 1) := by decide +kernel
theorem dX10_then_31 : decode cX10_then 31 = .ok (.getfield 52, 3) := by decide +kernel
theorem dX10_then_34 : decode cX10_then 34 = .ok (.aload_n 0, 1) := by decide +kernel
theorem dX10_then_35 : decode cX10_then 35 = .ok (.getfield 156, 3) := by decide +kernel
theorem dX10_then_38 : decode cX10_then 38 = .ok (.iload_n 3, 1) := by decide +kernel
theorem dX10_then_39 : decode cX10_then 39 = .ok (.iastore, 1) := by decide +kernel
theorem dX10_then_40 : decode cX10_then 40 = .ok (.aload_n 0, 1) := by decide +kernel
theorem dX10_then_41 : decode cX10_then 41 = .ok (.getfield 55, 3) := by decide +kernel
theorem dX10_then_44 : decode cX10_then 44 = .ok (.aload_n 0, 1) := by decide +kernel
theorem dX10_then_45 : decode cX10_then 45 = .ok (.getfield 156, 3) := by decide +kernel
theorem dX10_then_48 : decode cX10_then 48 = .ok (.iload 4, 2) := by decide +kernel
theorem dX10_then_50 : decode cX10_then 50 = .ok (.iastore, 1) := by decide +kernel
theorem dX10_then_51 : decode cX10_then 51 = .ok (.aload_n 0, 1) := by decide +kernel
theorem dX10_then_52 : decode cX10_then 52 = .ok (.getfield 58, 3) := by decide +kernel
theorem dX10_then_55 : decode cX10_then 55 = .ok (.aload_n 0, 1) := by decide +kernel
theorem dX10_then_56 : decode cX10_then 56 = .ok (.getfield 156, 3) := by decide +kernel
theorem dX10_then_59 : decode cX10_then 59 = .ok (.iload 5, 2) := by decide +kernel
theorem dX10_then_61 : decode cX10_then 61 = .ok (.iastore, 1) := by decide +kernel
theorem dX10_then_62 : decode cX10_then 62 = .ok (.aload_n 0, 1) := by decide +kernel
theorem dX10_then_63 : decode cX10_then 63 = .ok (.getfield 61, 3) := by decide +kernel
theorem dX10_then_66 : decode cX10_then 66 = .ok (.aload_n 0, 1) := by decide +kernel
theorem dX10_then_67 : decode cX10_then 67 = .ok (.getfield 156, 3) := by decide +kernel
theorem dX10_then_70 : decode cX10_then 70 = .ok (.aload_n 0, 1) := by decide +kernel
theorem dX10_then_71 : decode cX10_then 71 = .ok (.getfield 159, 3) := by decide +kernel
theorem dX10_then_74 : decode cX10_then 74 = .ok (.iastore, 1) := by decide +kernel
theorem dX10_then_75 : decode cX10_then 75 = .ok (.aload_n 0, 1) := by decide +kernel
theorem dX10_then_76 : decode cX10_then 76 = .ok (.aload_n 0, 1) := by decide +kernel
theorem dX10_then_77 : decode cX10_then 77 = .ok (.getfield 156, 3) := by decide +kernel
theorem dX10_then_80 : decode cX10_then 80 = .ok (.putfield 159, 3) := by decide +kernel
theorem dX10_then_83 : decode cX10_then 83 = .ok (.return_, 1) := by decide +kernel
theorem dX10_give_0 : decode cX10_give 0 = .ok (.aload_n 0, 1) := by decide +kernel
theorem dX10_give_1 : decode cX10_give 1 = .ok (.iload_n 1, 1) := by decide +kernel
theorem dX10_give_2 : decode cX10_give 2 = .ok (.putfield 162, 3) := by decide +kernel
theorem dX10_give_5 : decode cX10_give 5 = .ok (.aload_n 0, 1) := by decide +kernel
theorem dX10_give_6 : decode cX10_give 6 = .ok (.iload_n 2, 1) := by decide +kernel
theorem dX10_give_7 : decode cX10_give 7 = .ok (.putfield 165, 3) := by decide +kernel
theorem dX10_give_10 : decode cX10_give 10 = .ok (.return_, 1) := by decide +kernel
theorem dX10_closure_0 : decode cX10_closure 0 = .ok (.aload_n 0, 1) := by decide +kernel
theorem dX10_closure_1 : decode cX10_closure 1 = .ok (.dup, 1) := by decide +kernel
theorem dX10_closure_2 : decode cX10_closure 2 = .ok (.getfield 168, 3) := by decide +kernel
theorem dX10_closure_5 : decode cX10_closure 5 = .ok (.iconst 1, 1) := by decide +kernel
theorem dX10_closure_6 : decode cX10_closure 6 = .ok (.iadd, 1) := by decide +kernel
theorem dX10_closure_7 : decode cX10_closure 7 = .ok (.putfield 168, 3) := by decide +kernel
theorem dX10_closure_10 : decode cX10_closure 10 = .ok (.aload_n 0, 1) := by decide +kernel
theorem dX10_closure_11 : decode cX10_closure 11 = .ok (.getfield 40, 3) := by decide +kernel
theorem dX10_closure_14 : decode cX10_closure 14 = .ok (.aload_n 0, 1) := by decide +kernel
theorem dX10_closure_15 : decode cX10_closure 15 = .ok (.getfield 168, 3) := by decide +kernel
theorem dX10_closure_18 : decode cX10_closure 18 = .ok (.iload_n 1, 1) := by decide +kernel
theorem dX10_closure_19 : decode cX10_closure 19 = .ok (.iastore, 1) := by decide +kernel
theorem dX10_closure_20 : decode cX10_closure 20 = .ok (.aload_n 0, 1) := by decide +kernel
theorem dX10_closure_21 : decode cX10_closure 21 = .ok (.getfield 43, 3) := by decide +kernel
theorem dX10_closure_24 : decode cX10_closure 24 = .ok (.aload_n 0, 1) := by decide +kernel
theorem dX10_closure_25 : decode cX10_closure 25 = .ok (.getfield 168, 3) := by decide +kernel
theorem dX10_closure_28 : decode cX10_closure 28 = .ok (.iload_n 2, 1) := by decide +kernel
theorem dX10_closure_29 : decode cX10_closure 29 = .ok (.iastore, 1) := by decide +kernel
theorem dX10_closure_30 : decode cX10_closure 30 = .ok (.aload_n 0, 1) := by decide +kernel
theorem dX10_closure_31 : decode cX10_closure 31 = .ok (.getfield 168, 3) := by decide +kernel
theorem dX10_closure_34 : decode cX10_closure 34 = .ok (.ireturn, 1) := by decide +kernel
theorem dX10_begin_0 : decode cX10_begin 0 = .ok (.aload_n 0, 1) := by decide +kernel
theorem dX10_begin_1 : decode cX10_begin 1 = .ok (.getfield 7, 3) := by decide +kernel
theorem dX10_begin_4 : decode cX10_begin 4 = .ok (.iload_n 1, 1) := by decide +kernel
theorem dX10_begin_5 : decode cX10_begin 5 = .ok (.iaload, 1) := by decide +kernel
theorem dX10_begin_6 : decode cX10_begin 6 = .ok (.istore_n 3, 1) := by decide +kernel
theorem dX10_begin_7 : decode cX10_begin 7 = .ok (.aload_n 0, 1) := by decide +kernel
theorem dX10_begin_8 : decode cX10_begin 8 = .ok (.iload_n 2, 1) := by decide +kernel
theorem dX10_begin_9 : decode cX10_begin 9 = .ok (.putfield 171, 3) := by decide +kernel
theorem dX10_begin_12 : decode cX10_begin 12 = .ok (.iload_n 3, 1) := by decide +kernel
theorem dX10_begin_13 : decode cX10_begin 13 = .ok (.tableswitch 215 0 11 #[63, 76, 89, 141, 215, 215, 215, 215, 215, 154, 189, 141], 63) := by decide +kernel
theorem dX10_begin_76 : decode cX10_begin 76 = .ok (.aload_n 0, 1) := by decide +kernel
theorem dX10_begin_77 : decode cX10_begin 77 = .ok (.iconst 0, 1) := by decide +kernel
theorem dX10_begin_78 : decode cX10_begin 78 = .ok (.aload_n 0, 1) := by decide +kernel
theorem dX10_begin_79 : decode cX10_begin 79 = .ok (.getfield 13, 3) := by decide +kernel
theorem dX10_begin_82 : decode cX10_begin 82 = .ok (.iload_n 1, 1) := by decide +kernel
theorem dX10_begin_83 : decode cX10_begin 83 = .ok (.iaload, 1) := by decide +kernel
theorem dX10_begin_84 : decode cX10_begin 84 = .ok (.invokevirtual 174, 3) := by decide +kernel
theorem dX10_begin_87 : decode cX10_begin 87 = .ok (.iconst (-1), 1) := by decide +kernel
theorem dX10_begin_88 : decode cX10_begin 88 = .ok (.ireturn, 1) := by decide +kernel
theorem dX10_begin_89 : decode cX10_begin 89 = .ok (.aload_n 0, 1) := by decide +kernel
theorem dX10_begin_90 : decode cX10_begin 90 = .ok (.iconst 1, 1) := by decide +kernel
theorem dX10_begin_91 : decode cX10_begin 91 = .ok (.aload_n 0, 1) := by decide +kernel
theorem dX10_begin_92 : decode cX10_begin 92 = .ok (.getfield 13, 3) := by decide +kernel
theorem dX10_begin_95 : decode cX10_begin 95 = .ok (.iload_n 1, 1) := by decide +kernel
theorem dX10_begin_96 : decode cX10_begin 96 = .ok (.iaload, 1) := by decide +kernel
theorem dX10_begin_97 : decode cX10_begin 97 = .ok (.invokevirtual 174, 3) := by decide +kernel
theorem dX10_begin_100 : decode cX10_begin 100 = .ok (.iconst (-1), 1) := by decide +kernel
theorem dX10_begin_101 : decode cX10_begin 101 = .ok (.ireturn, 1) := by decide +kernel
theorem dX10_begin_102 : decode cX10_begin 102 = .ok (.iload_n 2, 1) := by decide +kernel
theorem dX10_begin_103 : decode cX10_begin 103 = .ok (.istore 4, 2) := by decide +kernel
theorem dX10_begin_105 : decode cX10_begin 105 = .ok (.iconst 0, 1) := by decide +kernel
theorem dX10_begin_106 : decode cX10_begin 106 = .ok (.istore 5, 2) := by decide +kernel
theorem dX10_begin_108 : decode cX10_begin 108 = .ok (.iload 5, 2) := by decide +kernel
theorem dX10_begin_110 : decode cX10_begin 110 = .ok (.aload_n 0, 1) := by decide +kernel
theorem dX10_begin_111 : decode cX10_begin 111 = .ok (.getfield 13, 3) := by decide +kernel
theorem dX10_begin_114 : decode cX10_begin 114 = .ok (.iload_n 1, 1) := by decide +kernel
theorem dX10_begin_115 : decode cX10_begin 115 = .ok (.iaload, 1) := by decide +kernel
theorem dX10_begin_116 : decode cX10_begin 116 = .ok (.if_icmp .ge 18, 3) := by decide +kernel
theorem dX10_begin_119 : decode cX10_begin 119 = .ok (.aload_n 0, 1) := by decide +kernel
theorem dX10_begin_120 : decode cX10_begin 120 = .ok (.getfield 37, 3) := by decide +kernel
theorem dX10_begin_123 : decode cX10_begin 123 = .ok (.iload 4, 2) := by decide +kernel
theorem dX10_begin_125 : decode cX10_begin 125 = .ok (.iaload, 1) := by decide +kernel
theorem dX10_begin_126 : decode cX10_begin 126 = .ok (.istore 4, 2) := by decide +kernel
theorem dX10_begin_128 : decode cX10_begin 128 = .ok (.iinc 5 1, 3) := by decide +kernel
theorem dX10_begin_131 : decode cX10_begin 131 = .ok (.goto (-23), 3) := by decide +kernel
theorem dX10_begin_134 : decode cX10_begin 134 = .ok (.aload_n 0, 1) := by decide +kernel
theorem dX10_begin_135 : decode cX10_begin 135 = .ok (.aload_n 0, 1) := by decide +kernel
theorem dX10_begin_136 : decode cX10_begin 136 = .ok (.getfield 31, 3) := by decide +kernel
theorem dX10_begin_139 : decode cX10_begin 139 = .ok (.iload 4, 2) := by decide +kernel
theorem dX10_begin_141 : decode cX10_begin 141 = .ok (.iaload, 1) := by decide +kernel
theorem dX10_begin_142 : decode cX10_begin 142 = .ok (.aload_n 0, 1) := by decide +kernel
theorem dX10_begin_143 : decode cX10_begin 143 = .ok (.getfield 34, 3) := by decide +kernel
theorem dX10_begin_146 : decode cX10_begin 146 = .ok (.iload 4, 2) := by decide +kernel
theorem dX10_begin_148 : decode cX10_begin 148 = .ok (.iaload, 1) := by decide +kernel
theorem dX10_begin_149 : decode cX10_begin 149 = .ok (.invokevirtual 174, 3) := by decide +kernel
theorem dX10_begin_152 : decode cX10_begin 152 = .ok (.iconst (-1), 1) := by decide +kernel
theorem dX10_begin_153 : decode cX10_begin 153 = .ok (.ireturn, 1) := by decide +kernel
theorem dX10_begin_154 : decode cX10_begin 154 = .ok (.aload_n 0, 1) := by decide +kernel
theorem dX10_begin_155 : decode cX10_begin 155 = .ok (.iconst 2, 1) := by decide +kernel
theorem dX10_begin_156 : decode cX10_begin 156 = .ok (.aload_n 0, 1) := by decide +kernel
theorem dX10_begin_157 : decode cX10_begin 157 = .ok (.iload_n 1, 1) := by decide +kernel
theorem dX10_begin_158 : decode cX10_begin 158 = .ok (.iload_n 2, 1) := by decide +kernel
theorem dX10_begin_159 : decode cX10_begin 159 = .ok (.invokevirtual 178, 3) := by decide +kernel
theorem dX10_begin_162 : decode cX10_begin 162 = .ok (.invokevirtual 174, 3) := by decide +kernel
theorem dX10_begin_165 : decode cX10_begin 165 = .ok (.iconst (-1), 1) := by decide +kernel
theorem dX10_begin_166 : decode cX10_begin 166 = .ok (.ireturn, 1) := by decide +kernel
theorem dX10_begin_167 : decode cX10_begin 167 = .ok (.aload_n 0, 1) := by decide +kernel
theorem dX10_begin_168 : decode cX10_begin 168 = .ok (.getfield 64, 3) := by decide +kernel
theorem dX10_begin_171 : decode cX10_begin 171 = .ok (.aload_n 0, 1) := by decide +kernel
theorem dX10_begin_172 : decode cX10_begin 172 = .ok (.getfield 181, 3) := by decide +kernel
theorem dX10_begin_175 : decode cX10_begin 175 = .ok (.aload_n 0, 1) := by decide +kernel
theorem dX10_begin_176 : decode cX10_begin 176 = .ok (.getfield 159, 3) := by decide +kernel
theorem dX10_begin_179 : decode cX10_begin 179 = .ok (.iastore, 1) := by decide +kernel
theorem dX10_begin_180 : decode cX10_begin 180 = .ok (.aload_n 0, 1) := by decide +kernel
theorem dX10_begin_181 : decode cX10_begin 181 = .ok (.dup, 1) := by decide +kernel
theorem dX10_begin_182 : decode cX10_begin 182 = .ok (.getfield 181, 3) := by decide +kernel
theorem dX10_begin_185 : decode cX10_begin 185 = .ok (.iconst 1, 1) := by decide +kernel
theorem dX10_begin_186 : decode cX10_begin 186 = .ok (.iadd, 1) := by decide +kernel
theorem dX10_begin_187 : decode cX10_begin 187 = .ok (.putfield 181, 3) := by decide +kernel
theorem dX10_begin_190 : decode cX10_begin 190 = .ok (.aload_n 0, 1) := by decide +kernel
theorem dX10_begin_191 : decode cX10_begin 191 = .ok (.iconst 0, 1) := by decide +kernel
theorem dX10_begin_192 : decode cX10_begin 192 = .ok (.putfield 159, 3) := by decide +kernel
theorem dX10_begin_195 : decode cX10_begin 195 = .ok (.aload_n 0, 1) := by decide +kernel
theorem dX10_begin_196 : decode cX10_begin 196 = .ok (.getfield 13, 3) := by decide +kernel
theorem dX10_begin_199 : decode cX10_begin 199 = .ok (.iload_n 1, 1) := by decide +kernel
theorem dX10_begin_200 : decode cX10_begin 200 = .ok (.iaload, 1) := by decide +kernel
theorem dX10_begin_201 : decode cX10_begin 201 = .ok (.ireturn, 1) := by decide +kernel
theorem dX10_begin_202 : decode cX10_begin 202 = .ok (.aload_n 0, 1) := by decide +kernel
theorem dX10_begin_203 : decode cX10_begin 203 = .ok (.aload_n 0, 1) := by decide +kernel
theorem dX10_begin_204 : decode cX10_begin 204 = .ok (.iconst 3, 1) := by decide +kernel
theorem dX10_begin_205 : decode cX10_begin 205 = .ok (.aload_n 0, 1) := by decide +kernel
theorem dX10_begin_206 : decode cX10_begin 206 = .ok (.getfield 159, 3) := by decide +kernel
theorem dX10_begin_209 : decode cX10_begin 209 = .ok (.iload_n 2, 1) := by decide +kernel
theorem dX10_begin_210 : decode cX10_begin 210 = .ok (.invokevirtual 184, 3) := by decide +kernel
theorem dX10_begin_213 : decode cX10_begin 213 = .ok (.putfield 171, 3) := by decide +kernel
theorem dX10_begin_216 : decode cX10_begin 216 = .ok (.aload_n 0, 1) := by decide +kernel
theorem dX10_begin_217 : decode cX10_begin 217 = .ok (.iconst 0, 1) := by decide +kernel
theorem dX10_begin_218 : decode cX10_begin 218 = .ok (.putfield 159, 3) := by decide +kernel
theorem dX10_begin_221 : decode cX10_begin 221 = .ok (.aload_n 0, 1) := by decide +kernel
theorem dX10_begin_222 : decode cX10_begin 222 = .ok (.getfield 13, 3) := by decide +kernel
theorem dX10_begin_225 : decode cX10_begin 225 = .ok (.iload_n 1, 1) := by decide +kernel
theorem dX10_begin_226 : decode cX10_begin 226 = .ok (.iaload, 1) := by decide +kernel
theorem dX10_begin_227 : decode cX10_begin 227 = .ok (.ireturn, 1) := by decide +kernel
theorem dX10_begin_228 : decode cX10_begin 228 = .ok (.aload_n 0, 1) := by decide +kernel
theorem dX10_begin_229 : decode cX10_begin 229 = .ok (.iload_n 3, 1) := by decide +kernel
theorem dX10_begin_230 : decode cX10_begin 230 = .ok (.iload_n 1, 1) := by decide +kernel
theorem dX10_begin_231 : decode cX10_begin 231 = .ok (.iload_n 2, 1) := by decide +kernel
theorem dX10_begin_232 : decode cX10_begin 232 = .ok (.iconst (-1), 1) := by decide +kernel
theorem dX10_begin_233 : decode cX10_begin 233 = .ok (.iconst 0, 1) := by decide +kernel
theorem dX10_begin_234 : decode cX10_begin 234 = .ok (.invokevirtual 188, 3) := by decide +kernel
theorem dX10_begin_237 : decode cX10_begin 237 = .ok (.aload_n 0, 1) := by decide +kernel
theorem dX10_begin_238 : decode cX10_begin 238 = .ok (.getfield 13, 3) := by decide +kernel
theorem dX10_begin_241 : decode cX10_begin 241 = .ok (.iload_n 1, 1) := by decide +kernel
theorem dX10_begin_242 : decode cX10_begin 242 = .ok (.iaload, 1) := by decide +kernel
theorem dX10_begin_243 : decode cX10_begin 243 = .ok (.ireturn, 1) := by decide +kernel
theorem dX10_call_0 : decode cX10_call 0 = .ok (.iload_n 1, 1) := by decide +kernel
theorem dX10_call_1 : decode cX10_call 1 = .ok (.iconst 3, 1) := by decide +kernel
theorem dX10_call_2 : decode cX10_call 2 = .ok (.if_icmp .ne 33, 3) := by decide +kernel
theorem dX10_call_5 : decode cX10_call 5 = .ok (.aload_n 0, 1) := by decide +kernel
theorem dX10_call_6 : decode cX10_call 6 = .ok (.getfield 64, 3) := by decide +kernel
theorem dX10_call_9 : decode cX10_call 9 = .ok (.aload_n 0, 1) := by decide +kernel
theorem dX10_call_10 : decode cX10_call 10 = .ok (.getfield 181, 3) := by decide +kernel
theorem dX10_call_13 : decode cX10_call 13 = .ok (.aload_n 0, 1) := by decide +kernel
theorem dX10_call_14 : decode cX10_call 14 = .ok (.getfield 159, 3) := by decide +kernel
theorem dX10_call_17 : decode cX10_call 17 = .ok (.iastore, 1) := by decide +kernel
theorem dX10_call_18 : decode cX10_call 18 = .ok (.aload_n 0, 1) := by decide +kernel
theorem dX10_call_19 : decode cX10_call 19 = .ok (.dup, 1) := by decide +kernel
theorem dX10_call_20 : decode cX10_call 20 = .ok (.getfield 181, 3) := by decide +kernel
theorem dX10_call_23 : decode cX10_call 23 = .ok (.iconst 1, 1) := by decide +kernel
theorem dX10_call_24 : decode cX10_call 24 = .ok (.iadd, 1) := by decide +kernel
theorem dX10_call_25 : decode cX10_call 25 = .ok (.putfield 181, 3) := by decide +kernel
theorem dX10_call_28 : decode cX10_call 28 = .ok (.aload_n 0, 1) := by decide +kernel
theorem dX10_call_29 : decode cX10_call 29 = .ok (.iload_n 2, 1) := by decide +kernel
theorem dX10_call_30 : decode cX10_call 30 = .ok (.putfield 159, 3) := by decide +kernel
theorem dX10_call_33 : decode cX10_call 33 = .ok (.iconst (-1), 1) := by decide +kernel
theorem dX10_call_34 : decode cX10_call 34 = .ok (.ireturn, 1) := by decide +kernel
theorem dX10_call_35 : decode cX10_call 35 = .ok (.iload_n 1, 1) := by decide +kernel
theorem dX10_call_36 : decode cX10_call 36 = .ok (.iconst 2, 1) := by decide +kernel
theorem dX10_call_37 : decode cX10_call 37 = .ok (.if_icmp .eq 10, 3) := by decide +kernel
theorem dX10_call_40 : decode cX10_call 40 = .ok (.aload_n 0, 1) := by decide +kernel
theorem dX10_call_41 : decode cX10_call 41 = .ok (.iconst 1, 1) := by decide +kernel
theorem dX10_call_42 : decode cX10_call 42 = .ok (.putfield 192, 3) := by decide +kernel
theorem dX10_call_45 : decode cX10_call 45 = .ok (.iconst (-1), 1) := by decide +kernel
theorem dX10_call_46 : decode cX10_call 46 = .ok (.ireturn, 1) := by decide +kernel
theorem dX10_call_47 : decode cX10_call 47 = .ok (.aload_n 0, 1) := by decide +kernel
theorem dX10_call_48 : decode cX10_call 48 = .ok (.getfield 40, 3) := by decide +kernel
theorem dX10_call_51 : decode cX10_call 51 = .ok (.iload_n 2, 1) := by decide +kernel
theorem dX10_call_52 : decode cX10_call 52 = .ok (.iaload, 1) := by decide +kernel
theorem dX10_call_53 : decode cX10_call 53 = .ok (.istore_n 3, 1) := by decide +kernel
theorem dX10_call_54 : decode cX10_call 54 = .ok (.aload_n 0, 1) := by decide +kernel
theorem dX10_call_55 : decode cX10_call 55 = .ok (.getfield 7, 3) := by decide +kernel
theorem dX10_call_58 : decode cX10_call 58 = .ok (.iload_n 3, 1) := by decide +kernel
theorem dX10_call_59 : decode cX10_call 59 = .ok (.iaload, 1) := by decide +kernel
theorem dX10_call_60 : decode cX10_call 60 = .ok (.bipush 11, 2) := by decide +kernel
theorem dX10_call_62 : decode cX10_call 62 = .ok (.if_icmp .ne 18, 3) := by decide +kernel
theorem dX10_call_65 : decode cX10_call 65 = .ok (.aload_n 0, 1) := by decide +kernel
theorem dX10_call_66 : decode cX10_call 66 = .ok (.iconst 2, 1) := by decide +kernel
theorem dX10_call_67 : decode cX10_call 67 = .ok (.iload_n 2, 1) := by decide +kernel
theorem dX10_call_68 : decode cX10_call 68 = .ok (.aload_n 0, 1) := by decide +kernel
theorem dX10_call_69 : decode cX10_call 69 = .ok (.getfield 43, 3) := by decide +kernel
theorem dX10_call_72 : decode cX10_call 72 = .ok (.iload_n 2, 1) := by decide +kernel
theorem dX10_call_73 : decode cX10_call 73 = .ok (.iaload, 1) := by decide +kernel
theorem dX10_call_74 : decode cX10_call 74 = .ok (.invokevirtual 184, 3) := by decide +kernel
theorem dX10_call_77 : decode cX10_call 77 = .ok (.goto 9, 3) := by decide +kernel
theorem dX10_call_80 : decode cX10_call 80 = .ok (.aload_n 0, 1) := by decide +kernel
theorem dX10_call_81 : decode cX10_call 81 = .ok (.getfield 43, 3) := by decide +kernel
theorem dX10_call_84 : decode cX10_call 84 = .ok (.iload_n 2, 1) := by decide +kernel
theorem dX10_call_85 : decode cX10_call 85 = .ok (.iaload, 1) := by decide +kernel
theorem dX10_call_86 : decode cX10_call 86 = .ok (.istore 4, 2) := by decide +kernel
theorem dX10_call_88 : decode cX10_call 88 = .ok (.aload_n 0, 1) := by decide +kernel
theorem dX10_call_89 : decode cX10_call 89 = .ok (.aload_n 0, 1) := by decide +kernel
theorem dX10_call_90 : decode cX10_call 90 = .ok (.aload_n 0, 1) := by decide +kernel
theorem dX10_call_91 : decode cX10_call 91 = .ok (.getfield 162, 3) := by decide +kernel
theorem dX10_call_94 : decode cX10_call 94 = .ok (.aload_n 0, 1) := by decide +kernel
theorem dX10_call_95 : decode cX10_call 95 = .ok (.getfield 165, 3) := by decide +kernel
theorem dX10_call_98 : decode cX10_call 98 = .ok (.iload 4, 2) := by decide +kernel
theorem dX10_call_100 : decode cX10_call 100 = .ok (.invokevirtual 184, 3) := by decide +kernel
theorem dX10_call_103 : decode cX10_call 103 = .ok (.putfield 171, 3) := by decide +kernel
theorem dX10_call_106 : decode cX10_call 106 = .ok (.aload_n 0, 1) := by decide +kernel
theorem dX10_call_107 : decode cX10_call 107 = .ok (.getfield 13, 3) := by decide +kernel
theorem dX10_call_110 : decode cX10_call 110 = .ok (.iload_n 3, 1) := by decide +kernel
theorem dX10_call_111 : decode cX10_call 111 = .ok (.iaload, 1) := by decide +kernel
theorem dX10_call_112 : decode cX10_call 112 = .ok (.ireturn, 1) := by decide +kernel
theorem dX10_goOn_0 : decode cX10_goOn 0 = .ok (.aload_n 0, 1) := by decide +kernel
theorem dX10_goOn_1 : decode cX10_goOn 1 = .ok (.getfield 159, 3) := by decide +kernel
theorem dX10_goOn_4 : decode cX10_goOn 4 = .ok (.istore_n 1, 1) := by decide +kernel
theorem dX10_goOn_5 : decode cX10_goOn 5 = .ok (.aload_n 0, 1) := by decide +kernel
theorem dX10_goOn_6 : decode cX10_goOn 6 = .ok (.getfield 49, 3) := by decide +kernel
theorem dX10_goOn_9 : decode cX10_goOn 9 = .ok (.iload_n 1, 1) := by decide +kernel
theorem dX10_goOn_10 : decode cX10_goOn 10 = .ok (.iaload, 1) := by decide +kernel
theorem dX10_goOn_11 : decode cX10_goOn 11 = .ok (.istore_n 2, 1) := by decide +kernel
theorem dX10_goOn_12 : decode cX10_goOn 12 = .ok (.aload_n 0, 1) := by decide +kernel
theorem dX10_goOn_13 : decode cX10_goOn 13 = .ok (.getfield 46, 3) := by decide +kernel
theorem dX10_goOn_16 : decode cX10_goOn 16 = .ok (.iload_n 1, 1) := by decide +kernel
theorem dX10_goOn_17 : decode cX10_goOn 17 = .ok (.iaload, 1) := by decide +kernel
theorem dX10_goOn_18 : decode cX10_goOn 18 = .ok (.istore_n 3, 1) := by decide +kernel
theorem dX10_goOn_19 : decode cX10_goOn 19 = .ok (.aload_n 0, 1) := by decide +kernel
theorem dX10_goOn_20 : decode cX10_goOn 20 = .ok (.getfield 55, 3) := by decide +kernel
theorem dX10_goOn_23 : decode cX10_goOn 23 = .ok (.iload_n 1, 1) := by decide +kernel
theorem dX10_goOn_24 : decode cX10_goOn 24 = .ok (.iaload, 1) := by decide +kernel
theorem dX10_goOn_25 : decode cX10_goOn 25 = .ok (.iconst (-1), 1) := by decide +kernel
theorem dX10_goOn_26 : decode cX10_goOn 26 = .ok (.if_icmp .ne 7, 3) := by decide +kernel
theorem dX10_goOn_29 : decode cX10_goOn 29 = .ok (.iconst 1, 1) := by decide +kernel
theorem dX10_goOn_30 : decode cX10_goOn 30 = .ok (.goto 4, 3) := by decide +kernel
theorem dX10_goOn_33 : decode cX10_goOn 33 = .ok (.iconst 0, 1) := by decide +kernel
theorem dX10_goOn_34 : decode cX10_goOn 34 = .ok (.istore 4, 2) := by decide +kernel
theorem dX10_goOn_36 : decode cX10_goOn 36 = .ok (.aload_n 0, 1) := by decide +kernel
theorem dX10_goOn_37 : decode cX10_goOn 37 = .ok (.aload_n 0, 1) := by decide +kernel
theorem dX10_goOn_38 : decode cX10_goOn 38 = .ok (.getfield 61, 3) := by decide +kernel
theorem dX10_goOn_41 : decode cX10_goOn 41 = .ok (.iload_n 1, 1) := by decide +kernel
theorem dX10_goOn_42 : decode cX10_goOn 42 = .ok (.iaload, 1) := by decide +kernel
theorem dX10_goOn_43 : decode cX10_goOn 43 = .ok (.putfield 159, 3) := by decide +kernel
theorem dX10_goOn_46 : decode cX10_goOn 46 = .ok (.aload_n 0, 1) := by decide +kernel
theorem dX10_goOn_47 : decode cX10_goOn 47 = .ok (.aload_n 0, 1) := by decide +kernel
theorem dX10_goOn_48 : decode cX10_goOn 48 = .ok (.getfield 52, 3) := by decide +kernel
theorem dX10_goOn_51 : decode cX10_goOn 51 = .ok (.iload_n 1, 1) := by decide +kernel
theorem dX10_goOn_52 : decode cX10_goOn 52 = .ok (.iaload, 1) := by decide +kernel
theorem dX10_goOn_53 : decode cX10_goOn 53 = .ok (.putfield 171, 3) := by decide +kernel
theorem dX10_goOn_56 : decode cX10_goOn 56 = .ok (.iload_n 3, 1) := by decide +kernel
theorem dX10_goOn_57 : decode cX10_goOn 57 = .ok (.bipush 7, 2) := by decide +kernel
theorem dX10_goOn_59 : decode cX10_goOn 59 = .ok (.if_icmp .ne 44, 3) := by decide +kernel
theorem dX10_goOn_62 : decode cX10_goOn 62 = .ok (.aload_n 0, 1) := by decide +kernel
theorem dX10_goOn_63 : decode cX10_goOn 63 = .ok (.aload_n 0, 1) := by decide +kernel
theorem dX10_goOn_64 : decode cX10_goOn 64 = .ok (.getfield 162, 3) := by decide +kernel
theorem dX10_goOn_67 : decode cX10_goOn 67 = .ok (.iconst 1, 1) := by decide +kernel
theorem dX10_goOn_68 : decode cX10_goOn 68 = .ok (.if_icmp .eq 7, 3) := by decide +kernel
theorem dX10_goOn_71 : decode cX10_goOn 71 = .ok (.iconst 1, 1) := by decide +kernel
theorem dX10_goOn_72 : decode cX10_goOn 72 = .ok (.goto 4, 3) := by decide +kernel
theorem dX10_goOn_75 : decode cX10_goOn 75 = .ok (.iconst 0, 1) := by decide +kernel
theorem dX10_goOn_76 : decode cX10_goOn 76 = .ok (.putfield 192, 3) := by decide +kernel
theorem dX10_goOn_79 : decode cX10_goOn 79 = .ok (.aload_n 0, 1) := by decide +kernel
theorem dX10_goOn_80 : decode cX10_goOn 80 = .ok (.getfield 165, 3) := by decide +kernel
theorem dX10_goOn_83 : decode cX10_goOn 83 = .ok (.iconst 1, 1) := by decide +kernel
theorem dX10_goOn_84 : decode cX10_goOn 84 = .ok (.if_icmp .ne 12, 3) := by decide +kernel
theorem dX10_goOn_87 : decode cX10_goOn 87 = .ok (.aload_n 0, 1) := by decide +kernel
theorem dX10_goOn_88 : decode cX10_goOn 88 = .ok (.getfield 16, 3) := by decide +kernel
theorem dX10_goOn_91 : decode cX10_goOn 91 = .ok (.iload_n 2, 1) := by decide +kernel
theorem dX10_goOn_92 : decode cX10_goOn 92 = .ok (.iaload, 1) := by decide +kernel
theorem dX10_goOn_93 : decode cX10_goOn 93 = .ok (.goto 9, 3) := by decide +kernel
theorem dX10_goOn_96 : decode cX10_goOn 96 = .ok (.aload_n 0, 1) := by decide +kernel
theorem dX10_goOn_97 : decode cX10_goOn 97 = .ok (.getfield 19, 3) := by decide +kernel
theorem dX10_goOn_100 : decode cX10_goOn 100 = .ok (.iload_n 2, 1) := by decide +kernel
theorem dX10_goOn_101 : decode cX10_goOn 101 = .ok (.iaload, 1) := by decide +kernel
theorem dX10_goOn_102 : decode cX10_goOn 102 = .ok (.ireturn, 1) := by decide +kernel
theorem dX10_goOn_103 : decode cX10_goOn 103 = .ok (.iload_n 3, 1) := by decide +kernel
theorem dX10_goOn_104 : decode cX10_goOn 104 = .ok (.bipush 8, 2) := by decide +kernel
theorem dX10_goOn_106 : decode cX10_goOn 106 = .ok (.if_icmp .ne 32, 3) := by decide +kernel
theorem dX10_goOn_109 : decode cX10_goOn 109 = .ok (.aload_n 0, 1) := by decide +kernel
theorem dX10_goOn_110 : decode cX10_goOn 110 = .ok (.aload_n 0, 1) := by decide +kernel
theorem dX10_goOn_111 : decode cX10_goOn 111 = .ok (.aload_n 0, 1) := by decide +kernel
theorem dX10_goOn_112 : decode cX10_goOn 112 = .ok (.getfield 162, 3) := by decide +kernel
theorem dX10_goOn_115 : decode cX10_goOn 115 = .ok (.aload_n 0, 1) := by decide +kernel
theorem dX10_goOn_116 : decode cX10_goOn 116 = .ok (.getfield 165, 3) := by decide +kernel
theorem dX10_goOn_119 : decode cX10_goOn 119 = .ok (.aload_n 0, 1) := by decide +kernel
theorem dX10_goOn_120 : decode cX10_goOn 120 = .ok (.getfield 52, 3) := by decide +kernel
theorem dX10_goOn_123 : decode cX10_goOn 123 = .ok (.iload_n 1, 1) := by decide +kernel
theorem dX10_goOn_124 : decode cX10_goOn 124 = .ok (.iaload, 1) := by decide +kernel
theorem dX10_goOn_125 : decode cX10_goOn 125 = .ok (.invokevirtual 184, 3) := by decide +kernel
theorem dX10_goOn_128 : decode cX10_goOn 128 = .ok (.putfield 171, 3) := by decide +kernel
theorem dX10_goOn_131 : decode cX10_goOn 131 = .ok (.aload_n 0, 1) := by decide +kernel
theorem dX10_goOn_132 : decode cX10_goOn 132 = .ok (.getfield 16, 3) := by decide +kernel
theorem dX10_goOn_135 : decode cX10_goOn 135 = .ok (.iload_n 2, 1) := by decide +kernel
theorem dX10_goOn_136 : decode cX10_goOn 136 = .ok (.iaload, 1) := by decide +kernel
theorem dX10_goOn_137 : decode cX10_goOn 137 = .ok (.ireturn, 1) := by decide +kernel
theorem dX10_goOn_138 : decode cX10_goOn 138 = .ok (.iload 4, 2) := by decide +kernel
theorem dX10_goOn_140 : decode cX10_goOn 140 = .ok (.ifCond .eq 30, 3) := by decide +kernel
theorem dX10_goOn_143 : decode cX10_goOn 143 = .ok (.aload_n 0, 1) := by decide +kernel
theorem dX10_goOn_144 : decode cX10_goOn 144 = .ok (.iload_n 3, 1) := by decide +kernel
theorem dX10_goOn_145 : decode cX10_goOn 145 = .ok (.iload_n 2, 1) := by decide +kernel
theorem dX10_goOn_146 : decode cX10_goOn 146 = .ok (.aload_n 0, 1) := by decide +kernel
theorem dX10_goOn_147 : decode cX10_goOn 147 = .ok (.getfield 52, 3) := by decide +kernel
theorem dX10_goOn_150 : decode cX10_goOn 150 = .ok (.iload_n 1, 1) := by decide +kernel
theorem dX10_goOn_151 : decode cX10_goOn 151 = .ok (.iaload, 1) := by decide +kernel
theorem dX10_goOn_152 : decode cX10_goOn 152 = .ok (.aload_n 0, 1) := by decide +kernel
theorem dX10_goOn_153 : decode cX10_goOn 153 = .ok (.getfield 162, 3) := by decide +kernel
theorem dX10_goOn_156 : decode cX10_goOn 156 = .ok (.aload_n 0, 1) := by decide +kernel
theorem dX10_goOn_157 : decode cX10_goOn 157 = .ok (.getfield 165, 3) := by decide +kernel
theorem dX10_goOn_160 : decode cX10_goOn 160 = .ok (.invokevirtual 188, 3) := by decide +kernel
theorem dX10_goOn_163 : decode cX10_goOn 163 = .ok (.aload_n 0, 1) := by decide +kernel
theorem dX10_goOn_164 : decode cX10_goOn 164 = .ok (.getfield 16, 3) := by decide +kernel
theorem dX10_goOn_167 : decode cX10_goOn 167 = .ok (.iload_n 2, 1) := by decide +kernel
theorem dX10_goOn_168 : decode cX10_goOn 168 = .ok (.iaload, 1) := by decide +kernel
theorem dX10_goOn_169 : decode cX10_goOn 169 = .ok (.ireturn, 1) := by decide +kernel
theorem dX10_goOn_170 : decode cX10_goOn 170 = .ok (.iload_n 3, 1) := by decide +kernel
theorem dX10_goOn_171 : decode cX10_goOn 171 = .ok (.iconst 4, 1) := by decide +kernel
theorem dX10_goOn_172 : decode cX10_goOn 172 = .ok (.if_icmp .ne 20, 3) := by decide +kernel
theorem dX10_goOn_175 : decode cX10_goOn 175 = .ok (.aload_n 0, 1) := by decide +kernel
theorem dX10_goOn_176 : decode cX10_goOn 176 = .ok (.aload_n 0, 1) := by decide +kernel
theorem dX10_goOn_177 : decode cX10_goOn 177 = .ok (.getfield 55, 3) := by decide +kernel
theorem dX10_goOn_180 : decode cX10_goOn 180 = .ok (.iload_n 1, 1) := by decide +kernel
theorem dX10_goOn_181 : decode cX10_goOn 181 = .ok (.iaload, 1) := by decide +kernel
theorem dX10_goOn_182 : decode cX10_goOn 182 = .ok (.aload_n 0, 1) := by decide +kernel
theorem dX10_goOn_183 : decode cX10_goOn 183 = .ok (.getfield 58, 3) := by decide +kernel
theorem dX10_goOn_186 : decode cX10_goOn 186 = .ok (.iload_n 1, 1) := by decide +kernel
theorem dX10_goOn_187 : decode cX10_goOn 187 = .ok (.iaload, 1) := by decide +kernel
theorem dX10_goOn_188 : decode cX10_goOn 188 = .ok (.invokevirtual 196, 3) := by decide +kernel
theorem dX10_goOn_191 : decode cX10_goOn 191 = .ok (.ireturn, 1) := by decide +kernel
theorem dX10_goOn_192 : decode cX10_goOn 192 = .ok (.aload_n 0, 1) := by decide +kernel
theorem dX10_goOn_193 : decode cX10_goOn 193 = .ok (.aload_n 0, 1) := by decide +kernel
theorem dX10_goOn_194 : decode cX10_goOn 194 = .ok (.getfield 55, 3) := by decide +kernel
theorem dX10_goOn_197 : decode cX10_goOn 197 = .ok (.iload_n 1, 1) := by decide +kernel
theorem dX10_goOn_198 : decode cX10_goOn 198 = .ok (.iaload, 1) := by decide +kernel
theorem dX10_goOn_199 : decode cX10_goOn 199 = .ok (.ifCond .ne 10, 3) := by decide +kernel
theorem dX10_goOn_202 : decode cX10_goOn 202 = .ok (.aload_n 0, 1) := by decide +kernel
theorem dX10_goOn_203 : decode cX10_goOn 203 = .ok (.getfield 162, 3) := by decide +kernel
theorem dX10_goOn_206 : decode cX10_goOn 206 = .ok (.ifCond .eq 7, 3) := by decide +kernel
theorem dX10_goOn_209 : decode cX10_goOn 209 = .ok (.iconst 1, 1) := by decide +kernel
theorem dX10_goOn_210 : decode cX10_goOn 210 = .ok (.goto 4, 3) := by decide +kernel
theorem dX10_goOn_213 : decode cX10_goOn 213 = .ok (.iconst 0, 1) := by decide +kernel
theorem dX10_goOn_214 : decode cX10_goOn 214 = .ok (.putfield 192, 3) := by decide +kernel
theorem dX10_goOn_217 : decode cX10_goOn 217 = .ok (.iload_n 3, 1) := by decide +kernel
theorem dX10_goOn_218 : decode cX10_goOn 218 = .ok (.iconst 5, 1) := by decide +kernel
theorem dX10_goOn_219 : decode cX10_goOn 219 = .ok (.if_icmp .ne 22, 3) := by decide +kernel
theorem dX10_goOn_222 : decode cX10_goOn 222 = .ok (.aload_n 0, 1) := by decide +kernel
theorem dX10_goOn_223 : decode cX10_goOn 223 = .ok (.iconst 0, 1) := by decide +kernel
theorem dX10_goOn_224 : decode cX10_goOn 224 = .ok (.aload_n 0, 1) := by decide +kernel
theorem dX10_goOn_225 : decode cX10_goOn 225 = .ok (.getfield 58, 3) := by decide +kernel
theorem dX10_goOn_228 : decode cX10_goOn 228 = .ok (.iload_n 1, 1) := by decide +kernel
theorem dX10_goOn_229 : decode cX10_goOn 229 = .ok (.iaload, 1) := by decide +kernel
theorem dX10_goOn_230 : decode cX10_goOn 230 = .ok (.aload_n 0, 1) := by decide +kernel
theorem dX10_goOn_231 : decode cX10_goOn 231 = .ok (.getfield 165, 3) := by decide +kernel
theorem dX10_goOn_234 : decode cX10_goOn 234 = .ok (.iadd, 1) := by decide +kernel
theorem dX10_goOn_235 : decode cX10_goOn 235 = .ok (.invokevirtual 174, 3) := by decide +kernel
theorem dX10_goOn_238 : decode cX10_goOn 238 = .ok (.goto 26, 3) := by decide +kernel
theorem dX10_goOn_241 : decode cX10_goOn 241 = .ok (.aload_n 0, 1) := by decide +kernel
theorem dX10_goOn_242 : decode cX10_goOn 242 = .ok (.iconst 1, 1) := by decide +kernel
theorem dX10_goOn_243 : decode cX10_goOn 243 = .ok (.aload_n 0, 1) := by decide +kernel
theorem dX10_goOn_244 : decode cX10_goOn 244 = .ok (.getfield 58, 3) := by decide +kernel
theorem dX10_goOn_247 : decode cX10_goOn 247 = .ok (.iload_n 1, 1) := by decide +kernel
theorem dX10_goOn_248 : decode cX10_goOn 248 = .ok (.iaload, 1) := by decide +kernel
theorem dX10_goOn_249 : decode cX10_goOn 249 = .ok (.aload_n 0, 1) := by decide +kernel
theorem dX10_goOn_250 : decode cX10_goOn 250 = .ok (.getfield 165, 3) := by decide +kernel
theorem dX10_goOn_253 : decode cX10_goOn 253 = .ok (.if_icmp .ge 7, 3) := by decide +kernel
theorem dX10_goOn_256 : decode cX10_goOn 256 = .ok (.iconst 1, 1) := by decide +kernel
theorem dX10_goOn_257 : decode cX10_goOn 257 = .ok (.goto 4, 3) := by decide +kernel
theorem dX10_goOn_260 : decode cX10_goOn 260 = .ok (.iconst 0, 1) := by decide +kernel
theorem dX10_goOn_261 : decode cX10_goOn 261 = .ok (.invokevirtual 174, 3) := by decide +kernel
theorem dX10_goOn_264 : decode cX10_goOn 264 = .ok (.iconst (-1), 1) := by decide +kernel
theorem dX10_goOn_265 : decode cX10_goOn 265 = .ok (.ireturn, 1) := by decide +kernel
theorem dX10_run_0 : decode cX10_run 0 = .ok (.aload_n 0, 1) := by decide +kernel
theorem dX10_run_1 : decode cX10_run 1 = .ok (.iconst 0, 1) := by decide +kernel
theorem dX10_run_2 : decode cX10_run 2 = .ok (.putfield 153, 3) := by decide +kernel
theorem dX10_run_5 : decode cX10_run 5 = .ok (.aload_n 0, 1) := by decide +kernel
theorem dX10_run_6 : decode cX10_run 6 = .ok (.iconst 0, 1) := by decide +kernel
theorem dX10_run_7 : decode cX10_run 7 = .ok (.putfield 168, 3) := by decide +kernel
theorem dX10_run_10 : decode cX10_run 10 = .ok (.aload_n 0, 1) := by decide +kernel
theorem dX10_run_11 : decode cX10_run 11 = .ok (.iconst 0, 1) := by decide +kernel
theorem dX10_run_12 : decode cX10_run 12 = .ok (.putfield 156, 3) := by decide +kernel
theorem dX10_run_15 : decode cX10_run 15 = .ok (.aload_n 0, 1) := by decide +kernel
theorem dX10_run_16 : decode cX10_run 16 = .ok (.iconst 0, 1) := by decide +kernel
theorem dX10_run_17 : decode cX10_run 17 = .ok (.putfield 181, 3) := by decide +kernel
theorem dX10_run_20 : decode cX10_run 20 = .ok (.aload_n 0, 1) := by decide +kernel
theorem dX10_run_21 : decode cX10_run 21 = .ok (.iconst 0, 1) := by decide +kernel
theorem dX10_run_22 : decode cX10_run 22 = .ok (.putfield 159, 3) := by decide +kernel
theorem dX10_run_25 : decode cX10_run 25 = .ok (.aload_n 0, 1) := by decide +kernel
theorem dX10_run_26 : decode cX10_run 26 = .ok (.iconst 0, 1) := by decide +kernel
theorem dX10_run_27 : decode cX10_run 27 = .ok (.putfield 192, 3) := by decide +kernel
theorem dX10_run_30 : decode cX10_run 30 = .ok (.aload_n 0, 1) := by decide +kernel
theorem dX10_run_31 : decode cX10_run 31 = .ok (.iconst 0, 1) := by decide +kernel
theorem dX10_run_32 : decode cX10_run 32 = .ok (.putfield 171, 3) := by decide +kernel
theorem dX10_run_35 : decode cX10_run 35 = .ok (.iconst 0, 1) := by decide +kernel
theorem dX10_run_36 : decode cX10_run 36 = .ok (.istore_n 3, 1) := by decide +kernel
theorem dX10_run_37 : decode cX10_run 37 = .ok (.iload_n 1, 1) := by decide +kernel
theorem dX10_run_38 : decode cX10_run 38 = .ok (.istore 4, 2) := by decide +kernel
theorem dX10_run_40 : decode cX10_run 40 = .ok (.iconst 1, 1) := by decide +kernel
theorem dX10_run_41 : decode cX10_run 41 = .ok (.istore 5, 2) := by decide +kernel
theorem dX10_run_43 : decode cX10_run 43 = .ok (.iload 5, 2) := by decide +kernel
theorem dX10_run_45 : decode cX10_run 45 = .ok (.ifCond .eq 106, 3) := by decide +kernel
theorem dX10_run_48 : decode cX10_run 48 = .ok (.iload 4, 2) := by decide +kernel
theorem dX10_run_50 : decode cX10_run 50 = .ok (.ifCond .lt 29, 3) := by decide +kernel
theorem dX10_run_53 : decode cX10_run 53 = .ok (.iload_n 3, 1) := by decide +kernel
theorem dX10_run_54 : decode cX10_run 54 = .ok (.iload_n 2, 1) := by decide +kernel
theorem dX10_run_55 : decode cX10_run 55 = .ok (.if_icmp .ne 6, 3) := by decide +kernel
theorem dX10_run_58 : decode cX10_run 58 = .ok (.bipush (-2), 2) := by decide +kernel
theorem dX10_run_60 : decode cX10_run 60 = .ok (.ireturn, 1) := by decide +kernel
theorem dX10_run_61 : decode cX10_run 61 = .ok (.iinc 3 1, 3) := by decide +kernel
theorem dX10_run_64 : decode cX10_run 64 = .ok (.aload_n 0, 1) := by decide +kernel
theorem dX10_run_65 : decode cX10_run 65 = .ok (.iload 4, 2) := by decide +kernel
theorem dX10_run_67 : decode cX10_run 67 = .ok (.aload_n 0, 1) := by decide +kernel
theorem dX10_run_68 : decode cX10_run 68 = .ok (.getfield 171, 3) := by decide +kernel
theorem dX10_run_71 : decode cX10_run 71 = .ok (.invokevirtual 199, 3) := by decide +kernel
theorem dX10_run_74 : decode cX10_run 74 = .ok (.istore 4, 2) := by decide +kernel
theorem dX10_run_76 : decode cX10_run 76 = .ok (.goto (-33), 3) := by decide +kernel
theorem dX10_run_79 : decode cX10_run 79 = .ok (.aload_n 0, 1) := by decide +kernel
theorem dX10_run_80 : decode cX10_run 80 = .ok (.getfield 159, 3) := by decide +kernel
theorem dX10_run_83 : decode cX10_run 83 = .ok (.ifCond .le 29, 3) := by decide +kernel
theorem dX10_run_86 : decode cX10_run 86 = .ok (.iload_n 3, 1) := by decide +kernel
theorem dX10_run_87 : decode cX10_run 87 = .ok (.iload_n 2, 1) := by decide +kernel
theorem dX10_run_88 : decode cX10_run 88 = .ok (.if_icmp .ne 6, 3) := by decide +kernel
theorem dX10_run_91 : decode cX10_run 91 = .ok (.bipush (-2), 2) := by decide +kernel
theorem dX10_run_93 : decode cX10_run 93 = .ok (.ireturn, 1) := by decide +kernel
theorem dX10_run_94 : decode cX10_run 94 = .ok (.iinc 3 1, 3) := by decide +kernel
theorem dX10_run_97 : decode cX10_run 97 = .ok (.aload_n 0, 1) := by decide +kernel
theorem dX10_run_98 : decode cX10_run 98 = .ok (.invokevirtual 202, 3) := by decide +kernel
theorem dX10_run_101 : decode cX10_run 101 = .ok (.istore 4, 2) := by decide +kernel
theorem dX10_run_103 : decode cX10_run 103 = .ok (.aload_n 0, 1) := by decide +kernel
theorem dX10_run_104 : decode cX10_run 104 = .ok (.getfield 192, 3) := by decide +kernel
theorem dX10_run_107 : decode cX10_run 107 = .ok (.ifCond .eq (-64), 3) := by decide +kernel
theorem dX10_run_110 : decode cX10_run 110 = .ok (.iconst (-1), 1) := by decide +kernel
theorem dX10_run_111 : decode cX10_run 111 = .ok (.ireturn, 1) := by decide +kernel
theorem dX10_run_112 : decode cX10_run 112 = .ok (.aload_n 0, 1) := by decide +kernel
theorem dX10_run_113 : decode cX10_run 113 = .ok (.getfield 181, 3) := by decide +kernel
theorem dX10_run_116 : decode cX10_run 116 = .ok (.ifCond .le 29, 3) := by decide +kernel
theorem dX10_run_119 : decode cX10_run 119 = .ok (.aload_n 0, 1) := by decide +kernel
theorem dX10_run_120 : decode cX10_run 120 = .ok (.dup, 1) := by decide +kernel
theorem dX10_run_121 : decode cX10_run 121 = .ok (.getfield 181, 3) := by decide +kernel
theorem dX10_run_124 : decode cX10_run 124 = .ok (.iconst 1, 1) := by decide +kernel
theorem dX10_run_125 : decode cX10_run 125 = .ok (.isub, 1) := by decide +kernel
theorem dX10_run_126 : decode cX10_run 126 = .ok (.putfield 181, 3) := by decide +kernel
theorem dX10_run_129 : decode cX10_run 129 = .ok (.aload_n 0, 1) := by decide +kernel
theorem dX10_run_130 : decode cX10_run 130 = .ok (.aload_n 0, 1) := by decide +kernel
theorem dX10_run_131 : decode cX10_run 131 = .ok (.getfield 64, 3) := by decide +kernel
theorem dX10_run_134 : decode cX10_run 134 = .ok (.aload_n 0, 1) := by decide +kernel
theorem dX10_run_135 : decode cX10_run 135 = .ok (.getfield 181, 3) := by decide +kernel
theorem dX10_run_138 : decode cX10_run 138 = .ok (.iaload, 1) := by decide +kernel
theorem dX10_run_139 : decode cX10_run 139 = .ok (.putfield 159, 3) := by decide +kernel
theorem dX10_run_142 : decode cX10_run 142 = .ok (.goto (-99), 3) := by decide +kernel
theorem dX10_run_145 : decode cX10_run 145 = .ok (.iconst 0, 1) := by decide +kernel
theorem dX10_run_146 : decode cX10_run 146 = .ok (.istore 5, 2) := by decide +kernel
theorem dX10_run_148 : decode cX10_run 148 = .ok (.goto (-105), 3) := by decide +kernel
theorem dX10_run_151 : decode cX10_run 151 = .ok (.iload_n 3, 1) := by decide +kernel
theorem dX10_run_152 : decode cX10_run 152 = .ok (.ireturn, 1) := by decide +kernel
theorem dX10_work_0 : decode cX10_work 0 = .ok (.aload_n 0, 1) := by decide +kernel
theorem dX10_work_1 : decode cX10_work 1 = .ok (.iconst 0, 1) := by decide +kernel
theorem dX10_work_2 : decode cX10_work 2 = .ok (.putfield 117, 3) := by decide +kernel
theorem dX10_work_5 : decode cX10_work 5 = .ok (.aload_n 0, 1) := by decide +kernel
theorem dX10_work_6 : decode cX10_work 6 = .ok (.iload_n 1, 1) := by decide +kernel
theorem dX10_work_7 : decode cX10_work 7 = .ok (.invokevirtual 127, 3) := by decide +kernel
theorem dX10_work_10 : decode cX10_work 10 = .ok (.ifCond .eq 12, 3) := by decide +kernel
theorem dX10_work_13 : decode cX10_work 13 = .ok (.aload_n 0, 1) := by decide +kernel
theorem dX10_work_14 : decode cX10_work 14 = .ok (.getfield 28, 3) := by decide +kernel
theorem dX10_work_17 : decode cX10_work 17 = .ok (.iload_n 1, 1) := by decide +kernel
theorem dX10_work_18 : decode cX10_work 18 = .ok (.iaload, 1) := by decide +kernel
theorem dX10_work_19 : decode cX10_work 19 = .ok (.ifCond .le 9, 3) := by decide +kernel
theorem dX10_work_22 : decode cX10_work 22 = .ok (.aload_n 0, 1) := by decide +kernel
theorem dX10_work_23 : decode cX10_work 23 = .ok (.iconst 1, 1) := by decide +kernel
theorem dX10_work_24 : decode cX10_work 24 = .ok (.invokevirtual 138, 3) := by decide +kernel
theorem dX10_work_27 : decode cX10_work 27 = .ok (.ireturn, 1) := by decide +kernel
theorem dX10_work_28 : decode cX10_work 28 = .ok (.iload_n 2, 1) := by decide +kernel
theorem dX10_work_29 : decode cX10_work 29 = .ok (.iconst 1, 1) := by decide +kernel
theorem dX10_work_30 : decode cX10_work 30 = .ok (.sipush 200, 3) := by decide +kernel
theorem dX10_work_33 : decode cX10_work 33 = .ok (.invokestatic 123, 3) := by decide +kernel
theorem dX10_work_36 : decode cX10_work 36 = .ok (.ifCond .ne 9, 3) := by decide +kernel
theorem dX10_work_39 : decode cX10_work 39 = .ok (.aload_n 0, 1) := by decide +kernel
theorem dX10_work_40 : decode cX10_work 40 = .ok (.iconst 2, 1) := by decide +kernel
theorem dX10_work_41 : decode cX10_work 41 = .ok (.invokevirtual 138, 3) := by decide +kernel
theorem dX10_work_44 : decode cX10_work 44 = .ok (.ireturn, 1) := by decide +kernel
theorem dX10_work_45 : decode cX10_work 45 = .ok (.aload_n 0, 1) := by decide +kernel
theorem dX10_work_46 : decode cX10_work 46 = .ok (.iload_n 1, 1) := by decide +kernel
theorem dX10_work_47 : decode cX10_work 47 = .ok (.iload_n 2, 1) := by decide +kernel
theorem dX10_work_48 : decode cX10_work 48 = .ok (.invokevirtual 206, 3) := by decide +kernel
theorem dX10_work_51 : decode cX10_work 51 = .ok (.istore_n 3, 1) := by decide +kernel
theorem dX10_work_52 : decode cX10_work 52 = .ok (.iload_n 3, 1) := by decide +kernel
theorem dX10_work_53 : decode cX10_work 53 = .ok (.iconst (-1), 1) := by decide +kernel
theorem dX10_work_54 : decode cX10_work 54 = .ok (.if_icmp .ne 19, 3) := by decide +kernel
theorem dX10_work_57 : decode cX10_work 57 = .ok (.aload_n 0, 1) := by decide +kernel
theorem dX10_work_58 : decode cX10_work 58 = .ok (.dup, 1) := by decide +kernel
theorem dX10_work_59 : decode cX10_work 59 = .ok (.getfield 209, 3) := by decide +kernel
theorem dX10_work_62 : decode cX10_work 62 = .ok (.iconst 1, 1) := by decide +kernel
theorem dX10_work_63 : decode cX10_work 63 = .ok (.iadd, 1) := by decide +kernel
theorem dX10_work_64 : decode cX10_work 64 = .ok (.putfield 209, 3) := by decide +kernel
theorem dX10_work_67 : decode cX10_work 67 = .ok (.aload_n 0, 1) := by decide +kernel
theorem dX10_work_68 : decode cX10_work 68 = .ok (.iconst 3, 1) := by decide +kernel
theorem dX10_work_69 : decode cX10_work 69 = .ok (.invokevirtual 138, 3) := by decide +kernel
theorem dX10_work_72 : decode cX10_work 72 = .ok (.ireturn, 1) := by decide +kernel
theorem dX10_work_73 : decode cX10_work 73 = .ok (.iload_n 3, 1) := by decide +kernel
theorem dX10_work_74 : decode cX10_work 74 = .ok (.bipush (-2), 2) := by decide +kernel
theorem dX10_work_76 : decode cX10_work 76 = .ok (.if_icmp .ne 19, 3) := by decide +kernel
theorem dX10_work_79 : decode cX10_work 79 = .ok (.aload_n 0, 1) := by decide +kernel
theorem dX10_work_80 : decode cX10_work 80 = .ok (.dup, 1) := by decide +kernel
theorem dX10_work_81 : decode cX10_work 81 = .ok (.getfield 212, 3) := by decide +kernel
theorem dX10_work_84 : decode cX10_work 84 = .ok (.iconst 1, 1) := by decide +kernel
theorem dX10_work_85 : decode cX10_work 85 = .ok (.iadd, 1) := by decide +kernel
theorem dX10_work_86 : decode cX10_work 86 = .ok (.putfield 212, 3) := by decide +kernel
theorem dX10_work_89 : decode cX10_work 89 = .ok (.aload_n 0, 1) := by decide +kernel
theorem dX10_work_90 : decode cX10_work 90 = .ok (.iconst 4, 1) := by decide +kernel
theorem dX10_work_91 : decode cX10_work 91 = .ok (.invokevirtual 138, 3) := by decide +kernel
theorem dX10_work_94 : decode cX10_work 94 = .ok (.ireturn, 1) := by decide +kernel
theorem dX10_work_95 : decode cX10_work 95 = .ok (.aload_n 0, 1) := by decide +kernel
theorem dX10_work_96 : decode cX10_work 96 = .ok (.aload_n 0, 1) := by decide +kernel
theorem dX10_work_97 : decode cX10_work 97 = .ok (.getfield 162, 3) := by decide +kernel
theorem dX10_work_100 : decode cX10_work 100 = .ok (.iconst 2, 1) := by decide +kernel
theorem dX10_work_101 : decode cX10_work 101 = .ok (.if_icmp .le 7, 3) := by decide +kernel
theorem dX10_work_104 : decode cX10_work 104 = .ok (.iconst 2, 1) := by decide +kernel
theorem dX10_work_105 : decode cX10_work 105 = .ok (.goto 7, 3) := by decide +kernel
theorem dX10_work_108 : decode cX10_work 108 = .ok (.aload_n 0, 1) := by decide +kernel
theorem dX10_work_109 : decode cX10_work 109 = .ok (.getfield 162, 3) := by decide +kernel
theorem dX10_work_112 : decode cX10_work 112 = .ok (.putfield 215, 3) := by decide +kernel
theorem dX10_work_115 : decode cX10_work 115 = .ok (.aload_n 0, 1) := by decide +kernel
theorem dX10_work_116 : decode cX10_work 116 = .ok (.aload_n 0, 1) := by decide +kernel
theorem dX10_work_117 : decode cX10_work 117 = .ok (.getfield 165, 3) := by decide +kernel
theorem dX10_work_120 : decode cX10_work 120 = .ok (.putfield 218, 3) := by decide +kernel
theorem dX10_work_123 : decode cX10_work 123 = .ok (.aload_n 0, 1) := by decide +kernel
theorem dX10_work_124 : decode cX10_work 124 = .ok (.iload_n 3, 1) := by decide +kernel
theorem dX10_work_125 : decode cX10_work 125 = .ok (.putfield 221, 3) := by decide +kernel
theorem dX10_work_128 : decode cX10_work 128 = .ok (.aload_n 0, 1) := by decide +kernel
theorem dX10_work_129 : decode cX10_work 129 = .ok (.dup, 1) := by decide +kernel
theorem dX10_work_130 : decode cX10_work 130 = .ok (.getfield 224, 3) := by decide +kernel
theorem dX10_work_133 : decode cX10_work 133 = .ok (.iconst 1, 1) := by decide +kernel
theorem dX10_work_134 : decode cX10_work 134 = .ok (.iadd, 1) := by decide +kernel
theorem dX10_work_135 : decode cX10_work 135 = .ok (.putfield 224, 3) := by decide +kernel
theorem dX10_work_138 : decode cX10_work 138 = .ok (.aload_n 0, 1) := by decide +kernel
theorem dX10_work_139 : decode cX10_work 139 = .ok (.dup, 1) := by decide +kernel
theorem dX10_work_140 : decode cX10_work 140 = .ok (.getfield 227, 3) := by decide +kernel
theorem dX10_work_143 : decode cX10_work 143 = .ok (.iload_n 3, 1) := by decide +kernel
theorem dX10_work_144 : decode cX10_work 144 = .ok (.iadd, 1) := by decide +kernel
theorem dX10_work_145 : decode cX10_work 145 = .ok (.putfield 227, 3) := by decide +kernel
theorem dX10_work_148 : decode cX10_work 148 = .ok (.aload_n 0, 1) := by decide +kernel
theorem dX10_work_149 : decode cX10_work 149 = .ok (.getfield 215, 3) := by decide +kernel
theorem dX10_work_152 : decode cX10_work 152 = .ok (.ireturn, 1) := by decide +kernel
theorem dX10_value_0 : decode cX10_value 0 = .ok (.aload_n 0, 1) := by decide +kernel
theorem dX10_value_1 : decode cX10_value 1 = .ok (.iconst 0, 1) := by decide +kernel
theorem dX10_value_2 : decode cX10_value 2 = .ok (.putfield 117, 3) := by decide +kernel
theorem dX10_value_5 : decode cX10_value 5 = .ok (.aload_n 0, 1) := by decide +kernel
theorem dX10_value_6 : decode cX10_value 6 = .ok (.getfield 224, 3) := by decide +kernel
theorem dX10_value_9 : decode cX10_value 9 = .ok (.ifCond .le 18, 3) := by decide +kernel
theorem dX10_value_12 : decode cX10_value 12 = .ok (.aload_n 0, 1) := by decide +kernel
theorem dX10_value_13 : decode cX10_value 13 = .ok (.getfield 215, 3) := by decide +kernel
theorem dX10_value_16 : decode cX10_value 16 = .ok (.iconst 2, 1) := by decide +kernel
theorem dX10_value_17 : decode cX10_value 17 = .ok (.if_icmp .ge 10, 3) := by decide +kernel
theorem dX10_value_20 : decode cX10_value 20 = .ok (.aload_n 0, 1) := by decide +kernel
theorem dX10_value_21 : decode cX10_value 21 = .ok (.getfield 218, 3) := by decide +kernel
theorem dX10_value_24 : decode cX10_value 24 = .ok (.goto 4, 3) := by decide +kernel
theorem dX10_value_27 : decode cX10_value 27 = .ok (.iconst 0, 1) := by decide +kernel
theorem dX10_value_28 : decode cX10_value 28 = .ok (.ireturn, 1) := by decide +kernel
theorem dX10_steps_0 : decode cX10_steps 0 = .ok (.aload_n 0, 1) := by decide +kernel
theorem dX10_steps_1 : decode cX10_steps 1 = .ok (.iconst 0, 1) := by decide +kernel
theorem dX10_steps_2 : decode cX10_steps 2 = .ok (.putfield 117, 3) := by decide +kernel
theorem dX10_steps_5 : decode cX10_steps 5 = .ok (.aload_n 0, 1) := by decide +kernel
theorem dX10_steps_6 : decode cX10_steps 6 = .ok (.getfield 221, 3) := by decide +kernel
theorem dX10_steps_9 : decode cX10_steps 9 = .ok (.ireturn, 1) := by decide +kernel
theorem dX10_cell_0 : decode cX10_cell 0 = .ok (.sipush 640, 3) := by decide +kernel
theorem dX10_cell_3 : decode cX10_cell 3 = .ok (.iconst 1, 1) := by decide +kernel
theorem dX10_cell_4 : decode cX10_cell 4 = .ok (.aload_n 0, 1) := by decide +kernel
theorem dX10_cell_5 : decode cX10_cell 5 = .ok (.getfield 230, 3) := by decide +kernel
theorem dX10_cell_8 : decode cX10_cell 8 = .ok (.isub, 1) := by decide +kernel
theorem dX10_cell_9 : decode cX10_cell 9 = .ok (.imul, 1) := by decide +kernel
theorem dX10_cell_10 : decode cX10_cell 10 = .ok (.aload_n 0, 1) := by decide +kernel
theorem dX10_cell_11 : decode cX10_cell 11 = .ok (.getfield 233, 3) := by decide +kernel
theorem dX10_cell_14 : decode cX10_cell 14 = .ok (.iadd, 1) := by decide +kernel
theorem dX10_cell_15 : decode cX10_cell 15 = .ok (.istore_n 2, 1) := by decide +kernel
theorem dX10_cell_16 : decode cX10_cell 16 = .ok (.aload_n 0, 1) := by decide +kernel
theorem dX10_cell_17 : decode cX10_cell 17 = .ok (.getfield 67, 3) := by decide +kernel
theorem dX10_cell_20 : decode cX10_cell 20 = .ok (.iload_n 2, 1) := by decide +kernel
theorem dX10_cell_21 : decode cX10_cell 21 = .ok (.iload_n 1, 1) := by decide +kernel
theorem dX10_cell_22 : decode cX10_cell 22 = .ok (.iastore, 1) := by decide +kernel
theorem dX10_cell_23 : decode cX10_cell 23 = .ok (.aload_n 0, 1) := by decide +kernel
theorem dX10_cell_24 : decode cX10_cell 24 = .ok (.getfield 70, 3) := by decide +kernel
theorem dX10_cell_27 : decode cX10_cell 27 = .ok (.iload_n 2, 1) := by decide +kernel
theorem dX10_cell_28 : decode cX10_cell 28 = .ok (.iconst (-1), 1) := by decide +kernel
theorem dX10_cell_29 : decode cX10_cell 29 = .ok (.iastore, 1) := by decide +kernel
theorem dX10_cell_30 : decode cX10_cell 30 = .ok (.aload_n 0, 1) := by decide +kernel
theorem dX10_cell_31 : decode cX10_cell 31 = .ok (.dup, 1) := by decide +kernel
theorem dX10_cell_32 : decode cX10_cell 32 = .ok (.getfield 233, 3) := by decide +kernel
theorem dX10_cell_35 : decode cX10_cell 35 = .ok (.iconst 1, 1) := by decide +kernel
theorem dX10_cell_36 : decode cX10_cell 36 = .ok (.iadd, 1) := by decide +kernel
theorem dX10_cell_37 : decode cX10_cell 37 = .ok (.putfield 233, 3) := by decide +kernel
theorem dX10_cell_40 : decode cX10_cell 40 = .ok (.iload_n 2, 1) := by decide +kernel
theorem dX10_cell_41 : decode cX10_cell 41 = .ok (.ireturn, 1) := by decide +kernel
theorem dX10_letterCell_0 : decode cX10_letterCell 0 = .ok (.aload_n 0, 1) := by decide +kernel
theorem dX10_letterCell_1 : decode cX10_letterCell 1 = .ok (.iconst 3, 1) := by decide +kernel
theorem dX10_letterCell_2 : decode cX10_letterCell 2 = .ok (.invokevirtual 236, 3) := by decide +kernel
theorem dX10_letterCell_5 : decode cX10_letterCell 5 = .ok (.ireturn, 1) := by decide +kernel
theorem dX10_functionCell_0 : decode cX10_functionCell 0 = .ok (.aload_n 0, 1) := by decide +kernel
theorem dX10_functionCell_1 : decode cX10_functionCell 1 = .ok (.iconst 2, 1) := by decide +kernel
theorem dX10_functionCell_2 : decode cX10_functionCell 2 = .ok (.invokevirtual 236, 3) := by decide +kernel
theorem dX10_functionCell_5 : decode cX10_functionCell 5 = .ok (.istore 5, 2) := by decide +kernel
theorem dX10_functionCell_7 : decode cX10_functionCell 7 = .ok (.aload_n 0, 1) := by decide +kernel
theorem dX10_functionCell_8 : decode cX10_functionCell 8 = .ok (.getfield 73, 3) := by decide +kernel
theorem dX10_functionCell_11 : decode cX10_functionCell 11 = .ok (.iconst 4, 1) := by decide +kernel
theorem dX10_functionCell_12 : decode cX10_functionCell 12 = .ok (.iload 5, 2) := by decide +kernel
theorem dX10_functionCell_14 : decode cX10_functionCell 14 = .ok (.imul, 1) := by decide +kernel
theorem dX10_functionCell_15 : decode cX10_functionCell 15 = .ok (.iload_n 1, 1) := by decide +kernel
theorem dX10_functionCell_16 : decode cX10_functionCell 16 = .ok (.iastore, 1) := by decide +kernel
theorem dX10_functionCell_17 : decode cX10_functionCell 17 = .ok (.aload_n 0, 1) := by decide +kernel
theorem dX10_functionCell_18 : decode cX10_functionCell 18 = .ok (.getfield 73, 3) := by decide +kernel
theorem dX10_functionCell_21 : decode cX10_functionCell 21 = .ok (.iconst 4, 1) := by decide +kernel
theorem dX10_functionCell_22 : decode cX10_functionCell 22 = .ok (.iload 5, 2) := by decide +kernel
theorem dX10_functionCell_24 : decode cX10_functionCell 24 = .ok (.imul, 1) := by decide +kernel
theorem dX10_functionCell_25 : decode cX10_functionCell 25 = .ok (.iconst 1, 1) := by decide +kernel
theorem dX10_functionCell_26 : decode cX10_functionCell 26 = .ok (.iadd, 1) := by decide +kernel
theorem dX10_functionCell_27 : decode cX10_functionCell 27 = .ok (.iload_n 2, 1) := by decide +kernel
theorem dX10_functionCell_28 : decode cX10_functionCell 28 = .ok (.iastore, 1) := by decide +kernel
theorem dX10_functionCell_29 : decode cX10_functionCell 29 = .ok (.aload_n 0, 1) := by decide +kernel
theorem dX10_functionCell_30 : decode cX10_functionCell 30 = .ok (.getfield 73, 3) := by decide +kernel
theorem dX10_functionCell_33 : decode cX10_functionCell 33 = .ok (.iconst 4, 1) := by decide +kernel
