theorem dX10_init_0 : decode cX10_init 0 = .ok (.aload_n 0, 1) := by decide +kernel
theorem dX10_init_1 : decode cX10_init 1 = .ok (.invokespecial 1, 3) := by decide +kernel
theorem dX10_init_4 : decode cX10_init 4 = .ok (.aload_n 0, 1) := by decide +kernel
theorem dX10_init_5 : decode cX10_init 5 = .ok (.bipush 9, 2) := by decide +kernel
theorem dX10_init_7 : decode cX10_init 7 = .ok (.newarray .boolean, 2) := by decide +kernel
theorem dX10_init_9 : decode cX10_init 9 = .ok (.putfield 7, 3) := by decide +kernel
theorem dX10_init_12 : decode cX10_init 12 = .ok (.aload_n 0, 1) := by decide +kernel
theorem dX10_init_13 : decode cX10_init 13 = .ok (.bipush 9, 2) := by decide +kernel
theorem dX10_init_15 : decode cX10_init 15 = .ok (.newarray .int, 2) := by decide +kernel
theorem dX10_init_17 : decode cX10_init 17 = .ok (.putfield 13, 3) := by decide +kernel
theorem dX10_init_20 : decode cX10_init 20 = .ok (.aload_n 0, 1) := by decide +kernel
theorem dX10_init_21 : decode cX10_init 21 = .ok (.bipush 9, 2) := by decide +kernel
theorem dX10_init_23 : decode cX10_init 23 = .ok (.newarray .int, 2) := by decide +kernel
theorem dX10_init_25 : decode cX10_init 25 = .ok (.putfield 17, 3) := by decide +kernel
theorem dX10_init_28 : decode cX10_init 28 = .ok (.aload_n 0, 1) := by decide +kernel
theorem dX10_init_29 : decode cX10_init 29 = .ok (.sipush 900, 3) := by decide +kernel
theorem dX10_init_32 : decode cX10_init 32 = .ok (.newarray .int, 2) := by decide +kernel
theorem dX10_init_34 : decode cX10_init 34 = .ok (.putfield 20, 3) := by decide +kernel
theorem dX10_init_37 : decode cX10_init 37 = .ok (.aload_n 0, 1) := by decide +kernel
theorem dX10_init_38 : decode cX10_init 38 = .ok (.sipush 900, 3) := by decide +kernel
theorem dX10_init_41 : decode cX10_init 41 = .ok (.newarray .int, 2) := by decide +kernel
theorem dX10_init_43 : decode cX10_init 43 = .ok (.putfield 23, 3) := by decide +kernel
theorem dX10_init_46 : decode cX10_init 46 = .ok (.aload_n 0, 1) := by decide +kernel
theorem dX10_init_47 : decode cX10_init 47 = .ok (.sipush 500, 3) := by decide +kernel
theorem dX10_init_50 : decode cX10_init 50 = .ok (.newarray .boolean, 2) := by decide +kernel
theorem dX10_init_52 : decode cX10_init 52 = .ok (.putfield 26, 3) := by decide +kernel
theorem dX10_init_55 : decode cX10_init 55 = .ok (.aload_n 0, 1) := by decide +kernel
theorem dX10_init_56 : decode cX10_init 56 = .ok (.sipush 500, 3) := by decide +kernel
theorem dX10_init_59 : decode cX10_init 59 = .ok (.newarray .int, 2) := by decide +kernel
theorem dX10_init_61 : decode cX10_init 61 = .ok (.putfield 29, 3) := by decide +kernel
theorem dX10_init_64 : decode cX10_init 64 = .ok (.aload_n 0, 1) := by decide +kernel
theorem dX10_init_65 : decode cX10_init 65 = .ok (.iconst 5, 1) := by decide +kernel
theorem dX10_init_66 : decode cX10_init 66 = .ok (.newarray .int, 2) := by decide +kernel
theorem dX10_init_68 : decode cX10_init 68 = .ok (.putfield 32, 3) := by decide +kernel
theorem dX10_init_71 : decode cX10_init 71 = .ok (.aload_n 0, 1) := by decide +kernel
theorem dX10_init_72 : decode cX10_init 72 = .ok (.iconst 5, 1) := by decide +kernel
theorem dX10_init_73 : decode cX10_init 73 = .ok (.newarray .int, 2) := by decide +kernel
theorem dX10_init_75 : decode cX10_init 75 = .ok (.putfield 35, 3) := by decide +kernel
theorem dX10_init_78 : decode cX10_init 78 = .ok (.aload_n 0, 1) := by decide +kernel
theorem dX10_init_79 : decode cX10_init 79 = .ok (.sipush 320, 3) := by decide +kernel
theorem dX10_init_82 : decode cX10_init 82 = .ok (.newarray .int, 2) := by decide +kernel
theorem dX10_init_84 : decode cX10_init 84 = .ok (.putfield 38, 3) := by decide +kernel
theorem dX10_init_87 : decode cX10_init 87 = .ok (.aload_n 0, 1) := by decide +kernel
theorem dX10_init_88 : decode cX10_init 88 = .ok (.bipush 9, 2) := by decide +kernel
theorem dX10_init_90 : decode cX10_init 90 = .ok (.newarray .int, 2) := by decide +kernel
theorem dX10_init_92 : decode cX10_init 92 = .ok (.putfield 41, 3) := by decide +kernel
theorem dX10_init_95 : decode cX10_init 95 = .ok (.aload_n 0, 1) := by decide +kernel
theorem dX10_init_96 : decode cX10_init 96 = .ok (.iconst 5, 1) := by decide +kernel
theorem dX10_init_97 : decode cX10_init 97 = .ok (.newarray .int, 2) := by decide +kernel
theorem dX10_init_99 : decode cX10_init 99 = .ok (.putfield 44, 3) := by decide +kernel
theorem dX10_init_102 : decode cX10_init 102 = .ok (.aload_n 0, 1) := by decide +kernel
theorem dX10_init_103 : decode cX10_init 103 = .ok (.iconst 5, 1) := by decide +kernel
theorem dX10_init_104 : decode cX10_init 104 = .ok (.newarray .int, 2) := by decide +kernel
theorem dX10_init_106 : decode cX10_init 106 = .ok (.putfield 47, 3) := by decide +kernel
theorem dX10_init_109 : decode cX10_init 109 = .ok (.aload_n 0, 1) := by decide +kernel
theorem dX10_init_110 : decode cX10_init 110 = .ok (.iconst 5, 1) := by decide +kernel
theorem dX10_init_111 : decode cX10_init 111 = .ok (.newarray .int, 2) := by decide +kernel
theorem dX10_init_113 : decode cX10_init 113 = .ok (.putfield 50, 3) := by decide +kernel
theorem dX10_init_116 : decode cX10_init 116 = .ok (.aload_n 0, 1) := by decide +kernel
theorem dX10_init_117 : decode cX10_init 117 = .ok (.iconst 5, 1) := by decide +kernel
theorem dX10_init_118 : decode cX10_init 118 = .ok (.newarray .int, 2) := by decide +kernel
theorem dX10_init_120 : decode cX10_init 120 = .ok (.putfield 53, 3) := by decide +kernel
theorem dX10_init_123 : decode cX10_init 123 = .ok (.aload_n 0, 1) := by decide +kernel
theorem dX10_init_124 : decode cX10_init 124 = .ok (.bipush 45, 2) := by decide +kernel
theorem dX10_init_126 : decode cX10_init 126 = .ok (.newarray .int, 2) := by decide +kernel
theorem dX10_init_128 : decode cX10_init 128 = .ok (.putfield 56, 3) := by decide +kernel
theorem dX10_init_131 : decode cX10_init 131 = .ok (.aload_n 0, 1) := by decide +kernel
theorem dX10_init_132 : decode cX10_init 132 = .ok (.sipush 4500, 3) := by decide +kernel
theorem dX10_init_135 : decode cX10_init 135 = .ok (.newarray .int, 2) := by decide +kernel
theorem dX10_init_137 : decode cX10_init 137 = .ok (.putfield 59, 3) := by decide +kernel
theorem dX10_init_140 : decode cX10_init 140 = .ok (.aload_n 0, 1) := by decide +kernel
theorem dX10_init_141 : decode cX10_init 141 = .ok (.sipush 4500, 3) := by decide +kernel
theorem dX10_init_144 : decode cX10_init 144 = .ok (.newarray .int, 2) := by decide +kernel
theorem dX10_init_146 : decode cX10_init 146 = .ok (.putfield 62, 3) := by decide +kernel
theorem dX10_init_149 : decode cX10_init 149 = .ok (.aload_n 0, 1) := by decide +kernel
theorem dX10_init_150 : decode cX10_init 150 = .ok (.sipush 500, 3) := by decide +kernel
theorem dX10_init_153 : decode cX10_init 153 = .ok (.newarray .boolean, 2) := by decide +kernel
theorem dX10_init_155 : decode cX10_init 155 = .ok (.putfield 65, 3) := by decide +kernel
theorem dX10_init_158 : decode cX10_init 158 = .ok (.aload_n 0, 1) := by decide +kernel
theorem dX10_init_159 : decode cX10_init 159 = .ok (.sipush 500, 3) := by decide +kernel
theorem dX10_init_162 : decode cX10_init 162 = .ok (.newarray .int, 2) := by decide +kernel
theorem dX10_init_164 : decode cX10_init 164 = .ok (.putfield 68, 3) := by decide +kernel
theorem dX10_init_167 : decode cX10_init 167 = .ok (.aload_n 0, 1) := by decide +kernel
theorem dX10_init_168 : decode cX10_init 168 = .ok (.sipush 500, 3) := by decide +kernel
theorem dX10_init_171 : decode cX10_init 171 = .ok (.newarray .int, 2) := by decide +kernel
theorem dX10_init_173 : decode cX10_init 173 = .ok (.putfield 71, 3) := by decide +kernel
theorem dX10_init_176 : decode cX10_init 176 = .ok (.aload_n 0, 1) := by decide +kernel
theorem dX10_init_177 : decode cX10_init 177 = .ok (.sipush 500, 3) := by decide +kernel
theorem dX10_init_180 : decode cX10_init 180 = .ok (.newarray .int, 2) := by decide +kernel
theorem dX10_init_182 : decode cX10_init 182 = .ok (.putfield 74, 3) := by decide +kernel
theorem dX10_init_185 : decode cX10_init 185 = .ok (.aload_n 0, 1) := by decide +kernel
theorem dX10_init_186 : decode cX10_init 186 = .ok (.bipush 45, 2) := by decide +kernel
theorem dX10_init_188 : decode cX10_init 188 = .ok (.newarray .int, 2) := by decide +kernel
theorem dX10_init_190 : decode cX10_init 190 = .ok (.putfield 77, 3) := by decide +kernel
theorem dX10_init_193 : decode cX10_init 193 = .ok (.aload_n 0, 1) := by decide +kernel
theorem dX10_init_194 : decode cX10_init 194 = .ok (.iconst 5, 1) := by decide +kernel
theorem dX10_init_195 : decode cX10_init 195 = .ok (.newarray .int, 2) := by decide +kernel
theorem dX10_init_197 : decode cX10_init 197 = .ok (.putfield 80, 3) := by decide +kernel
theorem dX10_init_200 : decode cX10_init 200 = .ok (.aload_n 0, 1) := by decide +kernel
theorem dX10_init_201 : decode cX10_init 201 = .ok (.iconst 5, 1) := by decide +kernel
theorem dX10_init_202 : decode cX10_init 202 = .ok (.newarray .int, 2) := by decide +kernel
theorem dX10_init_204 : decode cX10_init 204 = .ok (.putfield 83, 3) := by decide +kernel
theorem dX10_init_207 : decode cX10_init 207 = .ok (.aload_n 0, 1) := by decide +kernel
theorem dX10_init_208 : decode cX10_init 208 = .ok (.sipush 300, 3) := by decide +kernel
theorem dX10_init_211 : decode cX10_init 211 = .ok (.newarray .int, 2) := by decide +kernel
theorem dX10_init_213 : decode cX10_init 213 = .ok (.putfield 86, 3) := by decide +kernel
theorem dX10_init_216 : decode cX10_init 216 = .ok (.aload_n 0, 1) := by decide +kernel
theorem dX10_init_217 : decode cX10_init 217 = .ok (.bipush 110, 2) := by decide +kernel
theorem dX10_init_219 : decode cX10_init 219 = .ok (.newarray .int, 2) := by decide +kernel
theorem dX10_init_221 : decode cX10_init 221 = .ok (.putfield 89, 3) := by decide +kernel
theorem dX10_init_224 : decode cX10_init 224 = .ok (.aload_n 0, 1) := by decide +kernel
theorem dX10_init_225 : decode cX10_init 225 = .ok (.sipush 420, 3) := by decide +kernel
theorem dX10_init_228 : decode cX10_init 228 = .ok (.newarray .boolean, 2) := by decide +kernel
theorem dX10_init_230 : decode cX10_init 230 = .ok (.putfield 92, 3) := by decide +kernel
theorem dX10_init_233 : decode cX10_init 233 = .ok (.aload_n 0, 1) := by decide +kernel
theorem dX10_init_234 : decode cX10_init 234 = .ok (.sipush 420, 3) := by decide +kernel
theorem dX10_init_237 : decode cX10_init 237 = .ok (.newarray .int, 2) := by decide +kernel
theorem dX10_init_239 : decode cX10_init 239 = .ok (.putfield 95, 3) := by decide +kernel
theorem dX10_init_242 : decode cX10_init 242 = .ok (.aload_n 0, 1) := by decide +kernel
theorem dX10_init_243 : decode cX10_init 243 = .ok (.sipush 420, 3) := by decide +kernel
theorem dX10_init_246 : decode cX10_init 246 = .ok (.newarray .int, 2) := by decide +kernel
theorem dX10_init_248 : decode cX10_init 248 = .ok (.putfield 98, 3) := by decide +kernel
theorem dX10_init_251 : decode cX10_init 251 = .ok (.aload_n 0, 1) := by decide +kernel
theorem dX10_init_252 : decode cX10_init 252 = .ok (.sipush 420, 3) := by decide +kernel
theorem dX10_init_255 : decode cX10_init 255 = .ok (.newarray .int, 2) := by decide +kernel
theorem dX10_init_257 : decode cX10_init 257 = .ok (.putfield 101, 3) := by decide +kernel
theorem dX10_init_260 : decode cX10_init 260 = .ok (.aload_n 0, 1) := by decide +kernel
theorem dX10_init_261 : decode cX10_init 261 = .ok (.sipush 420, 3) := by decide +kernel
theorem dX10_init_264 : decode cX10_init 264 = .ok (.newarray .int, 2) := by decide +kernel
theorem dX10_init_266 : decode cX10_init 266 = .ok (.putfield 104, 3) := by decide +kernel
theorem dX10_init_269 : decode cX10_init 269 = .ok (.aload_n 0, 1) := by decide +kernel
theorem dX10_init_270 : decode cX10_init 270 = .ok (.sipush 420, 3) := by decide +kernel
theorem dX10_init_273 : decode cX10_init 273 = .ok (.newarray .int, 2) := by decide +kernel
theorem dX10_init_275 : decode cX10_init 275 = .ok (.putfield 107, 3) := by decide +kernel
theorem dX10_init_278 : decode cX10_init 278 = .ok (.aload_n 0, 1) := by decide +kernel
theorem dX10_init_279 : decode cX10_init 279 = .ok (.sipush 420, 3) := by decide +kernel
theorem dX10_init_282 : decode cX10_init 282 = .ok (.newarray .int, 2) := by decide +kernel
theorem dX10_init_284 : decode cX10_init 284 = .ok (.putfield 110, 3) := by decide +kernel
theorem dX10_init_287 : decode cX10_init 287 = .ok (.aload_n 0, 1) := by decide +kernel
theorem dX10_init_288 : decode cX10_init 288 = .ok (.ldc 113, 2) := by decide +kernel
theorem dX10_init_290 : decode cX10_init 290 = .ok (.newarray .int, 2) := by decide +kernel
theorem dX10_init_292 : decode cX10_init 292 = .ok (.putfield 114, 3) := by decide +kernel
theorem dX10_init_295 : decode cX10_init 295 = .ok (.aload_n 0, 1) := by decide +kernel
theorem dX10_init_296 : decode cX10_init 296 = .ok (.ldc 113, 2) := by decide +kernel
theorem dX10_init_298 : decode cX10_init 298 = .ok (.newarray .int, 2) := by decide +kernel
theorem dX10_init_300 : decode cX10_init 300 = .ok (.putfield 117, 3) := by decide +kernel
theorem dX10_init_303 : decode cX10_init 303 = .ok (.aload_n 0, 1) := by decide +kernel
theorem dX10_init_304 : decode cX10_init 304 = .ok (.iload_n 1, 1) := by decide +kernel
theorem dX10_init_305 : decode cX10_init 305 = .ok (.iconst 2, 1) := by decide +kernel
theorem dX10_init_306 : decode cX10_init 306 = .ok (.if_icmp .lt 12, 3) := by decide +kernel
theorem dX10_init_309 : decode cX10_init 309 = .ok (.iload_n 1, 1) := by decide +kernel
theorem dX10_init_310 : decode cX10_init 310 = .ok (.iconst 5, 1) := by decide +kernel
theorem dX10_init_311 : decode cX10_init 311 = .ok (.if_icmp .gt 7, 3) := by decide +kernel
theorem dX10_init_314 : decode cX10_init 314 = .ok (.iload_n 1, 1) := by decide +kernel
theorem dX10_init_315 : decode cX10_init 315 = .ok (.goto 4, 3) := by decide +kernel
theorem dX10_init_318 : decode cX10_init 318 = .ok (.iconst 3, 1) := by decide +kernel
theorem dX10_init_319 : decode cX10_init 319 = .ok (.putfield 120, 3) := by decide +kernel
theorem dX10_init_322 : decode cX10_init 322 = .ok (.aload_n 0, 1) := by decide +kernel
theorem dX10_init_323 : decode cX10_init 323 = .ok (.iconst 2, 1) := by decide +kernel
theorem dX10_init_324 : decode cX10_init 324 = .ok (.aload_n 0, 1) := by decide +kernel
theorem dX10_init_325 : decode cX10_init 325 = .ok (.getfield 120, 3) := by decide +kernel
theorem dX10_init_328 : decode cX10_init 328 = .ok (.imul, 1) := by decide +kernel
theorem dX10_init_329 : decode cX10_init 329 = .ok (.iconst 1, 1) := by decide +kernel
theorem dX10_init_330 : decode cX10_init 330 = .ok (.isub, 1) := by decide +kernel
theorem dX10_init_331 : decode cX10_init 331 = .ok (.putfield 124, 3) := by decide +kernel
theorem dX10_init_334 : decode cX10_init 334 = .ok (.return_, 1) := by decide +kernel
theorem dX10_thrown_0 : decode cX10_thrown 0 = .ok (.aload_n 0, 1) := by decide +kernel
theorem dX10_thrown_1 : decode cX10_thrown 1 = .ok (.getfield 127, 3) := by decide +kernel
theorem dX10_thrown_4 : decode cX10_thrown 4 = .ok (.ireturn, 1) := by decide +kernel
theorem dX10_in_0 : decode cX10_in 0 = .ok (.iload_n 0, 1) := by decide +kernel
theorem dX10_in_1 : decode cX10_in 1 = .ok (.iload_n 1, 1) := by decide +kernel
theorem dX10_in_2 : decode cX10_in 2 = .ok (.if_icmp .lt 12, 3) := by decide +kernel
theorem dX10_in_5 : decode cX10_in 5 = .ok (.iload_n 0, 1) := by decide +kernel
theorem dX10_in_6 : decode cX10_in 6 = .ok (.iload_n 2, 1) := by decide +kernel
theorem dX10_in_7 : decode cX10_in 7 = .ok (.if_icmp .gt 7, 3) := by decide +kernel
theorem dX10_in_10 : decode cX10_in 10 = .ok (.iconst 1, 1) := by decide +kernel
theorem dX10_in_11 : decode cX10_in 11 = .ok (.goto 4, 3) := by decide +kernel
theorem dX10_in_14 : decode cX10_in 14 = .ok (.iconst 0, 1) := by decide +kernel
theorem dX10_in_15 : decode cX10_in 15 = .ok (.ireturn, 1) := by decide +kernel
theorem dX10_goes_0 : decode cX10_goes 0 = .ok (.aload_n 0, 1) := by decide +kernel
theorem dX10_goes_1 : decode cX10_goes 1 = .ok (.iload_n 1, 1) := by decide +kernel
theorem dX10_goes_2 : decode cX10_goes 2 = .ok (.ifCond .eq 7, 3) := by decide +kernel
theorem dX10_goes_5 : decode cX10_goes 5 = .ok (.iconst 0, 1) := by decide +kernel
theorem dX10_goes_6 : decode cX10_goes 6 = .ok (.goto 4, 3) := by decide +kernel
theorem dX10_goes_9 : decode cX10_goes 9 = .ok (.iconst 1, 1) := by decide +kernel
theorem dX10_goes_10 : decode cX10_goes 10 = .ok (.putfield 127, 3) := by decide +kernel
theorem dX10_goes_13 : decode cX10_goes 13 = .ok (.iload_n 1, 1) := by decide +kernel
theorem dX10_goes_14 : decode cX10_goes 14 = .ok (.ireturn, 1) := by decide +kernel
theorem dX10_bits_0 : decode cX10_bits 0 = .ok (.iconst 0, 1) := by decide +kernel
theorem dX10_bits_1 : decode cX10_bits 1 = .ok (.istore_n 1, 1) := by decide +kernel
theorem dX10_bits_2 : decode cX10_bits 2 = .ok (.iload_n 0, 1) := by decide +kernel
theorem dX10_bits_3 : decode cX10_bits 3 = .ok (.istore_n 2, 1) := by decide +kernel
theorem dX10_bits_4 : decode cX10_bits 4 = .ok (.iload_n 2, 1) := by decide +kernel
theorem dX10_bits_5 : decode cX10_bits 5 = .ok (.ifCond .eq 15, 3) := by decide +kernel
theorem dX10_bits_8 : decode cX10_bits 8 = .ok (.iinc 1 1, 3) := by decide +kernel
theorem dX10_bits_11 : decode cX10_bits 11 = .ok (.iload_n 2, 1) := by decide +kernel
theorem dX10_bits_12 : decode cX10_bits 12 = .ok (.iload_n 2, 1) := by decide +kernel
theorem dX10_bits_13 : decode cX10_bits 13 = .ok (.iconst 1, 1) := by decide +kernel
theorem dX10_bits_14 : decode cX10_bits 14 = .ok (.isub, 1) := by decide +kernel
theorem dX10_bits_15 : decode cX10_bits 15 = .ok (.iand, 1) := by decide +kernel
theorem dX10_bits_16 : decode cX10_bits 16 = .ok (.istore_n 2, 1) := by decide +kernel
theorem dX10_bits_17 : decode cX10_bits 17 = .ok (.goto (-13), 3) := by decide +kernel
theorem dX10_bits_20 : decode cX10_bits 20 = .ok (.iload_n 1, 1) := by decide +kernel
theorem dX10_bits_21 : decode cX10_bits 21 = .ok (.ireturn, 1) := by decide +kernel
theorem dX10_membersOf_0 : decode cX10_membersOf 0 = .ok (.iconst 1, 1) := by decide +kernel
theorem dX10_membersOf_1 : decode cX10_membersOf 1 = .ok (.aload_n 0, 1) := by decide +kernel
theorem dX10_membersOf_2 : decode cX10_membersOf 2 = .ok (.getfield 120, 3) := by decide +kernel
theorem dX10_membersOf_5 : decode cX10_membersOf 5 = .ok (.ishl, 1) := by decide +kernel
theorem dX10_membersOf_6 : decode cX10_membersOf 6 = .ok (.iconst 1, 1) := by decide +kernel
theorem dX10_membersOf_7 : decode cX10_membersOf 7 = .ok (.isub, 1) := by decide +kernel
theorem dX10_membersOf_8 : decode cX10_membersOf 8 = .ok (.istore_n 3, 1) := by decide +kernel
theorem dX10_membersOf_9 : decode cX10_membersOf 9 = .ok (.iconst 0, 1) := by decide +kernel
theorem dX10_membersOf_10 : decode cX10_membersOf 10 = .ok (.istore 4, 2) := by decide +kernel
theorem dX10_membersOf_12 : decode cX10_membersOf 12 = .ok (.iload 4, 2) := by decide +kernel
theorem dX10_membersOf_14 : decode cX10_membersOf 14 = .ok (.iload_n 2, 1) := by decide +kernel
theorem dX10_membersOf_15 : decode cX10_membersOf 15 = .ok (.iconst 4, 1) := by decide +kernel
theorem dX10_membersOf_16 : decode cX10_membersOf 16 = .ok (.isub, 1) := by decide +kernel
theorem dX10_membersOf_17 : decode cX10_membersOf 17 = .ok (.if_icmp .gt 54, 3) := by decide +kernel
theorem dX10_membersOf_20 : decode cX10_membersOf 20 = .ok (.aload_n 0, 1) := by decide +kernel
theorem dX10_membersOf_21 : decode cX10_membersOf 21 = .ok (.getfield 29, 3) := by decide +kernel
theorem dX10_membersOf_24 : decode cX10_membersOf 24 = .ok (.bipush 100, 2) := by decide +kernel
theorem dX10_membersOf_26 : decode cX10_membersOf 26 = .ok (.iload_n 1, 1) := by decide +kernel
theorem dX10_membersOf_27 : decode cX10_membersOf 27 = .ok (.imul, 1) := by decide +kernel
theorem dX10_membersOf_28 : decode cX10_membersOf 28 = .ok (.iload 4, 2) := by decide +kernel
theorem dX10_membersOf_30 : decode cX10_membersOf 30 = .ok (.iadd, 1) := by decide +kernel
theorem dX10_membersOf_31 : decode cX10_membersOf 31 = .ok (.iaload, 1) := by decide +kernel
theorem dX10_membersOf_32 : decode cX10_membersOf 32 = .ok (.istore 5, 2) := by decide +kernel
theorem dX10_membersOf_34 : decode cX10_membersOf 34 = .ok (.aload_n 0, 1) := by decide +kernel
theorem dX10_membersOf_35 : decode cX10_membersOf 35 = .ok (.getfield 26, 3) := by decide +kernel
theorem dX10_membersOf_38 : decode cX10_membersOf 38 = .ok (.bipush 100, 2) := by decide +kernel
theorem dX10_membersOf_40 : decode cX10_membersOf 40 = .ok (.iload_n 1, 1) := by decide +kernel
theorem dX10_membersOf_41 : decode cX10_membersOf 41 = .ok (.imul, 1) := by decide +kernel
theorem dX10_membersOf_42 : decode cX10_membersOf 42 = .ok (.iload 4, 2) := by decide +kernel
theorem dX10_membersOf_44 : decode cX10_membersOf 44 = .ok (.iadd, 1) := by decide +kernel
theorem dX10_membersOf_45 : decode cX10_membersOf 45 = .ok (.baload, 1) := by decide +kernel
theorem dX10_membersOf_46 : decode cX10_membersOf 46 = .ok (.ifCond .eq 19, 3) := by decide +kernel
theorem dX10_membersOf_49 : decode cX10_membersOf 49 = .ok (.iload 5, 2) := by decide +kernel
theorem dX10_membersOf_51 : decode cX10_membersOf 51 = .ok (.ifCond .ge 14, 3) := by decide +kernel
theorem dX10_membersOf_54 : decode cX10_membersOf 54 = .ok (.iload_n 3, 1) := by decide +kernel
theorem dX10_membersOf_55 : decode cX10_membersOf 55 = .ok (.iconst 1, 1) := by decide +kernel
theorem dX10_membersOf_56 : decode cX10_membersOf 56 = .ok (.iconst (-1), 1) := by decide +kernel
theorem dX10_membersOf_57 : decode cX10_membersOf 57 = .ok (.iload 5, 2) := by decide +kernel
theorem dX10_membersOf_59 : decode cX10_membersOf 59 = .ok (.isub, 1) := by decide +kernel
theorem dX10_membersOf_60 : decode cX10_membersOf 60 = .ok (.ishl, 1) := by decide +kernel
theorem dX10_membersOf_61 : decode cX10_membersOf 61 = .ok (.iconst (-1), 1) := by decide +kernel
theorem dX10_membersOf_62 : decode cX10_membersOf 62 = .ok (.ixor, 1) := by decide +kernel
theorem dX10_membersOf_63 : decode cX10_membersOf 63 = .ok (.iand, 1) := by decide +kernel
theorem dX10_membersOf_64 : decode cX10_membersOf 64 = .ok (.istore_n 3, 1) := by decide +kernel
theorem dX10_membersOf_65 : decode cX10_membersOf 65 = .ok (.iinc 4 1, 3) := by decide +kernel
theorem dX10_membersOf_68 : decode cX10_membersOf 68 = .ok (.goto (-56), 3) := by decide +kernel
theorem dX10_membersOf_71 : decode cX10_membersOf 71 = .ok (.iload_n 3, 1) := by decide +kernel
theorem dX10_membersOf_72 : decode cX10_membersOf 72 = .ok (.ireturn, 1) := by decide +kernel
theorem dX10_isQuorum_0 : decode cX10_isQuorum 0 = .ok (.aload_n 0, 1) := by decide +kernel
theorem dX10_isQuorum_1 : decode cX10_isQuorum 1 = .ok (.iload_n 1, 1) := by decide +kernel
theorem dX10_isQuorum_2 : decode cX10_isQuorum 2 = .ok (.iload_n 3, 1) := by decide +kernel
theorem dX10_isQuorum_3 : decode cX10_isQuorum 3 = .ok (.invokevirtual 130, 3) := by decide +kernel
theorem dX10_isQuorum_6 : decode cX10_isQuorum 6 = .ok (.istore 4, 2) := by decide +kernel
theorem dX10_isQuorum_8 : decode cX10_isQuorum 8 = .ok (.iconst 1, 1) := by decide +kernel
theorem dX10_isQuorum_9 : decode cX10_isQuorum 9 = .ok (.aload_n 0, 1) := by decide +kernel
theorem dX10_isQuorum_10 : decode cX10_isQuorum 10 = .ok (.getfield 124, 3) := by decide +kernel
theorem dX10_isQuorum_13 : decode cX10_isQuorum 13 = .ok (.ishl, 1) := by decide +kernel
theorem dX10_isQuorum_14 : decode cX10_isQuorum 14 = .ok (.iconst 1, 1) := by decide +kernel
theorem dX10_isQuorum_15 : decode cX10_isQuorum 15 = .ok (.aload_n 0, 1) := by decide +kernel
theorem dX10_isQuorum_16 : decode cX10_isQuorum 16 = .ok (.getfield 120, 3) := by decide +kernel
theorem dX10_isQuorum_19 : decode cX10_isQuorum 19 = .ok (.ishl, 1) := by decide +kernel
theorem dX10_isQuorum_20 : decode cX10_isQuorum 20 = .ok (.isub, 1) := by decide +kernel
theorem dX10_isQuorum_21 : decode cX10_isQuorum 21 = .ok (.istore 5, 2) := by decide +kernel
theorem dX10_isQuorum_23 : decode cX10_isQuorum 23 = .ok (.iload_n 2, 1) := by decide +kernel
theorem dX10_isQuorum_24 : decode cX10_isQuorum 24 = .ok (.iload 4, 2) := by decide +kernel
theorem dX10_isQuorum_26 : decode cX10_isQuorum 26 = .ok (.iand, 1) := by decide +kernel
theorem dX10_isQuorum_27 : decode cX10_isQuorum 27 = .ok (.ifCond .eq 43, 3) := by decide +kernel
theorem dX10_isQuorum_30 : decode cX10_isQuorum 30 = .ok (.iload_n 2, 1) := by decide +kernel
theorem dX10_isQuorum_31 : decode cX10_isQuorum 31 = .ok (.iload 4, 2) := by decide +kernel
theorem dX10_isQuorum_33 : decode cX10_isQuorum 33 = .ok (.iand, 1) := by decide +kernel
theorem dX10_isQuorum_34 : decode cX10_isQuorum 34 = .ok (.iload 4, 2) := by decide +kernel
theorem dX10_isQuorum_36 : decode cX10_isQuorum 36 = .ok (.if_icmp .eq 30, 3) := by decide +kernel
theorem dX10_isQuorum_39 : decode cX10_isQuorum 39 = .ok (.iconst 2, 1) := by decide +kernel
theorem dX10_isQuorum_40 : decode cX10_isQuorum 40 = .ok (.iload_n 2, 1) := by decide +kernel
theorem dX10_isQuorum_41 : decode cX10_isQuorum 41 = .ok (.iload 4, 2) := by decide +kernel
theorem dX10_isQuorum_43 : decode cX10_isQuorum 43 = .ok (.iload 5, 2) := by decide +kernel
theorem dX10_isQuorum_45 : decode cX10_isQuorum 45 = .ok (.ior, 1) := by decide +kernel
theorem dX10_isQuorum_46 : decode cX10_isQuorum 46 = .ok (.iand, 1) := by decide +kernel
theorem dX10_isQuorum_47 : decode cX10_isQuorum 47 = .ok (.invokestatic 134, 3) := by decide +kernel
theorem dX10_isQuorum_50 : decode cX10_isQuorum 50 = .ok (.imul, 1) := by decide +kernel
theorem dX10_isQuorum_51 : decode cX10_isQuorum 51 = .ok (.iload 4, 2) := by decide +kernel
theorem dX10_isQuorum_53 : decode cX10_isQuorum 53 = .ok (.invokestatic 134, 3) := by decide +kernel
theorem dX10_isQuorum_56 : decode cX10_isQuorum 56 = .ok (.aload_n 0, 1) := by decide +kernel
theorem dX10_isQuorum_57 : decode cX10_isQuorum 57 = .ok (.getfield 120, 3) := by decide +kernel
theorem dX10_isQuorum_60 : decode cX10_isQuorum 60 = .ok (.iadd, 1) := by decide +kernel
theorem dX10_isQuorum_61 : decode cX10_isQuorum 61 = .ok (.iconst 1, 1) := by decide +kernel
theorem dX10_isQuorum_62 : decode cX10_isQuorum 62 = .ok (.isub, 1) := by decide +kernel
theorem dX10_isQuorum_63 : decode cX10_isQuorum 63 = .ok (.if_icmp .le 7, 3) := by decide +kernel
theorem dX10_isQuorum_66 : decode cX10_isQuorum 66 = .ok (.iconst 1, 1) := by decide +kernel
theorem dX10_isQuorum_67 : decode cX10_isQuorum 67 = .ok (.goto 4, 3) := by decide +kernel
theorem dX10_isQuorum_70 : decode cX10_isQuorum 70 = .ok (.iconst 0, 1) := by decide +kernel
theorem dX10_isQuorum_71 : decode cX10_isQuorum 71 = .ok (.ireturn, 1) := by decide +kernel
theorem dX10_forget_0 : decode cX10_forget 0 = .ok (.aload_n 0, 1) := by decide +kernel
theorem dX10_forget_1 : decode cX10_forget 1 = .ok (.getfield 44, 3) := by decide +kernel
theorem dX10_forget_4 : decode cX10_forget 4 = .ok (.iload_n 1, 1) := by decide +kernel
theorem dX10_forget_5 : decode cX10_forget 5 = .ok (.iconst 0, 1) := by decide +kernel
theorem dX10_forget_6 : decode cX10_forget 6 = .ok (.iastore, 1) := by decide +kernel
theorem dX10_forget_7 : decode cX10_forget 7 = .ok (.aload_n 0, 1) := by decide +kernel
theorem dX10_forget_8 : decode cX10_forget 8 = .ok (.getfield 47, 3) := by decide +kernel
theorem dX10_forget_11 : decode cX10_forget 11 = .ok (.iload_n 1, 1) := by decide +kernel
theorem dX10_forget_12 : decode cX10_forget 12 = .ok (.iconst 0, 1) := by decide +kernel
theorem dX10_forget_13 : decode cX10_forget 13 = .ok (.iastore, 1) := by decide +kernel
theorem dX10_forget_14 : decode cX10_forget 14 = .ok (.aload_n 0, 1) := by decide +kernel
theorem dX10_forget_15 : decode cX10_forget 15 = .ok (.getfield 50, 3) := by decide +kernel
theorem dX10_forget_18 : decode cX10_forget 18 = .ok (.iload_n 1, 1) := by decide +kernel
theorem dX10_forget_19 : decode cX10_forget 19 = .ok (.iconst 0, 1) := by decide +kernel
theorem dX10_forget_20 : decode cX10_forget 20 = .ok (.iastore, 1) := by decide +kernel
theorem dX10_forget_21 : decode cX10_forget 21 = .ok (.aload_n 0, 1) := by decide +kernel
theorem dX10_forget_22 : decode cX10_forget 22 = .ok (.getfield 53, 3) := by decide +kernel
theorem dX10_forget_25 : decode cX10_forget 25 = .ok (.iload_n 1, 1) := by decide +kernel
theorem dX10_forget_26 : decode cX10_forget 26 = .ok (.iconst 0, 1) := by decide +kernel
theorem dX10_forget_27 : decode cX10_forget 27 = .ok (.iastore, 1) := by decide +kernel
theorem dX10_forget_28 : decode cX10_forget 28 = .ok (.aload_n 0, 1) := by decide +kernel
theorem dX10_forget_29 : decode cX10_forget 29 = .ok (.getfield 80, 3) := by decide +kernel
theorem dX10_forget_32 : decode cX10_forget 32 = .ok (.iload_n 1, 1) := by decide +kernel
theorem dX10_forget_33 : decode cX10_forget 33 = .ok (.iconst 0, 1) := by decide +kernel
theorem dX10_forget_34 : decode cX10_forget 34 = .ok (.iastore, 1) := by decide +kernel
theorem dX10_forget_35 : decode cX10_forget 35 = .ok (.aload_n 0, 1) := by decide +kernel
theorem dX10_forget_36 : decode cX10_forget 36 = .ok (.getfield 83, 3) := by decide +kernel
theorem dX10_forget_39 : decode cX10_forget 39 = .ok (.iload_n 1, 1) := by decide +kernel
theorem dX10_forget_40 : decode cX10_forget 40 = .ok (.iconst 0, 1) := by decide +kernel
theorem dX10_forget_41 : decode cX10_forget 41 = .ok (.iastore, 1) := by decide +kernel
theorem dX10_forget_42 : decode cX10_forget 42 = .ok (.iconst 0, 1) := by decide +kernel
theorem dX10_forget_43 : decode cX10_forget 43 = .ok (.istore_n 2, 1) := by decide +kernel
theorem dX10_forget_44 : decode cX10_forget 44 = .ok (.iload_n 2, 1) := by decide +kernel
theorem dX10_forget_45 : decode cX10_forget 45 = .ok (.bipush 100, 2) := by decide +kernel
theorem dX10_forget_47 : decode cX10_forget 47 = .ok (.if_icmp .ge 45, 3) := by decide +kernel
theorem dX10_forget_50 : decode cX10_forget 50 = .ok (.aload_n 0, 1) := by decide +kernel
theorem dX10_forget_51 : decode cX10_forget 51 = .ok (.getfield 65, 3) := by decide +kernel
theorem dX10_forget_54 : decode cX10_forget 54 = .ok (.bipush 100, 2) := by decide +kernel
theorem dX10_forget_56 : decode cX10_forget 56 = .ok (.iload_n 1, 1) := by decide +kernel
theorem dX10_forget_57 : decode cX10_forget 57 = .ok (.imul, 1) := by decide +kernel
theorem dX10_forget_58 : decode cX10_forget 58 = .ok (.iload_n 2, 1) := by decide +kernel
theorem dX10_forget_59 : decode cX10_forget 59 = .ok (.iadd, 1) := by decide +kernel
theorem dX10_forget_60 : decode cX10_forget 60 = .ok (.iconst 0, 1) := by decide +kernel
theorem dX10_forget_61 : decode cX10_forget 61 = .ok (.bastore, 1) := by decide +kernel
theorem dX10_forget_62 : decode cX10_forget 62 = .ok (.aload_n 0, 1) := by decide +kernel
theorem dX10_forget_63 : decode cX10_forget 63 = .ok (.getfield 71, 3) := by decide +kernel
theorem dX10_forget_66 : decode cX10_forget 66 = .ok (.bipush 100, 2) := by decide +kernel
theorem dX10_forget_68 : decode cX10_forget 68 = .ok (.iload_n 1, 1) := by decide +kernel
theorem dX10_forget_69 : decode cX10_forget 69 = .ok (.imul, 1) := by decide +kernel
theorem dX10_forget_70 : decode cX10_forget 70 = .ok (.iload_n 2, 1) := by decide +kernel
theorem dX10_forget_71 : decode cX10_forget 71 = .ok (.iadd, 1) := by decide +kernel
theorem dX10_forget_72 : decode cX10_forget 72 = .ok (.iconst 0, 1) := by decide +kernel
theorem dX10_forget_73 : decode cX10_forget 73 = .ok (.iastore, 1) := by decide +kernel
theorem dX10_forget_74 : decode cX10_forget 74 = .ok (.aload_n 0, 1) := by decide +kernel
theorem dX10_forget_75 : decode cX10_forget 75 = .ok (.getfield 74, 3) := by decide +kernel
theorem dX10_forget_78 : decode cX10_forget 78 = .ok (.bipush 100, 2) := by decide +kernel
theorem dX10_forget_80 : decode cX10_forget 80 = .ok (.iload_n 1, 1) := by decide +kernel
theorem dX10_forget_81 : decode cX10_forget 81 = .ok (.imul, 1) := by decide +kernel
theorem dX10_forget_82 : decode cX10_forget 82 = .ok (.iload_n 2, 1) := by decide +kernel
theorem dX10_forget_83 : decode cX10_forget 83 = .ok (.iadd, 1) := by decide +kernel
theorem dX10_forget_84 : decode cX10_forget 84 = .ok (.iconst 0, 1) := by decide +kernel
theorem dX10_forget_85 : decode cX10_forget 85 = .ok (.iastore, 1) := by decide +kernel
theorem dX10_forget_86 : decode cX10_forget 86 = .ok (.iinc 2 1, 3) := by decide +kernel
theorem dX10_forget_89 : decode cX10_forget 89 = .ok (.goto (-45), 3) := by decide +kernel
theorem dX10_forget_92 : decode cX10_forget 92 = .ok (.iconst 0, 1) := by decide +kernel
theorem dX10_forget_93 : decode cX10_forget 93 = .ok (.istore_n 2, 1) := by decide +kernel
theorem dX10_forget_94 : decode cX10_forget 94 = .ok (.iload_n 2, 1) := by decide +kernel
theorem dX10_forget_95 : decode cX10_forget 95 = .ok (.bipush 9, 2) := by decide +kernel
theorem dX10_forget_97 : decode cX10_forget 97 = .ok (.if_icmp .ge 21, 3) := by decide +kernel
theorem dX10_forget_100 : decode cX10_forget 100 = .ok (.aload_n 0, 1) := by decide +kernel
theorem dX10_forget_101 : decode cX10_forget 101 = .ok (.getfield 77, 3) := by decide +kernel
theorem dX10_forget_104 : decode cX10_forget 104 = .ok (.bipush 9, 2) := by decide +kernel
theorem dX10_forget_106 : decode cX10_forget 106 = .ok (.iload_n 1, 1) := by decide +kernel
theorem dX10_forget_107 : decode cX10_forget 107 = .ok (.imul, 1) := by decide +kernel
theorem dX10_forget_108 : decode cX10_forget 108 = .ok (.iload_n 2, 1) := by decide +kernel
theorem dX10_forget_109 : decode cX10_forget 109 = .ok (.iadd, 1) := by decide +kernel
theorem dX10_forget_110 : decode cX10_forget 110 = .ok (.iconst 0, 1) := by decide +kernel
theorem dX10_forget_111 : decode cX10_forget 111 = .ok (.iastore, 1) := by decide +kernel
theorem dX10_forget_112 : decode cX10_forget 112 = .ok (.iinc 2 1, 3) := by decide +kernel
theorem dX10_forget_115 : decode cX10_forget 115 = .ok (.goto (-21), 3) := by decide +kernel
theorem dX10_forget_118 : decode cX10_forget 118 = .ok (.return_, 1) := by decide +kernel
theorem dX10_enter_0 : decode cX10_enter 0 = .ok (.aload_n 0, 1) := by decide +kernel
theorem dX10_enter_1 : decode cX10_enter 1 = .ok (.getfield 26, 3) := by decide +kernel
theorem dX10_enter_4 : decode cX10_enter 4 = .ok (.bipush 100, 2) := by decide +kernel
theorem dX10_enter_6 : decode cX10_enter 6 = .ok (.iload_n 1, 1) := by decide +kernel
theorem dX10_enter_7 : decode cX10_enter 7 = .ok (.imul, 1) := by decide +kernel
theorem dX10_enter_8 : decode cX10_enter 8 = .ok (.iload_n 2, 1) := by decide +kernel
theorem dX10_enter_9 : decode cX10_enter 9 = .ok (.iadd, 1) := by decide +kernel
theorem dX10_enter_10 : decode cX10_enter 10 = .ok (.iconst 1, 1) := by decide +kernel
theorem dX10_enter_11 : decode cX10_enter 11 = .ok (.bastore, 1) := by decide +kernel
theorem dX10_enter_12 : decode cX10_enter 12 = .ok (.aload_n 0, 1) := by decide +kernel
theorem dX10_enter_13 : decode cX10_enter 13 = .ok (.getfield 29, 3) := by decide +kernel
theorem dX10_enter_16 : decode cX10_enter 16 = .ok (.bipush 100, 2) := by decide +kernel
theorem dX10_enter_18 : decode cX10_enter 18 = .ok (.iload_n 1, 1) := by decide +kernel
theorem dX10_enter_19 : decode cX10_enter 19 = .ok (.imul, 1) := by decide +kernel
theorem dX10_enter_20 : decode cX10_enter 20 = .ok (.iload_n 2, 1) := by decide +kernel
theorem dX10_enter_21 : decode cX10_enter 21 = .ok (.iadd, 1) := by decide +kernel
theorem dX10_enter_22 : decode cX10_enter 22 = .ok (.iload_n 3, 1) := by decide +kernel
theorem dX10_enter_23 : decode cX10_enter 23 = .ok (.iastore, 1) := by decide +kernel
theorem dX10_enter_24 : decode cX10_enter 24 = .ok (.aload_n 0, 1) := by decide +kernel
theorem dX10_enter_25 : decode cX10_enter 25 = .ok (.getfield 32, 3) := by decide +kernel
theorem dX10_enter_28 : decode cX10_enter 28 = .ok (.iload_n 1, 1) := by decide +kernel
theorem dX10_enter_29 : decode cX10_enter 29 = .ok (.iaload, 1) := by decide +kernel
theorem dX10_enter_30 : decode cX10_enter 30 = .ok (.bipush 100, 2) := by decide +kernel
theorem dX10_enter_32 : decode cX10_enter 32 = .ok (.if_icmp .ge 35, 3) := by decide +kernel
theorem dX10_enter_35 : decode cX10_enter 35 = .ok (.aload_n 0, 1) := by decide +kernel
theorem dX10_enter_36 : decode cX10_enter 36 = .ok (.getfield 26, 3) := by decide +kernel
theorem dX10_enter_39 : decode cX10_enter 39 = .ok (.bipush 100, 2) := by decide +kernel
theorem dX10_enter_41 : decode cX10_enter 41 = .ok (.iload_n 1, 1) := by decide +kernel
theorem dX10_enter_42 : decode cX10_enter 42 = .ok (.imul, 1) := by decide +kernel
theorem dX10_enter_43 : decode cX10_enter 43 = .ok (.aload_n 0, 1) := by decide +kernel
theorem dX10_enter_44 : decode cX10_enter 44 = .ok (.getfield 32, 3) := by decide +kernel
theorem dX10_enter_47 : decode cX10_enter 47 = .ok (.iload_n 1, 1) := by decide +kernel
theorem dX10_enter_48 : decode cX10_enter 48 = .ok (.iaload, 1) := by decide +kernel
theorem dX10_enter_49 : decode cX10_enter 49 = .ok (.iadd, 1) := by decide +kernel
theorem dX10_enter_50 : decode cX10_enter 50 = .ok (.baload, 1) := by decide +kernel
theorem dX10_enter_51 : decode cX10_enter 51 = .ok (.ifCond .eq 16, 3) := by decide +kernel
theorem dX10_enter_54 : decode cX10_enter 54 = .ok (.aload_n 0, 1) := by decide +kernel
theorem dX10_enter_55 : decode cX10_enter 55 = .ok (.getfield 32, 3) := by decide +kernel
theorem dX10_enter_58 : decode cX10_enter 58 = .ok (.iload_n 1, 1) := by decide +kernel
theorem dX10_enter_59 : decode cX10_enter 59 = .ok (.dup2, 1) := by decide +kernel
theorem dX10_enter_60 : decode cX10_enter 60 = .ok (.iaload, 1) := by decide +kernel
theorem dX10_enter_61 : decode cX10_enter 61 = .ok (.iconst 1, 1) := by decide +kernel
theorem dX10_enter_62 : decode cX10_enter 62 = .ok (.iadd, 1) := by decide +kernel
theorem dX10_enter_63 : decode cX10_enter 63 = .ok (.iastore, 1) := by decide +kernel
theorem dX10_enter_64 : decode cX10_enter 64 = .ok (.goto (-40), 3) := by decide +kernel
theorem dX10_enter_67 : decode cX10_enter 67 = .ok (.aload_n 0, 1) := by decide +kernel
theorem dX10_enter_68 : decode cX10_enter 68 = .ok (.getfield 44, 3) := by decide +kernel
theorem dX10_enter_71 : decode cX10_enter 71 = .ok (.iload_n 1, 1) := by decide +kernel
theorem dX10_enter_72 : decode cX10_enter 72 = .ok (.iaload, 1) := by decide +kernel
theorem dX10_enter_73 : decode cX10_enter 73 = .ok (.ifCond .eq 26, 3) := by decide +kernel
theorem dX10_enter_76 : decode cX10_enter 76 = .ok (.aload_n 0, 1) := by decide +kernel
theorem dX10_enter_77 : decode cX10_enter 77 = .ok (.iload_n 1, 1) := by decide +kernel
theorem dX10_enter_78 : decode cX10_enter 78 = .ok (.aload_n 0, 1) := by decide +kernel
theorem dX10_enter_79 : decode cX10_enter 79 = .ok (.getfield 32, 3) := by decide +kernel
theorem dX10_enter_82 : decode cX10_enter 82 = .ok (.iload_n 1, 1) := by decide +kernel
theorem dX10_enter_83 : decode cX10_enter 83 = .ok (.iaload, 1) := by decide +kernel
theorem dX10_enter_84 : decode cX10_enter 84 = .ok (.invokevirtual 130, 3) := by decide +kernel
theorem dX10_enter_87 : decode cX10_enter 87 = .ok (.iload_n 1, 1) := by decide +kernel
theorem dX10_enter_88 : decode cX10_enter 88 = .ok (.ishr, 1) := by decide +kernel
theorem dX10_enter_89 : decode cX10_enter 89 = .ok (.iconst 1, 1) := by decide +kernel
theorem dX10_enter_90 : decode cX10_enter 90 = .ok (.iand, 1) := by decide +kernel
theorem dX10_enter_91 : decode cX10_enter 91 = .ok (.ifCond .ne 8, 3) := by decide +kernel
theorem dX10_enter_94 : decode cX10_enter 94 = .ok (.aload_n 0, 1) := by decide +kernel
theorem dX10_enter_95 : decode cX10_enter 95 = .ok (.iload_n 1, 1) := by decide +kernel
theorem dX10_enter_96 : decode cX10_enter 96 = .ok (.invokevirtual 138, 3) := by decide +kernel
theorem dX10_enter_99 : decode cX10_enter 99 = .ok (.return_, 1) := by decide +kernel
theorem dX10_send_0 : decode cX10_send 0 = .ok (.iload_n 1, 1) := by decide +kernel
theorem dX10_send_1 : decode cX10_send 1 = .ok (.iload_n 2, 1) := by decide +kernel
theorem dX10_send_2 : decode cX10_send 2 = .ok (.if_icmp .ne 7, 3) := by decide +kernel
theorem dX10_send_5 : decode cX10_send 5 = .ok (.iconst 1, 1) := by decide +kernel
theorem dX10_send_6 : decode cX10_send 6 = .ok (.goto 4, 3) := by decide +kernel
theorem dX10_send_9 : decode cX10_send 9 = .ok (.iconst 0, 1) := by decide +kernel
theorem dX10_send_10 : decode cX10_send 10 = .ok (.istore 7, 2) := by decide +kernel
theorem dX10_send_12 : decode cX10_send 12 = .ok (.iload 7, 2) := by decide +kernel
theorem dX10_send_14 : decode cX10_send 14 = .ok (.ifCond .ne 25, 3) := by decide +kernel
theorem dX10_send_17 : decode cX10_send 17 = .ok (.aload_n 0, 1) := by decide +kernel
theorem dX10_send_18 : decode cX10_send 18 = .ok (.getfield 142, 3) := by decide +kernel
theorem dX10_send_21 : decode cX10_send 21 = .ok (.sipush 300, 3) := by decide +kernel
theorem dX10_send_24 : decode cX10_send 24 = .ok (.if_icmp .ne 15, 3) := by decide +kernel
theorem dX10_send_27 : decode cX10_send 27 = .ok (.aload_n 0, 1) := by decide +kernel
theorem dX10_send_28 : decode cX10_send 28 = .ok (.dup, 1) := by decide +kernel
theorem dX10_send_29 : decode cX10_send 29 = .ok (.getfield 145, 3) := by decide +kernel
theorem dX10_send_32 : decode cX10_send 32 = .ok (.iconst 1, 1) := by decide +kernel
theorem dX10_send_33 : decode cX10_send 33 = .ok (.iadd, 1) := by decide +kernel
theorem dX10_send_34 : decode cX10_send 34 = .ok (.putfield 145, 3) := by decide +kernel
theorem dX10_send_37 : decode cX10_send 37 = .ok (.iconst (-1), 1) := by decide +kernel
theorem dX10_send_38 : decode cX10_send 38 = .ok (.ireturn, 1) := by decide +kernel
theorem dX10_send_39 : decode cX10_send 39 = .ok (.iconst 0, 1) := by decide +kernel
theorem dX10_send_40 : decode cX10_send 40 = .ok (.istore 8, 2) := by decide +kernel
theorem dX10_send_42 : decode cX10_send 42 = .ok (.aload_n 0, 1) := by decide +kernel
theorem dX10_send_43 : decode cX10_send 43 = .ok (.getfield 92, 3) := by decide +kernel
theorem dX10_send_46 : decode cX10_send 46 = .ok (.iload 8, 2) := by decide +kernel
theorem dX10_send_48 : decode cX10_send 48 = .ok (.baload, 1) := by decide +kernel
theorem dX10_send_49 : decode cX10_send 49 = .ok (.ifCond .eq 9, 3) := by decide +kernel
theorem dX10_send_52 : decode cX10_send 52 = .ok (.iinc 8 1, 3) := by decide +kernel
theorem dX10_send_55 : decode cX10_send 55 = .ok (.goto (-13), 3) := by decide +kernel
theorem dX10_send_58 : decode cX10_send 58 = .ok (.aload_n 0, 1) := by decide +kernel
theorem dX10_send_59 : decode cX10_send 59 = .ok (.getfield 92, 3) := by decide +kernel
theorem dX10_send_62 : decode cX10_send 62 = .ok (.iload 8, 2) := by decide +kernel
theorem dX10_send_64 : decode cX10_send 64 = .ok (.iconst 1, 1) := by decide +kernel
theorem dX10_send_65 : decode cX10_send 65 = .ok (.bastore, 1) := by decide +kernel
theorem dX10_send_66 : decode cX10_send 66 = .ok (.aload_n 0, 1) := by decide +kernel
theorem dX10_send_67 : decode cX10_send 67 = .ok (.getfield 95, 3) := by decide +kernel
theorem dX10_send_70 : decode cX10_send 70 = .ok (.iload 8, 2) := by decide +kernel
theorem dX10_send_72 : decode cX10_send 72 = .ok (.iload_n 1, 1) := by decide +kernel
theorem dX10_send_73 : decode cX10_send 73 = .ok (.iastore, 1) := by decide +kernel
theorem dX10_send_74 : decode cX10_send 74 = .ok (.aload_n 0, 1) := by decide +kernel
theorem dX10_send_75 : decode cX10_send 75 = .ok (.getfield 98, 3) := by decide +kernel
theorem dX10_send_78 : decode cX10_send 78 = .ok (.iload 8, 2) := by decide +kernel
theorem dX10_send_80 : decode cX10_send 80 = .ok (.iload_n 2, 1) := by decide +kernel
theorem dX10_send_81 : decode cX10_send 81 = .ok (.iastore, 1) := by decide +kernel
theorem dX10_send_82 : decode cX10_send 82 = .ok (.aload_n 0, 1) := by decide +kernel
theorem dX10_send_83 : decode cX10_send 83 = .ok (.getfield 101, 3) := by decide +kernel
theorem dX10_send_86 : decode cX10_send 86 = .ok (.iload 8, 2) := by decide +kernel
theorem dX10_send_88 : decode cX10_send 88 = .ok (.iload_n 3, 1) := by decide +kernel
theorem dX10_send_89 : decode cX10_send 89 = .ok (.iastore, 1) := by decide +kernel
theorem dX10_send_90 : decode cX10_send 90 = .ok (.aload_n 0, 1) := by decide +kernel
theorem dX10_send_91 : decode cX10_send 91 = .ok (.getfield 104, 3) := by decide +kernel
theorem dX10_send_94 : decode cX10_send 94 = .ok (.iload 8, 2) := by decide +kernel
theorem dX10_send_96 : decode cX10_send 96 = .ok (.iload 4, 2) := by decide +kernel
theorem dX10_send_98 : decode cX10_send 98 = .ok (.iastore, 1) := by decide +kernel
theorem dX10_send_99 : decode cX10_send 99 = .ok (.aload_n 0, 1) := by decide +kernel
theorem dX10_send_100 : decode cX10_send 100 = .ok (.getfield 107, 3) := by decide +kernel
theorem dX10_send_103 : decode cX10_send 103 = .ok (.iload 8, 2) := by decide +kernel
theorem dX10_send_105 : decode cX10_send 105 = .ok (.iload 5, 2) := by decide +kernel
theorem dX10_send_107 : decode cX10_send 107 = .ok (.iastore, 1) := by decide +kernel
theorem dX10_send_108 : decode cX10_send 108 = .ok (.aload_n 0, 1) := by decide +kernel
theorem dX10_send_109 : decode cX10_send 109 = .ok (.getfield 110, 3) := by decide +kernel
theorem dX10_send_112 : decode cX10_send 112 = .ok (.iload 8, 2) := by decide +kernel
theorem dX10_send_114 : decode cX10_send 114 = .ok (.iload 6, 2) := by decide +kernel
theorem dX10_send_116 : decode cX10_send 116 = .ok (.iastore, 1) := by decide +kernel
theorem dX10_send_117 : decode cX10_send 117 = .ok (.iload 7, 2) := by decide +kernel
theorem dX10_send_119 : decode cX10_send 119 = .ok (.ifCond .eq 27, 3) := by decide +kernel
theorem dX10_send_122 : decode cX10_send 122 = .ok (.aload_n 0, 1) := by decide +kernel
theorem dX10_send_123 : decode cX10_send 123 = .ok (.getfield 89, 3) := by decide +kernel
theorem dX10_send_126 : decode cX10_send 126 = .ok (.aload_n 0, 1) := by decide +kernel
theorem dX10_send_127 : decode cX10_send 127 = .ok (.getfield 148, 3) := by decide +kernel
theorem dX10_send_130 : decode cX10_send 130 = .ok (.iload 8, 2) := by decide +kernel
theorem dX10_send_132 : decode cX10_send 132 = .ok (.iastore, 1) := by decide +kernel
theorem dX10_send_133 : decode cX10_send 133 = .ok (.aload_n 0, 1) := by decide +kernel
theorem dX10_send_134 : decode cX10_send 134 = .ok (.dup, 1) := by decide +kernel
theorem dX10_send_135 : decode cX10_send 135 = .ok (.getfield 148, 3) := by decide +kernel
theorem dX10_send_138 : decode cX10_send 138 = .ok (.iconst 1, 1) := by decide +kernel
theorem dX10_send_139 : decode cX10_send 139 = .ok (.iadd, 1) := by decide +kernel
theorem dX10_send_140 : decode cX10_send 140 = .ok (.putfield 148, 3) := by decide +kernel
theorem dX10_send_143 : decode cX10_send 143 = .ok (.goto 24, 3) := by decide +kernel
theorem dX10_send_146 : decode cX10_send 146 = .ok (.aload_n 0, 1) := by decide +kernel
theorem dX10_send_147 : decode cX10_send 147 = .ok (.getfield 86, 3) := by decide +kernel
theorem dX10_send_150 : decode cX10_send 150 = .ok (.aload_n 0, 1) := by decide +kernel
theorem dX10_send_151 : decode cX10_send 151 = .ok (.getfield 142, 3) := by decide +kernel
theorem dX10_send_154 : decode cX10_send 154 = .ok (.iload 8, 2) := by decide +kernel
theorem dX10_send_156 : decode cX10_send 156 = .ok (.iastore, 1) := by decide +kernel
theorem dX10_send_157 : decode cX10_send 157 = .ok (.aload_n 0, 1) := by decide +kernel
theorem dX10_send_158 : decode cX10_send 158 = .ok (.dup, 1) := by decide +kernel
theorem dX10_send_159 : decode cX10_send 159 = .ok (.getfield 142, 3) := by decide +kernel
theorem dX10_send_162 : decode cX10_send 162 = .ok (.iconst 1, 1) := by decide +kernel
theorem dX10_send_163 : decode cX10_send 163 = .ok (.iadd, 1) := by decide +kernel
theorem dX10_send_164 : decode cX10_send 164 = .ok (.putfield 142, 3) := by decide +kernel
theorem dX10_send_167 : decode cX10_send 167 = .ok (.iload 8, 2) := by decide +kernel
theorem dX10_send_169 : decode cX10_send 169 = .ok (.ireturn, 1) := by decide +kernel
theorem dX10_sendPromise_0 : decode cX10_sendPromise 0 = .ok (.aload_n 0, 1) := by decide +kernel
theorem dX10_sendPromise_1 : decode cX10_sendPromise 1 = .ok (.iload_n 1, 1) := by decide +kernel
theorem dX10_sendPromise_2 : decode cX10_sendPromise 2 = .ok (.iload_n 2, 1) := by decide +kernel
theorem dX10_sendPromise_3 : decode cX10_sendPromise 3 = .ok (.iconst 2, 1) := by decide +kernel
theorem dX10_sendPromise_4 : decode cX10_sendPromise 4 = .ok (.iload_n 3, 1) := by decide +kernel
theorem dX10_sendPromise_5 : decode cX10_sendPromise 5 = .ok (.aload_n 0, 1) := by decide +kernel
theorem dX10_sendPromise_6 : decode cX10_sendPromise 6 = .ok (.getfield 17, 3) := by decide +kernel
theorem dX10_sendPromise_9 : decode cX10_sendPromise 9 = .ok (.iload_n 1, 1) := by decide +kernel
theorem dX10_sendPromise_10 : decode cX10_sendPromise 10 = .ok (.iaload, 1) := by decide +kernel
theorem dX10_sendPromise_11 : decode cX10_sendPromise 11 = .ok (.iconst 0, 1) := by decide +kernel
theorem dX10_sendPromise_12 : decode cX10_sendPromise 12 = .ok (.invokevirtual 151, 3) := by decide +kernel
theorem dX10_sendPromise_15 : decode cX10_sendPromise 15 = .ok (.istore 4, 2) := by decide +kernel
theorem dX10_sendPromise_17 : decode cX10_sendPromise 17 = .ok (.iload 4, 2) := by decide +kernel
theorem dX10_sendPromise_19 : decode cX10_sendPromise 19 = .ok (.iconst (-1), 1) := by decide +kernel
theorem dX10_sendPromise_20 : decode cX10_sendPromise 20 = .ok (.if_icmp .ne 4, 3) := by decide +kernel
theorem dX10_sendPromise_23 : decode cX10_sendPromise 23 = .ok (.return_, 1) := by decide +kernel
theorem dX10_sendPromise_24 : decode cX10_sendPromise 24 = .ok (.iconst 0, 1) := by decide +kernel
theorem dX10_sendPromise_25 : decode cX10_sendPromise 25 = .ok (.istore 5, 2) := by decide +kernel
theorem dX10_sendPromise_27 : decode cX10_sendPromise 27 = .ok (.iload 5, 2) := by decide +kernel
theorem dX10_sendPromise_29 : decode cX10_sendPromise 29 = .ok (.bipush 100, 2) := by decide +kernel
theorem dX10_sendPromise_31 : decode cX10_sendPromise 31 = .ok (.if_icmp .ge 120, 3) := by decide +kernel
theorem dX10_sendPromise_34 : decode cX10_sendPromise 34 = .ok (.iload_n 1, 1) := by decide +kernel
theorem dX10_sendPromise_35 : decode cX10_sendPromise 35 = .ok (.aload_n 0, 1) := by decide +kernel
theorem dX10_sendPromise_36 : decode cX10_sendPromise 36 = .ok (.getfield 120, 3) := by decide +kernel
theorem dX10_sendPromise_39 : decode cX10_sendPromise 39 = .ok (.if_icmp .ge 22, 3) := by decide +kernel
theorem dX10_sendPromise_42 : decode cX10_sendPromise 42 = .ok (.aload_n 0, 1) := by decide +kernel
theorem dX10_sendPromise_43 : decode cX10_sendPromise 43 = .ok (.getfield 26, 3) := by decide +kernel
theorem dX10_sendPromise_46 : decode cX10_sendPromise 46 = .ok (.bipush 100, 2) := by decide +kernel
theorem dX10_sendPromise_48 : decode cX10_sendPromise 48 = .ok (.iload_n 1, 1) := by decide +kernel
theorem dX10_sendPromise_49 : decode cX10_sendPromise 49 = .ok (.imul, 1) := by decide +kernel
theorem dX10_sendPromise_50 : decode cX10_sendPromise 50 = .ok (.iload 5, 2) := by decide +kernel
theorem dX10_sendPromise_52 : decode cX10_sendPromise 52 = .ok (.iadd, 1) := by decide +kernel
theorem dX10_sendPromise_53 : decode cX10_sendPromise 53 = .ok (.baload, 1) := by decide +kernel
theorem dX10_sendPromise_54 : decode cX10_sendPromise 54 = .ok (.ifCond .eq 7, 3) := by decide +kernel
theorem dX10_sendPromise_57 : decode cX10_sendPromise 57 = .ok (.iconst 1, 1) := by decide +kernel
theorem dX10_sendPromise_58 : decode cX10_sendPromise 58 = .ok (.goto 4, 3) := by decide +kernel
theorem dX10_sendPromise_61 : decode cX10_sendPromise 61 = .ok (.iconst 0, 1) := by decide +kernel
theorem dX10_sendPromise_62 : decode cX10_sendPromise 62 = .ok (.istore 6, 2) := by decide +kernel
theorem dX10_sendPromise_64 : decode cX10_sendPromise 64 = .ok (.aload_n 0, 1) := by decide +kernel
theorem dX10_sendPromise_65 : decode cX10_sendPromise 65 = .ok (.getfield 114, 3) := by decide +kernel
theorem dX10_sendPromise_68 : decode cX10_sendPromise 68 = .ok (.bipush 100, 2) := by decide +kernel
theorem dX10_sendPromise_70 : decode cX10_sendPromise 70 = .ok (.iload 4, 2) := by decide +kernel
theorem dX10_sendPromise_72 : decode cX10_sendPromise 72 = .ok (.imul, 1) := by decide +kernel
theorem dX10_sendPromise_73 : decode cX10_sendPromise 73 = .ok (.iload 5, 2) := by decide +kernel
theorem dX10_sendPromise_75 : decode cX10_sendPromise 75 = .ok (.iadd, 1) := by decide +kernel
theorem dX10_sendPromise_76 : decode cX10_sendPromise 76 = .ok (.iload 6, 2) := by decide +kernel
theorem dX10_sendPromise_78 : decode cX10_sendPromise 78 = .ok (.ifCond .eq 9, 3) := by decide +kernel
theorem dX10_sendPromise_81 : decode cX10_sendPromise 81 = .ok (.sipush 10000, 3) := by decide +kernel
theorem dX10_sendPromise_84 : decode cX10_sendPromise 84 = .ok (.goto 15, 3) := by decide +kernel
theorem dX10_sendPromise_87 : decode cX10_sendPromise 87 = .ok (.aload_n 0, 1) := by decide +kernel
theorem dX10_sendPromise_88 : decode cX10_sendPromise 88 = .ok (.getfield 20, 3) := by decide +kernel
theorem dX10_sendPromise_91 : decode cX10_sendPromise 91 = .ok (.bipush 100, 2) := by decide +kernel
theorem dX10_sendPromise_93 : decode cX10_sendPromise 93 = .ok (.iload_n 1, 1) := by decide +kernel
theorem dX10_sendPromise_94 : decode cX10_sendPromise 94 = .ok (.imul, 1) := by decide +kernel
theorem dX10_sendPromise_95 : decode cX10_sendPromise 95 = .ok (.iload 5, 2) := by decide +kernel
theorem dX10_sendPromise_97 : decode cX10_sendPromise 97 = .ok (.iadd, 1) := by decide +kernel
theorem dX10_sendPromise_98 : decode cX10_sendPromise 98 = .ok (.iaload, 1) := by decide +kernel
theorem dX10_sendPromise_99 : decode cX10_sendPromise 99 = .ok (.iastore, 1) := by decide +kernel
theorem dX10_sendPromise_100 : decode cX10_sendPromise 100 = .ok (.aload_n 0, 1) := by decide +kernel
theorem dX10_sendPromise_101 : decode cX10_sendPromise 101 = .ok (.getfield 117, 3) := by decide +kernel
theorem dX10_sendPromise_104 : decode cX10_sendPromise 104 = .ok (.bipush 100, 2) := by decide +kernel
theorem dX10_sendPromise_106 : decode cX10_sendPromise 106 = .ok (.iload 4, 2) := by decide +kernel
theorem dX10_sendPromise_108 : decode cX10_sendPromise 108 = .ok (.imul, 1) := by decide +kernel
theorem dX10_sendPromise_109 : decode cX10_sendPromise 109 = .ok (.iload 5, 2) := by decide +kernel
theorem dX10_sendPromise_111 : decode cX10_sendPromise 111 = .ok (.iadd, 1) := by decide +kernel
theorem dX10_sendPromise_112 : decode cX10_sendPromise 112 = .ok (.iload 6, 2) := by decide +kernel
theorem dX10_sendPromise_114 : decode cX10_sendPromise 114 = .ok (.ifCond .eq 18, 3) := by decide +kernel
theorem dX10_sendPromise_117 : decode cX10_sendPromise 117 = .ok (.aload_n 0, 1) := by decide +kernel
theorem dX10_sendPromise_118 : decode cX10_sendPromise 118 = .ok (.getfield 29, 3) := by decide +kernel
theorem dX10_sendPromise_121 : decode cX10_sendPromise 121 = .ok (.bipush 100, 2) := by decide +kernel
theorem dX10_sendPromise_123 : decode cX10_sendPromise 123 = .ok (.iload_n 1, 1) := by decide +kernel
theorem dX10_sendPromise_124 : decode cX10_sendPromise 124 = .ok (.imul, 1) := by decide +kernel
theorem dX10_sendPromise_125 : decode cX10_sendPromise 125 = .ok (.iload 5, 2) := by decide +kernel
theorem dX10_sendPromise_127 : decode cX10_sendPromise 127 = .ok (.iadd, 1) := by decide +kernel
theorem dX10_sendPromise_128 : decode cX10_sendPromise 128 = .ok (.iaload, 1) := by decide +kernel
theorem dX10_sendPromise_129 : decode cX10_sendPromise 129 = .ok (.goto 15, 3) := by decide +kernel
theorem dX10_sendPromise_132 : decode cX10_sendPromise 132 = .ok (.aload_n 0, 1) := by decide +kernel
theorem dX10_sendPromise_133 : decode cX10_sendPromise 133 = .ok (.getfield 23, 3) := by decide +kernel
theorem dX10_sendPromise_136 : decode cX10_sendPromise 136 = .ok (.bipush 100, 2) := by decide +kernel
theorem dX10_sendPromise_138 : decode cX10_sendPromise 138 = .ok (.iload_n 1, 1) := by decide +kernel
theorem dX10_sendPromise_139 : decode cX10_sendPromise 139 = .ok (.imul, 1) := by decide +kernel
theorem dX10_sendPromise_140 : decode cX10_sendPromise 140 = .ok (.iload 5, 2) := by decide +kernel
theorem dX10_sendPromise_142 : decode cX10_sendPromise 142 = .ok (.iadd, 1) := by decide +kernel
theorem dX10_sendPromise_143 : decode cX10_sendPromise 143 = .ok (.iaload, 1) := by decide +kernel
theorem dX10_sendPromise_144 : decode cX10_sendPromise 144 = .ok (.iastore, 1) := by decide +kernel
theorem dX10_sendPromise_145 : decode cX10_sendPromise 145 = .ok (.iinc 5 1, 3) := by decide +kernel
theorem dX10_sendPromise_148 : decode cX10_sendPromise 148 = .ok (.goto (-121), 3) := by decide +kernel
theorem dX10_sendPromise_151 : decode cX10_sendPromise 151 = .ok (.return_, 1) := by decide +kernel
theorem dX10_sendTo_0 : decode cX10_sendTo 0 = .ok (.iconst 0, 1) := by decide +kernel
theorem dX10_sendTo_1 : decode cX10_sendTo 1 = .ok (.istore 7, 2) := by decide +kernel
theorem dX10_sendTo_3 : decode cX10_sendTo 3 = .ok (.iload 7, 2) := by decide +kernel
theorem dX10_sendTo_5 : decode cX10_sendTo 5 = .ok (.aload_n 0, 1) := by decide +kernel
theorem dX10_sendTo_6 : decode cX10_sendTo 6 = .ok (.getfield 124, 3) := by decide +kernel
theorem dX10_sendTo_9 : decode cX10_sendTo 9 = .ok (.if_icmp .ge 66, 3) := by decide +kernel
theorem dX10_sendTo_12 : decode cX10_sendTo 12 = .ok (.iload_n 2, 1) := by decide +kernel
theorem dX10_sendTo_13 : decode cX10_sendTo 13 = .ok (.iload 7, 2) := by decide +kernel
theorem dX10_sendTo_15 : decode cX10_sendTo 15 = .ok (.ishr, 1) := by decide +kernel
theorem dX10_sendTo_16 : decode cX10_sendTo 16 = .ok (.iconst 1, 1) := by decide +kernel
theorem dX10_sendTo_17 : decode cX10_sendTo 17 = .ok (.iand, 1) := by decide +kernel
theorem dX10_sendTo_18 : decode cX10_sendTo 18 = .ok (.iconst 1, 1) := by decide +kernel
theorem dX10_sendTo_19 : decode cX10_sendTo 19 = .ok (.if_icmp .ne 50, 3) := by decide +kernel
theorem dX10_sendTo_22 : decode cX10_sendTo 22 = .ok (.iload 7, 2) := by decide +kernel
theorem dX10_sendTo_24 : decode cX10_sendTo 24 = .ok (.aload_n 0, 1) := by decide +kernel
theorem dX10_sendTo_25 : decode cX10_sendTo 25 = .ok (.getfield 120, 3) := by decide +kernel
theorem dX10_sendTo_28 : decode cX10_sendTo 28 = .ok (.if_icmp .lt 26, 3) := by decide +kernel
theorem dX10_sendTo_31 : decode cX10_sendTo 31 = .ok (.iload_n 3, 1) := by decide +kernel
theorem dX10_sendTo_32 : decode cX10_sendTo 32 = .ok (.bipush 7, 2) := by decide +kernel
theorem dX10_sendTo_34 : decode cX10_sendTo 34 = .ok (.if_icmp .eq 20, 3) := by decide +kernel
theorem dX10_sendTo_37 : decode cX10_sendTo 37 = .ok (.aload_n 0, 1) := by decide +kernel
theorem dX10_sendTo_38 : decode cX10_sendTo 38 = .ok (.getfield 83, 3) := by decide +kernel
theorem dX10_sendTo_41 : decode cX10_sendTo 41 = .ok (.iload_n 1, 1) := by decide +kernel
theorem dX10_sendTo_42 : decode cX10_sendTo 42 = .ok (.aload_n 0, 1) := by decide +kernel
theorem dX10_sendTo_43 : decode cX10_sendTo 43 = .ok (.getfield 83, 3) := by decide +kernel
theorem dX10_sendTo_46 : decode cX10_sendTo 46 = .ok (.iload_n 1, 1) := by decide +kernel
theorem dX10_sendTo_47 : decode cX10_sendTo 47 = .ok (.iaload, 1) := by decide +kernel
theorem dX10_sendTo_48 : decode cX10_sendTo 48 = .ok (.iconst 1, 1) := by decide +kernel
theorem dX10_sendTo_49 : decode cX10_sendTo 49 = .ok (.iload 7, 2) := by decide +kernel
theorem dX10_sendTo_51 : decode cX10_sendTo 51 = .ok (.ishl, 1) := by decide +kernel
theorem dX10_sendTo_52 : decode cX10_sendTo 52 = .ok (.ior, 1) := by decide +kernel
theorem dX10_sendTo_53 : decode cX10_sendTo 53 = .ok (.iastore, 1) := by decide +kernel
theorem dX10_sendTo_54 : decode cX10_sendTo 54 = .ok (.aload_n 0, 1) := by decide +kernel
theorem dX10_sendTo_55 : decode cX10_sendTo 55 = .ok (.iload_n 1, 1) := by decide +kernel
theorem dX10_sendTo_56 : decode cX10_sendTo 56 = .ok (.iload 7, 2) := by decide +kernel
theorem dX10_sendTo_58 : decode cX10_sendTo 58 = .ok (.iload_n 3, 1) := by decide +kernel
theorem dX10_sendTo_59 : decode cX10_sendTo 59 = .ok (.iload 4, 2) := by decide +kernel
theorem dX10_sendTo_61 : decode cX10_sendTo 61 = .ok (.iload 5, 2) := by decide +kernel
theorem dX10_sendTo_63 : decode cX10_sendTo 63 = .ok (.iload 6, 2) := by decide +kernel
theorem dX10_sendTo_65 : decode cX10_sendTo 65 = .ok (.invokevirtual 151, 3) := by decide +kernel
theorem dX10_sendTo_68 : decode cX10_sendTo 68 = .ok (.pop, 1) := by decide +kernel
theorem dX10_sendTo_69 : decode cX10_sendTo 69 = .ok (.iinc 7 1, 3) := by decide +kernel
theorem dX10_sendTo_72 : decode cX10_sendTo 72 = .ok (.goto (-69), 3) := by decide +kernel
theorem dX10_sendTo_75 : decode cX10_sendTo 75 = .ok (.return_, 1) := by decide +kernel
theorem dX10_handle_0 : decode cX10_handle 0 = .ok (.aload_n 0, 1) := by decide +kernel
theorem dX10_handle_1 : decode cX10_handle 1 = .ok (.getfield 98, 3) := by decide +kernel
theorem dX10_handle_4 : decode cX10_handle 4 = .ok (.iload_n 1, 1) := by decide +kernel
theorem dX10_handle_5 : decode cX10_handle 5 = .ok (.iaload, 1) := by decide +kernel
theorem dX10_handle_6 : decode cX10_handle 6 = .ok (.istore_n 2, 1) := by decide +kernel
theorem dX10_handle_7 : decode cX10_handle 7 = .ok (.aload_n 0, 1) := by decide +kernel
theorem dX10_handle_8 : decode cX10_handle 8 = .ok (.getfield 95, 3) := by decide +kernel
theorem dX10_handle_11 : decode cX10_handle 11 = .ok (.iload_n 1, 1) := by decide +kernel
theorem dX10_handle_12 : decode cX10_handle 12 = .ok (.iaload, 1) := by decide +kernel
theorem dX10_handle_13 : decode cX10_handle 13 = .ok (.istore_n 3, 1) := by decide +kernel
theorem dX10_handle_14 : decode cX10_handle 14 = .ok (.aload_n 0, 1) := by decide +kernel
theorem dX10_handle_15 : decode cX10_handle 15 = .ok (.getfield 104, 3) := by decide +kernel
theorem dX10_handle_18 : decode cX10_handle 18 = .ok (.iload_n 1, 1) := by decide +kernel
theorem dX10_handle_19 : decode cX10_handle 19 = .ok (.iaload, 1) := by decide +kernel
theorem dX10_handle_20 : decode cX10_handle 20 = .ok (.istore 4, 2) := by decide +kernel
theorem dX10_handle_22 : decode cX10_handle 22 = .ok (.aload_n 0, 1) := by decide +kernel
theorem dX10_handle_23 : decode cX10_handle 23 = .ok (.getfield 107, 3) := by decide +kernel
theorem dX10_handle_26 : decode cX10_handle 26 = .ok (.iload_n 1, 1) := by decide +kernel
theorem dX10_handle_27 : decode cX10_handle 27 = .ok (.iaload, 1) := by decide +kernel
theorem dX10_handle_28 : decode cX10_handle 28 = .ok (.istore 5, 2) := by decide +kernel
theorem dX10_handle_30 : decode cX10_handle 30 = .ok (.aload_n 0, 1) := by decide +kernel
theorem dX10_handle_31 : decode cX10_handle 31 = .ok (.getfield 41, 3) := by decide +kernel
theorem dX10_handle_34 : decode cX10_handle 34 = .ok (.iload_n 2, 1) := by decide +kernel
theorem dX10_handle_35 : decode cX10_handle 35 = .ok (.dup2, 1) := by decide +kernel
theorem dX10_handle_36 : decode cX10_handle 36 = .ok (.iaload, 1) := by decide +kernel
theorem dX10_handle_37 : decode cX10_handle 37 = .ok (.iconst 1, 1) := by decide +kernel
theorem dX10_handle_38 : decode cX10_handle 38 = .ok (.iadd, 1) := by decide +kernel
theorem dX10_handle_39 : decode cX10_handle 39 = .ok (.iastore, 1) := by decide +kernel
theorem dX10_handle_40 : decode cX10_handle 40 = .ok (.iload_n 2, 1) := by decide +kernel
theorem dX10_handle_41 : decode cX10_handle 41 = .ok (.aload_n 0, 1) := by decide +kernel
theorem dX10_handle_42 : decode cX10_handle 42 = .ok (.getfield 120, 3) := by decide +kernel
theorem dX10_handle_45 : decode cX10_handle 45 = .ok (.if_icmp .ge 28, 3) := by decide +kernel
theorem dX10_handle_48 : decode cX10_handle 48 = .ok (.aload_n 0, 1) := by decide +kernel
theorem dX10_handle_49 : decode cX10_handle 49 = .ok (.getfield 44, 3) := by decide +kernel
theorem dX10_handle_52 : decode cX10_handle 52 = .ok (.iload_n 2, 1) := by decide +kernel
theorem dX10_handle_53 : decode cX10_handle 53 = .ok (.iaload, 1) := by decide +kernel
theorem dX10_handle_54 : decode cX10_handle 54 = .ok (.ifCond .eq 19, 3) := by decide +kernel
theorem dX10_handle_57 : decode cX10_handle 57 = .ok (.iload 4, 2) := by decide +kernel
theorem dX10_handle_59 : decode cX10_handle 59 = .ok (.aload_n 0, 1) := by decide +kernel
theorem dX10_handle_60 : decode cX10_handle 60 = .ok (.getfield 47, 3) := by decide +kernel
theorem dX10_handle_63 : decode cX10_handle 63 = .ok (.iload_n 2, 1) := by decide +kernel
theorem dX10_handle_64 : decode cX10_handle 64 = .ok (.iaload, 1) := by decide +kernel
theorem dX10_handle_65 : decode cX10_handle 65 = .ok (.if_icmp .le 8, 3) := by decide +kernel
theorem dX10_handle_68 : decode cX10_handle 68 = .ok (.aload_n 0, 1) := by decide +kernel
theorem dX10_handle_69 : decode cX10_handle 69 = .ok (.iload_n 2, 1) := by decide +kernel
theorem dX10_handle_70 : decode cX10_handle 70 = .ok (.invokevirtual 138, 3) := by decide +kernel
theorem dX10_handle_73 : decode cX10_handle 73 = .ok (.aload_n 0, 1) := by decide +kernel
theorem dX10_handle_74 : decode cX10_handle 74 = .ok (.getfield 101, 3) := by decide +kernel
theorem dX10_handle_77 : decode cX10_handle 77 = .ok (.iload_n 1, 1) := by decide +kernel
theorem dX10_handle_78 : decode cX10_handle 78 = .ok (.iaload, 1) := by decide +kernel
theorem dX10_handle_79 : decode cX10_handle 79 = .ok (.tableswitch 399 1 7 #[41, 54, 92, 190, 230, 271, 321], 41) := by decide +kernel
theorem dX10_handle_120 : decode cX10_handle 120 = .ok (.aload_n 0, 1) := by decide +kernel
theorem dX10_handle_121 : decode cX10_handle 121 = .ok (.iload_n 2, 1) := by decide +kernel
theorem dX10_handle_122 : decode cX10_handle 122 = .ok (.iload_n 3, 1) := by decide +kernel
theorem dX10_handle_123 : decode cX10_handle 123 = .ok (.iload 4, 2) := by decide +kernel
theorem dX10_handle_125 : decode cX10_handle 125 = .ok (.iload 5, 2) := by decide +kernel
theorem dX10_handle_127 : decode cX10_handle 127 = .ok (.invokevirtual 155, 3) := by decide +kernel
theorem dX10_handle_130 : decode cX10_handle 130 = .ok (.goto 348, 3) := by decide +kernel
theorem dX10_handle_133 : decode cX10_handle 133 = .ok (.iload_n 2, 1) := by decide +kernel
theorem dX10_handle_134 : decode cX10_handle 134 = .ok (.aload_n 0, 1) := by decide +kernel
theorem dX10_handle_135 : decode cX10_handle 135 = .ok (.getfield 120, 3) := by decide +kernel
theorem dX10_handle_138 : decode cX10_handle 138 = .ok (.if_icmp .ge 340, 3) := by decide +kernel
theorem dX10_handle_141 : decode cX10_handle 141 = .ok (.aload_n 0, 1) := by decide +kernel
theorem dX10_handle_142 : decode cX10_handle 142 = .ok (.getfield 44, 3) := by decide +kernel
theorem dX10_handle_145 : decode cX10_handle 145 = .ok (.iload_n 2, 1) := by decide +kernel
theorem dX10_handle_146 : decode cX10_handle 146 = .ok (.iaload, 1) := by decide +kernel
theorem dX10_handle_147 : decode cX10_handle 147 = .ok (.ifCond .eq 331, 3) := by decide +kernel
theorem dX10_handle_150 : decode cX10_handle 150 = .ok (.aload_n 0, 1) := by decide +kernel
theorem dX10_handle_151 : decode cX10_handle 151 = .ok (.getfield 47, 3) := by decide +kernel
theorem dX10_handle_154 : decode cX10_handle 154 = .ok (.iload_n 2, 1) := by decide +kernel
theorem dX10_handle_155 : decode cX10_handle 155 = .ok (.iaload, 1) := by decide +kernel
theorem dX10_handle_156 : decode cX10_handle 156 = .ok (.iload 4, 2) := by decide +kernel
theorem dX10_handle_158 : decode cX10_handle 158 = .ok (.if_icmp .ne 320, 3) := by decide +kernel
theorem dX10_handle_161 : decode cX10_handle 161 = .ok (.aload_n 0, 1) := by decide +kernel
theorem dX10_handle_162 : decode cX10_handle 162 = .ok (.iload_n 2, 1) := by decide +kernel
theorem dX10_handle_163 : decode cX10_handle 163 = .ok (.iload_n 3, 1) := by decide +kernel
theorem dX10_handle_164 : decode cX10_handle 164 = .ok (.iload_n 1, 1) := by decide +kernel
theorem dX10_handle_165 : decode cX10_handle 165 = .ok (.invokevirtual 159, 3) := by decide +kernel
theorem dX10_handle_168 : decode cX10_handle 168 = .ok (.goto 310, 3) := by decide +kernel
theorem dX10_handle_171 : decode cX10_handle 171 = .ok (.iload 4, 2) := by decide +kernel
theorem dX10_handle_173 : decode cX10_handle 173 = .ok (.aload_n 0, 1) := by decide +kernel
theorem dX10_handle_174 : decode cX10_handle 174 = .ok (.getfield 13, 3) := by decide +kernel
theorem dX10_handle_177 : decode cX10_handle 177 = .ok (.iload_n 2, 1) := by decide +kernel
theorem dX10_handle_178 : decode cX10_handle 178 = .ok (.iaload, 1) := by decide +kernel
theorem dX10_handle_179 : decode cX10_handle 179 = .ok (.if_icmp .ge 23, 3) := by decide +kernel
theorem dX10_handle_182 : decode cX10_handle 182 = .ok (.aload_n 0, 1) := by decide +kernel
theorem dX10_handle_183 : decode cX10_handle 183 = .ok (.iload_n 2, 1) := by decide +kernel
theorem dX10_handle_184 : decode cX10_handle 184 = .ok (.iload_n 3, 1) := by decide +kernel
theorem dX10_handle_185 : decode cX10_handle 185 = .ok (.bipush 8, 2) := by decide +kernel
theorem dX10_handle_187 : decode cX10_handle 187 = .ok (.aload_n 0, 1) := by decide +kernel
theorem dX10_handle_188 : decode cX10_handle 188 = .ok (.getfield 13, 3) := by decide +kernel
theorem dX10_handle_191 : decode cX10_handle 191 = .ok (.iload_n 2, 1) := by decide +kernel
theorem dX10_handle_192 : decode cX10_handle 192 = .ok (.iaload, 1) := by decide +kernel
theorem dX10_handle_193 : decode cX10_handle 193 = .ok (.iconst 0, 1) := by decide +kernel
theorem dX10_handle_194 : decode cX10_handle 194 = .ok (.iconst 0, 1) := by decide +kernel
theorem dX10_handle_195 : decode cX10_handle 195 = .ok (.invokevirtual 151, 3) := by decide +kernel
theorem dX10_handle_198 : decode cX10_handle 198 = .ok (.pop, 1) := by decide +kernel
theorem dX10_handle_199 : decode cX10_handle 199 = .ok (.goto 279, 3) := by decide +kernel
theorem dX10_handle_202 : decode cX10_handle 202 = .ok (.aload_n 0, 1) := by decide +kernel
theorem dX10_handle_203 : decode cX10_handle 203 = .ok (.getfield 13, 3) := by decide +kernel
theorem dX10_handle_206 : decode cX10_handle 206 = .ok (.iload_n 2, 1) := by decide +kernel
theorem dX10_handle_207 : decode cX10_handle 207 = .ok (.iload 4, 2) := by decide +kernel
theorem dX10_handle_209 : decode cX10_handle 209 = .ok (.iastore, 1) := by decide +kernel
theorem dX10_handle_210 : decode cX10_handle 210 = .ok (.iload 5, 2) := by decide +kernel
theorem dX10_handle_212 : decode cX10_handle 212 = .ok (.aload_n 0, 1) := by decide +kernel
theorem dX10_handle_213 : decode cX10_handle 213 = .ok (.getfield 17, 3) := by decide +kernel
theorem dX10_handle_216 : decode cX10_handle 216 = .ok (.iload_n 2, 1) := by decide +kernel
theorem dX10_handle_217 : decode cX10_handle 217 = .ok (.iaload, 1) := by decide +kernel
theorem dX10_handle_218 : decode cX10_handle 218 = .ok (.if_icmp .lt 260, 3) := by decide +kernel
theorem dX10_handle_221 : decode cX10_handle 221 = .ok (.aload_n 0, 1) := by decide +kernel
theorem dX10_handle_222 : decode cX10_handle 222 = .ok (.getfield 20, 3) := by decide +kernel
theorem dX10_handle_225 : decode cX10_handle 225 = .ok (.bipush 100, 2) := by decide +kernel
theorem dX10_handle_227 : decode cX10_handle 227 = .ok (.iload_n 2, 1) := by decide +kernel
theorem dX10_handle_228 : decode cX10_handle 228 = .ok (.imul, 1) := by decide +kernel
theorem dX10_handle_229 : decode cX10_handle 229 = .ok (.iload 5, 2) := by decide +kernel
theorem dX10_handle_231 : decode cX10_handle 231 = .ok (.iadd, 1) := by decide +kernel
theorem dX10_handle_232 : decode cX10_handle 232 = .ok (.iload 4, 2) := by decide +kernel
theorem dX10_handle_234 : decode cX10_handle 234 = .ok (.iastore, 1) := by decide +kernel
theorem dX10_handle_235 : decode cX10_handle 235 = .ok (.aload_n 0, 1) := by decide +kernel
theorem dX10_handle_236 : decode cX10_handle 236 = .ok (.getfield 23, 3) := by decide +kernel
theorem dX10_handle_239 : decode cX10_handle 239 = .ok (.bipush 100, 2) := by decide +kernel
theorem dX10_handle_241 : decode cX10_handle 241 = .ok (.iload_n 2, 1) := by decide +kernel
theorem dX10_handle_242 : decode cX10_handle 242 = .ok (.imul, 1) := by decide +kernel
theorem dX10_handle_243 : decode cX10_handle 243 = .ok (.iload 5, 2) := by decide +kernel
theorem dX10_handle_245 : decode cX10_handle 245 = .ok (.iadd, 1) := by decide +kernel
theorem dX10_handle_246 : decode cX10_handle 246 = .ok (.aload_n 0, 1) := by decide +kernel
theorem dX10_handle_247 : decode cX10_handle 247 = .ok (.getfield 110, 3) := by decide +kernel
theorem dX10_handle_250 : decode cX10_handle 250 = .ok (.iload_n 1, 1) := by decide +kernel
theorem dX10_handle_251 : decode cX10_handle 251 = .ok (.iaload, 1) := by decide +kernel
theorem dX10_handle_252 : decode cX10_handle 252 = .ok (.iastore, 1) := by decide +kernel
theorem dX10_handle_253 : decode cX10_handle 253 = .ok (.aload_n 0, 1) := by decide +kernel
theorem dX10_handle_254 : decode cX10_handle 254 = .ok (.iload_n 2, 1) := by decide +kernel
theorem dX10_handle_255 : decode cX10_handle 255 = .ok (.iload_n 3, 1) := by decide +kernel
theorem dX10_handle_256 : decode cX10_handle 256 = .ok (.iconst 4, 1) := by decide +kernel
theorem dX10_handle_257 : decode cX10_handle 257 = .ok (.iload 4, 2) := by decide +kernel
theorem dX10_handle_259 : decode cX10_handle 259 = .ok (.iload 5, 2) := by decide +kernel
theorem dX10_handle_261 : decode cX10_handle 261 = .ok (.iconst 0, 1) := by decide +kernel
theorem dX10_handle_262 : decode cX10_handle 262 = .ok (.invokevirtual 151, 3) := by decide +kernel
theorem dX10_handle_265 : decode cX10_handle 265 = .ok (.pop, 1) := by decide +kernel
theorem dX10_handle_266 : decode cX10_handle 266 = .ok (.goto 212, 3) := by decide +kernel
theorem dX10_handle_269 : decode cX10_handle 269 = .ok (.iload_n 2, 1) := by decide +kernel
theorem dX10_handle_270 : decode cX10_handle 270 = .ok (.aload_n 0, 1) := by decide +kernel
theorem dX10_handle_271 : decode cX10_handle 271 = .ok (.getfield 120, 3) := by decide +kernel
theorem dX10_handle_274 : decode cX10_handle 274 = .ok (.if_icmp .ge 204, 3) := by decide +kernel
theorem dX10_handle_277 : decode cX10_handle 277 = .ok (.aload_n 0, 1) := by decide +kernel
theorem dX10_handle_278 : decode cX10_handle 278 = .ok (.getfield 44, 3) := by decide +kernel
theorem dX10_handle_281 : decode cX10_handle 281 = .ok (.iload_n 2, 1) := by decide +kernel
theorem dX10_handle_282 : decode cX10_handle 282 = .ok (.iaload, 1) := by decide +kernel
theorem dX10_handle_283 : decode cX10_handle 283 = .ok (.iconst 2, 1) := by decide +kernel
theorem dX10_handle_284 : decode cX10_handle 284 = .ok (.if_icmp .ne 194, 3) := by decide +kernel
theorem dX10_handle_287 : decode cX10_handle 287 = .ok (.aload_n 0, 1) := by decide +kernel
theorem dX10_handle_288 : decode cX10_handle 288 = .ok (.getfield 47, 3) := by decide +kernel
theorem dX10_handle_291 : decode cX10_handle 291 = .ok (.iload_n 2, 1) := by decide +kernel
theorem dX10_handle_292 : decode cX10_handle 292 = .ok (.iaload, 1) := by decide +kernel
theorem dX10_handle_293 : decode cX10_handle 293 = .ok (.iload 4, 2) := by decide +kernel
theorem dX10_handle_295 : decode cX10_handle 295 = .ok (.if_icmp .ne 183, 3) := by decide +kernel
theorem dX10_handle_298 : decode cX10_handle 298 = .ok (.aload_n 0, 1) := by decide +kernel
theorem dX10_handle_299 : decode cX10_handle 299 = .ok (.iload_n 2, 1) := by decide +kernel
theorem dX10_handle_300 : decode cX10_handle 300 = .ok (.iload_n 3, 1) := by decide +kernel
theorem dX10_handle_301 : decode cX10_handle 301 = .ok (.iload 5, 2) := by decide +kernel
theorem dX10_handle_303 : decode cX10_handle 303 = .ok (.invokevirtual 163, 3) := by decide +kernel
theorem dX10_handle_306 : decode cX10_handle 306 = .ok (.goto 172, 3) := by decide +kernel
theorem dX10_handle_309 : decode cX10_handle 309 = .ok (.iload_n 2, 1) := by decide +kernel
theorem dX10_handle_310 : decode cX10_handle 310 = .ok (.aload_n 0, 1) := by decide +kernel
theorem dX10_handle_311 : decode cX10_handle 311 = .ok (.getfield 120, 3) := by decide +kernel
theorem dX10_handle_314 : decode cX10_handle 314 = .ok (.if_icmp .ge 164, 3) := by decide +kernel
theorem dX10_handle_317 : decode cX10_handle 317 = .ok (.aload_n 0, 1) := by decide +kernel
theorem dX10_handle_318 : decode cX10_handle 318 = .ok (.iload_n 2, 1) := by decide +kernel
theorem dX10_handle_319 : decode cX10_handle 319 = .ok (.iload 5, 2) := by decide +kernel
theorem dX10_handle_321 : decode cX10_handle 321 = .ok (.aload_n 0, 1) := by decide +kernel
theorem dX10_handle_322 : decode cX10_handle 322 = .ok (.getfield 110, 3) := by decide +kernel
theorem dX10_handle_325 : decode cX10_handle 325 = .ok (.iload_n 1, 1) := by decide +kernel
theorem dX10_handle_326 : decode cX10_handle 326 = .ok (.iaload, 1) := by decide +kernel
theorem dX10_handle_327 : decode cX10_handle 327 = .ok (.invokevirtual 166, 3) := by decide +kernel
theorem dX10_handle_330 : decode cX10_handle 330 = .ok (.aload_n 0, 1) := by decide +kernel
theorem dX10_handle_331 : decode cX10_handle 331 = .ok (.iload_n 2, 1) := by decide +kernel
theorem dX10_handle_332 : decode cX10_handle 332 = .ok (.iload_n 3, 1) := by decide +kernel
theorem dX10_handle_333 : decode cX10_handle 333 = .ok (.bipush 6, 2) := by decide +kernel
theorem dX10_handle_335 : decode cX10_handle 335 = .ok (.iconst 0, 1) := by decide +kernel
theorem dX10_handle_336 : decode cX10_handle 336 = .ok (.aload_n 0, 1) := by decide +kernel
theorem dX10_handle_337 : decode cX10_handle 337 = .ok (.getfield 32, 3) := by decide +kernel
theorem dX10_handle_340 : decode cX10_handle 340 = .ok (.iload_n 2, 1) := by decide +kernel
theorem dX10_handle_341 : decode cX10_handle 341 = .ok (.iaload, 1) := by decide +kernel
theorem dX10_handle_342 : decode cX10_handle 342 = .ok (.iconst 0, 1) := by decide +kernel
theorem dX10_handle_343 : decode cX10_handle 343 = .ok (.invokevirtual 151, 3) := by decide +kernel
theorem dX10_handle_346 : decode cX10_handle 346 = .ok (.pop, 1) := by decide +kernel
theorem dX10_handle_347 : decode cX10_handle 347 = .ok (.goto 131, 3) := by decide +kernel
theorem dX10_handle_350 : decode cX10_handle 350 = .ok (.iload_n 2, 1) := by decide +kernel
theorem dX10_handle_351 : decode cX10_handle 351 = .ok (.aload_n 0, 1) := by decide +kernel
theorem dX10_handle_352 : decode cX10_handle 352 = .ok (.getfield 120, 3) := by decide +kernel
theorem dX10_handle_355 : decode cX10_handle 355 = .ok (.if_icmp .ge 123, 3) := by decide +kernel
theorem dX10_handle_358 : decode cX10_handle 358 = .ok (.aload_n 0, 1) := by decide +kernel
theorem dX10_handle_359 : decode cX10_handle 359 = .ok (.getfield 44, 3) := by decide +kernel
theorem dX10_handle_362 : decode cX10_handle 362 = .ok (.iload_n 2, 1) := by decide +kernel
theorem dX10_handle_363 : decode cX10_handle 363 = .ok (.iaload, 1) := by decide +kernel
theorem dX10_handle_364 : decode cX10_handle 364 = .ok (.iconst 2, 1) := by decide +kernel
theorem dX10_handle_365 : decode cX10_handle 365 = .ok (.if_icmp .ne 113, 3) := by decide +kernel
theorem dX10_handle_368 : decode cX10_handle 368 = .ok (.iload 5, 2) := by decide +kernel
theorem dX10_handle_370 : decode cX10_handle 370 = .ok (.aload_n 0, 1) := by decide +kernel
theorem dX10_handle_371 : decode cX10_handle 371 = .ok (.getfield 77, 3) := by decide +kernel
theorem dX10_handle_374 : decode cX10_handle 374 = .ok (.bipush 9, 2) := by decide +kernel
theorem dX10_handle_376 : decode cX10_handle 376 = .ok (.iload_n 2, 1) := by decide +kernel
theorem dX10_handle_377 : decode cX10_handle 377 = .ok (.imul, 1) := by decide +kernel
theorem dX10_handle_378 : decode cX10_handle 378 = .ok (.iload_n 3, 1) := by decide +kernel
theorem dX10_handle_379 : decode cX10_handle 379 = .ok (.iadd, 1) := by decide +kernel
theorem dX10_handle_380 : decode cX10_handle 380 = .ok (.iaload, 1) := by decide +kernel
theorem dX10_handle_381 : decode cX10_handle 381 = .ok (.if_icmp .le 97, 3) := by decide +kernel
theorem dX10_handle_384 : decode cX10_handle 384 = .ok (.aload_n 0, 1) := by decide +kernel
theorem dX10_handle_385 : decode cX10_handle 385 = .ok (.getfield 77, 3) := by decide +kernel
theorem dX10_handle_388 : decode cX10_handle 388 = .ok (.bipush 9, 2) := by decide +kernel
theorem dX10_handle_390 : decode cX10_handle 390 = .ok (.iload_n 2, 1) := by decide +kernel
theorem dX10_handle_391 : decode cX10_handle 391 = .ok (.imul, 1) := by decide +kernel
theorem dX10_handle_392 : decode cX10_handle 392 = .ok (.iload_n 3, 1) := by decide +kernel
theorem dX10_handle_393 : decode cX10_handle 393 = .ok (.iadd, 1) := by decide +kernel
theorem dX10_handle_394 : decode cX10_handle 394 = .ok (.iload 5, 2) := by decide +kernel
theorem dX10_handle_396 : decode cX10_handle 396 = .ok (.iastore, 1) := by decide +kernel
theorem dX10_handle_397 : decode cX10_handle 397 = .ok (.goto 81, 3) := by decide +kernel
theorem dX10_handle_400 : decode cX10_handle 400 = .ok (.aload_n 0, 1) := by decide +kernel
theorem dX10_handle_401 : decode cX10_handle 401 = .ok (.getfield 17, 3) := by decide +kernel
theorem dX10_handle_404 : decode cX10_handle 404 = .ok (.iload_n 2, 1) := by decide +kernel
theorem dX10_handle_405 : decode cX10_handle 405 = .ok (.iaload, 1) := by decide +kernel
theorem dX10_handle_406 : decode cX10_handle 406 = .ok (.istore 6, 2) := by decide +kernel
theorem dX10_handle_408 : decode cX10_handle 408 = .ok (.iload 6, 2) := by decide +kernel
theorem dX10_handle_410 : decode cX10_handle 410 = .ok (.iload 5, 2) := by decide +kernel
theorem dX10_handle_412 : decode cX10_handle 412 = .ok (.if_icmp .ge 35, 3) := by decide +kernel
theorem dX10_handle_415 : decode cX10_handle 415 = .ok (.aload_n 0, 1) := by decide +kernel
theorem dX10_handle_416 : decode cX10_handle 416 = .ok (.getfield 20, 3) := by decide +kernel
theorem dX10_handle_419 : decode cX10_handle 419 = .ok (.bipush 100, 2) := by decide +kernel
theorem dX10_handle_421 : decode cX10_handle 421 = .ok (.iload_n 2, 1) := by decide +kernel
theorem dX10_handle_422 : decode cX10_handle 422 = .ok (.imul, 1) := by decide +kernel
theorem dX10_handle_423 : decode cX10_handle 423 = .ok (.iload 6, 2) := by decide +kernel
theorem dX10_handle_425 : decode cX10_handle 425 = .ok (.iadd, 1) := by decide +kernel
theorem dX10_handle_426 : decode cX10_handle 426 = .ok (.iconst 0, 1) := by decide +kernel
theorem dX10_handle_427 : decode cX10_handle 427 = .ok (.iastore, 1) := by decide +kernel
theorem dX10_handle_428 : decode cX10_handle 428 = .ok (.aload_n 0, 1) := by decide +kernel
theorem dX10_handle_429 : decode cX10_handle 429 = .ok (.getfield 23, 3) := by decide +kernel
theorem dX10_handle_432 : decode cX10_handle 432 = .ok (.bipush 100, 2) := by decide +kernel
theorem dX10_handle_434 : decode cX10_handle 434 = .ok (.iload_n 2, 1) := by decide +kernel
theorem dX10_handle_435 : decode cX10_handle 435 = .ok (.imul, 1) := by decide +kernel
theorem dX10_handle_436 : decode cX10_handle 436 = .ok (.iload 6, 2) := by decide +kernel
theorem dX10_handle_438 : decode cX10_handle 438 = .ok (.iadd, 1) := by decide +kernel
theorem dX10_handle_439 : decode cX10_handle 439 = .ok (.iconst 0, 1) := by decide +kernel
theorem dX10_handle_440 : decode cX10_handle 440 = .ok (.iastore, 1) := by decide +kernel
theorem dX10_handle_441 : decode cX10_handle 441 = .ok (.iinc 6 1, 3) := by decide +kernel
theorem dX10_handle_444 : decode cX10_handle 444 = .ok (.goto (-36), 3) := by decide +kernel
theorem dX10_handle_447 : decode cX10_handle 447 = .ok (.aload_n 0, 1) := by decide +kernel
theorem dX10_handle_448 : decode cX10_handle 448 = .ok (.getfield 17, 3) := by decide +kernel
theorem dX10_handle_451 : decode cX10_handle 451 = .ok (.iload_n 2, 1) := by decide +kernel
theorem dX10_handle_452 : decode cX10_handle 452 = .ok (.iload 5, 2) := by decide +kernel
theorem dX10_handle_454 : decode cX10_handle 454 = .ok (.aload_n 0, 1) := by decide +kernel
theorem dX10_handle_455 : decode cX10_handle 455 = .ok (.getfield 17, 3) := by decide +kernel
theorem dX10_handle_458 : decode cX10_handle 458 = .ok (.iload_n 2, 1) := by decide +kernel
theorem dX10_handle_459 : decode cX10_handle 459 = .ok (.iaload, 1) := by decide +kernel
theorem dX10_handle_460 : decode cX10_handle 460 = .ok (.if_icmp .le 8, 3) := by decide +kernel
theorem dX10_handle_463 : decode cX10_handle 463 = .ok (.iload 5, 2) := by decide +kernel
theorem dX10_handle_465 : decode cX10_handle 465 = .ok (.goto 9, 3) := by decide +kernel
theorem dX10_handle_468 : decode cX10_handle 468 = .ok (.aload_n 0, 1) := by decide +kernel
theorem dX10_handle_469 : decode cX10_handle 469 = .ok (.getfield 17, 3) := by decide +kernel
theorem dX10_handle_472 : decode cX10_handle 472 = .ok (.iload_n 2, 1) := by decide +kernel
theorem dX10_handle_473 : decode cX10_handle 473 = .ok (.iaload, 1) := by decide +kernel
theorem dX10_handle_474 : decode cX10_handle 474 = .ok (.iastore, 1) := by decide +kernel
theorem dX10_handle_475 : decode cX10_handle 475 = .ok (.goto 3, 3) := by decide +kernel
theorem dX10_handle_478 : decode cX10_handle 478 = .ok (.return_, 1) := by decide +kernel
theorem dX10_prepare_0 : decode cX10_prepare 0 = .ok (.iload_n 3, 1) := by decide +kernel
theorem dX10_prepare_1 : decode cX10_prepare 1 = .ok (.aload_n 0, 1) := by decide +kernel
theorem dX10_prepare_2 : decode cX10_prepare 2 = .ok (.getfield 13, 3) := by decide +kernel
theorem dX10_prepare_5 : decode cX10_prepare 5 = .ok (.iload_n 1, 1) := by decide +kernel
theorem dX10_prepare_6 : decode cX10_prepare 6 = .ok (.iaload, 1) := by decide +kernel
theorem dX10_prepare_7 : decode cX10_prepare 7 = .ok (.if_icmp .ge 21, 3) := by decide +kernel
theorem dX10_prepare_10 : decode cX10_prepare 10 = .ok (.aload_n 0, 1) := by decide +kernel
theorem dX10_prepare_11 : decode cX10_prepare 11 = .ok (.iload_n 1, 1) := by decide +kernel
theorem dX10_prepare_12 : decode cX10_prepare 12 = .ok (.iload_n 2, 1) := by decide +kernel
theorem dX10_prepare_13 : decode cX10_prepare 13 = .ok (.bipush 8, 2) := by decide +kernel
theorem dX10_prepare_15 : decode cX10_prepare 15 = .ok (.aload_n 0, 1) := by decide +kernel
theorem dX10_prepare_16 : decode cX10_prepare 16 = .ok (.getfield 13, 3) := by decide +kernel
theorem dX10_prepare_19 : decode cX10_prepare 19 = .ok (.iload_n 1, 1) := by decide +kernel
theorem dX10_prepare_20 : decode cX10_prepare 20 = .ok (.iaload, 1) := by decide +kernel
theorem dX10_prepare_21 : decode cX10_prepare 21 = .ok (.iconst 0, 1) := by decide +kernel
theorem dX10_prepare_22 : decode cX10_prepare 22 = .ok (.iconst 0, 1) := by decide +kernel
theorem dX10_prepare_23 : decode cX10_prepare 23 = .ok (.invokevirtual 151, 3) := by decide +kernel
theorem dX10_prepare_26 : decode cX10_prepare 26 = .ok (.pop, 1) := by decide +kernel
theorem dX10_prepare_27 : decode cX10_prepare 27 = .ok (.return_, 1) := by decide +kernel
theorem dX10_prepare_28 : decode cX10_prepare 28 = .ok (.aload_n 0, 1) := by decide +kernel
theorem dX10_prepare_29 : decode cX10_prepare 29 = .ok (.getfield 13, 3) := by decide +kernel
theorem dX10_prepare_32 : decode cX10_prepare 32 = .ok (.iload_n 1, 1) := by decide +kernel
theorem dX10_prepare_33 : decode cX10_prepare 33 = .ok (.iload_n 3, 1) := by decide +kernel
theorem dX10_prepare_34 : decode cX10_prepare 34 = .ok (.iastore, 1) := by decide +kernel
theorem dX10_prepare_35 : decode cX10_prepare 35 = .ok (.iload 4, 2) := by decide +kernel
theorem dX10_prepare_37 : decode cX10_prepare 37 = .ok (.istore 5, 2) := by decide +kernel
theorem dX10_prepare_39 : decode cX10_prepare 39 = .ok (.iload 5, 2) := by decide +kernel
theorem dX10_prepare_41 : decode cX10_prepare 41 = .ok (.bipush 100, 2) := by decide +kernel
theorem dX10_prepare_43 : decode cX10_prepare 43 = .ok (.if_icmp .ge 55, 3) := by decide +kernel
theorem dX10_prepare_46 : decode cX10_prepare 46 = .ok (.iload_n 1, 1) := by decide +kernel
theorem dX10_prepare_47 : decode cX10_prepare 47 = .ok (.aload_n 0, 1) := by decide +kernel
theorem dX10_prepare_48 : decode cX10_prepare 48 = .ok (.getfield 120, 3) := by decide +kernel
theorem dX10_prepare_51 : decode cX10_prepare 51 = .ok (.if_icmp .ge 47, 3) := by decide +kernel
theorem dX10_prepare_54 : decode cX10_prepare 54 = .ok (.aload_n 0, 1) := by decide +kernel
theorem dX10_prepare_55 : decode cX10_prepare 55 = .ok (.getfield 26, 3) := by decide +kernel
theorem dX10_prepare_58 : decode cX10_prepare 58 = .ok (.bipush 100, 2) := by decide +kernel
theorem dX10_prepare_60 : decode cX10_prepare 60 = .ok (.iload_n 1, 1) := by decide +kernel
theorem dX10_prepare_61 : decode cX10_prepare 61 = .ok (.imul, 1) := by decide +kernel
theorem dX10_prepare_62 : decode cX10_prepare 62 = .ok (.iload 5, 2) := by decide +kernel
theorem dX10_prepare_64 : decode cX10_prepare 64 = .ok (.iadd, 1) := by decide +kernel
theorem dX10_prepare_65 : decode cX10_prepare 65 = .ok (.baload, 1) := by decide +kernel
theorem dX10_prepare_66 : decode cX10_prepare 66 = .ok (.ifCond .eq 26, 3) := by decide +kernel
theorem dX10_prepare_69 : decode cX10_prepare 69 = .ok (.aload_n 0, 1) := by decide +kernel
theorem dX10_prepare_70 : decode cX10_prepare 70 = .ok (.iload_n 1, 1) := by decide +kernel
theorem dX10_prepare_71 : decode cX10_prepare 71 = .ok (.iload_n 2, 1) := by decide +kernel
theorem dX10_prepare_72 : decode cX10_prepare 72 = .ok (.iconst 5, 1) := by decide +kernel
theorem dX10_prepare_73 : decode cX10_prepare 73 = .ok (.iconst 0, 1) := by decide +kernel
theorem dX10_prepare_74 : decode cX10_prepare 74 = .ok (.iload 5, 2) := by decide +kernel
theorem dX10_prepare_76 : decode cX10_prepare 76 = .ok (.aload_n 0, 1) := by decide +kernel
theorem dX10_prepare_77 : decode cX10_prepare 77 = .ok (.getfield 29, 3) := by decide +kernel
theorem dX10_prepare_80 : decode cX10_prepare 80 = .ok (.bipush 100, 2) := by decide +kernel
theorem dX10_prepare_82 : decode cX10_prepare 82 = .ok (.iload_n 1, 1) := by decide +kernel
theorem dX10_prepare_83 : decode cX10_prepare 83 = .ok (.imul, 1) := by decide +kernel
theorem dX10_prepare_84 : decode cX10_prepare 84 = .ok (.iload 5, 2) := by decide +kernel
theorem dX10_prepare_86 : decode cX10_prepare 86 = .ok (.iadd, 1) := by decide +kernel
theorem dX10_prepare_87 : decode cX10_prepare 87 = .ok (.iaload, 1) := by decide +kernel
theorem dX10_prepare_88 : decode cX10_prepare 88 = .ok (.invokevirtual 151, 3) := by decide +kernel
theorem dX10_prepare_91 : decode cX10_prepare 91 = .ok (.pop, 1) := by decide +kernel
theorem dX10_prepare_92 : decode cX10_prepare 92 = .ok (.iinc 5 1, 3) := by decide +kernel
theorem dX10_prepare_95 : decode cX10_prepare 95 = .ok (.goto (-56), 3) := by decide +kernel
theorem dX10_prepare_98 : decode cX10_prepare 98 = .ok (.aload_n 0, 1) := by decide +kernel
theorem dX10_prepare_99 : decode cX10_prepare 99 = .ok (.iload_n 1, 1) := by decide +kernel
theorem dX10_prepare_100 : decode cX10_prepare 100 = .ok (.iload_n 2, 1) := by decide +kernel
theorem dX10_prepare_101 : decode cX10_prepare 101 = .ok (.iload_n 3, 1) := by decide +kernel
theorem dX10_prepare_102 : decode cX10_prepare 102 = .ok (.invokevirtual 169, 3) := by decide +kernel
theorem dX10_prepare_105 : decode cX10_prepare 105 = .ok (.return_, 1) := by decide +kernel
theorem dX10_promisersFor_0 : decode cX10_promisersFor 0 = .ok (.iconst 0, 1) := by decide +kernel
theorem dX10_promisersFor_1 : decode cX10_promisersFor 1 = .ok (.istore_n 3, 1) := by decide +kernel
theorem dX10_promisersFor_2 : decode cX10_promisersFor 2 = .ok (.iconst 0, 1) := by decide +kernel
theorem dX10_promisersFor_3 : decode cX10_promisersFor 3 = .ok (.istore 4, 2) := by decide +kernel
theorem dX10_promisersFor_5 : decode cX10_promisersFor 5 = .ok (.iload 4, 2) := by decide +kernel
theorem dX10_promisersFor_7 : decode cX10_promisersFor 7 = .ok (.aload_n 0, 1) := by decide +kernel
theorem dX10_promisersFor_8 : decode cX10_promisersFor 8 = .ok (.getfield 124, 3) := by decide +kernel
theorem dX10_promisersFor_11 : decode cX10_promisersFor 11 = .ok (.if_icmp .ge 47, 3) := by decide +kernel
theorem dX10_promisersFor_14 : decode cX10_promisersFor 14 = .ok (.aload_n 0, 1) := by decide +kernel
theorem dX10_promisersFor_15 : decode cX10_promisersFor 15 = .ok (.getfield 53, 3) := by decide +kernel
theorem dX10_promisersFor_18 : decode cX10_promisersFor 18 = .ok (.iload_n 1, 1) := by decide +kernel
theorem dX10_promisersFor_19 : decode cX10_promisersFor 19 = .ok (.iaload, 1) := by decide +kernel
theorem dX10_promisersFor_20 : decode cX10_promisersFor 20 = .ok (.iload 4, 2) := by decide +kernel
theorem dX10_promisersFor_22 : decode cX10_promisersFor 22 = .ok (.ishr, 1) := by decide +kernel
theorem dX10_promisersFor_23 : decode cX10_promisersFor 23 = .ok (.iconst 1, 1) := by decide +kernel
theorem dX10_promisersFor_24 : decode cX10_promisersFor 24 = .ok (.iand, 1) := by decide +kernel
theorem dX10_promisersFor_25 : decode cX10_promisersFor 25 = .ok (.iconst 1, 1) := by decide +kernel
theorem dX10_promisersFor_26 : decode cX10_promisersFor 26 = .ok (.if_icmp .ne 26, 3) := by decide +kernel
theorem dX10_promisersFor_29 : decode cX10_promisersFor 29 = .ok (.aload_n 0, 1) := by decide +kernel
theorem dX10_promisersFor_30 : decode cX10_promisersFor 30 = .ok (.getfield 56, 3) := by decide +kernel
theorem dX10_promisersFor_33 : decode cX10_promisersFor 33 = .ok (.bipush 9, 2) := by decide +kernel
theorem dX10_promisersFor_35 : decode cX10_promisersFor 35 = .ok (.iload_n 1, 1) := by decide +kernel
theorem dX10_promisersFor_36 : decode cX10_promisersFor 36 = .ok (.imul, 1) := by decide +kernel
theorem dX10_promisersFor_37 : decode cX10_promisersFor 37 = .ok (.iload 4, 2) := by decide +kernel
theorem dX10_promisersFor_39 : decode cX10_promisersFor 39 = .ok (.iadd, 1) := by decide +kernel
theorem dX10_promisersFor_40 : decode cX10_promisersFor 40 = .ok (.iaload, 1) := by decide +kernel
theorem dX10_promisersFor_41 : decode cX10_promisersFor 41 = .ok (.iload_n 2, 1) := by decide +kernel
theorem dX10_promisersFor_42 : decode cX10_promisersFor 42 = .ok (.if_icmp .gt 10, 3) := by decide +kernel
theorem dX10_promisersFor_45 : decode cX10_promisersFor 45 = .ok (.iload_n 3, 1) := by decide +kernel
theorem dX10_promisersFor_46 : decode cX10_promisersFor 46 = .ok (.iconst 1, 1) := by decide +kernel
theorem dX10_promisersFor_47 : decode cX10_promisersFor 47 = .ok (.iload 4, 2) := by decide +kernel
theorem dX10_promisersFor_49 : decode cX10_promisersFor 49 = .ok (.ishl, 1) := by decide +kernel
theorem dX10_promisersFor_50 : decode cX10_promisersFor 50 = .ok (.ior, 1) := by decide +kernel
theorem dX10_promisersFor_51 : decode cX10_promisersFor 51 = .ok (.istore_n 3, 1) := by decide +kernel
theorem dX10_promisersFor_52 : decode cX10_promisersFor 52 = .ok (.iinc 4 1, 3) := by decide +kernel
theorem dX10_promisersFor_55 : decode cX10_promisersFor 55 = .ok (.goto (-50), 3) := by decide +kernel
theorem dX10_promisersFor_58 : decode cX10_promisersFor 58 = .ok (.iload_n 3, 1) := by decide +kernel
theorem dX10_promisersFor_59 : decode cX10_promisersFor 59 = .ok (.ireturn, 1) := by decide +kernel
theorem dX10_promise_0 : decode cX10_promise 0 = .ok (.bipush 9, 2) := by decide +kernel
theorem dX10_promise_2 : decode cX10_promise 2 = .ok (.iload_n 1, 1) := by decide +kernel
theorem dX10_promise_3 : decode cX10_promise 3 = .ok (.imul, 1) := by decide +kernel
theorem dX10_promise_4 : decode cX10_promise 4 = .ok (.iload_n 2, 1) := by decide +kernel
theorem dX10_promise_5 : decode cX10_promise 5 = .ok (.iadd, 1) := by decide +kernel
theorem dX10_promise_6 : decode cX10_promise 6 = .ok (.istore 4, 2) := by decide +kernel
theorem dX10_promise_8 : decode cX10_promise 8 = .ok (.aload_n 0, 1) := by decide +kernel
theorem dX10_promise_9 : decode cX10_promise 9 = .ok (.getfield 53, 3) := by decide +kernel
theorem dX10_promise_12 : decode cX10_promise 12 = .ok (.iload_n 1, 1) := by decide +kernel
theorem dX10_promise_13 : decode cX10_promise 13 = .ok (.aload_n 0, 1) := by decide +kernel
theorem dX10_promise_14 : decode cX10_promise 14 = .ok (.getfield 53, 3) := by decide +kernel
theorem dX10_promise_17 : decode cX10_promise 17 = .ok (.iload_n 1, 1) := by decide +kernel
theorem dX10_promise_18 : decode cX10_promise 18 = .ok (.iaload, 1) := by decide +kernel
theorem dX10_promise_19 : decode cX10_promise 19 = .ok (.iconst 1, 1) := by decide +kernel
theorem dX10_promise_20 : decode cX10_promise 20 = .ok (.iload_n 2, 1) := by decide +kernel
theorem dX10_promise_21 : decode cX10_promise 21 = .ok (.ishl, 1) := by decide +kernel
theorem dX10_promise_22 : decode cX10_promise 22 = .ok (.ior, 1) := by decide +kernel
theorem dX10_promise_23 : decode cX10_promise 23 = .ok (.iastore, 1) := by decide +kernel
theorem dX10_promise_24 : decode cX10_promise 24 = .ok (.aload_n 0, 1) := by decide +kernel
theorem dX10_promise_25 : decode cX10_promise 25 = .ok (.getfield 56, 3) := by decide +kernel
theorem dX10_promise_28 : decode cX10_promise 28 = .ok (.iload 4, 2) := by decide +kernel
theorem dX10_promise_30 : decode cX10_promise 30 = .ok (.aload_n 0, 1) := by decide +kernel
theorem dX10_promise_31 : decode cX10_promise 31 = .ok (.getfield 107, 3) := by decide +kernel
theorem dX10_promise_34 : decode cX10_promise 34 = .ok (.iload_n 3, 1) := by decide +kernel
theorem dX10_promise_35 : decode cX10_promise 35 = .ok (.iaload, 1) := by decide +kernel
theorem dX10_promise_36 : decode cX10_promise 36 = .ok (.iastore, 1) := by decide +kernel
theorem dX10_promise_37 : decode cX10_promise 37 = .ok (.iconst 0, 1) := by decide +kernel
theorem dX10_promise_38 : decode cX10_promise 38 = .ok (.istore 5, 2) := by decide +kernel
theorem dX10_promise_40 : decode cX10_promise 40 = .ok (.iload 5, 2) := by decide +kernel
theorem dX10_promise_42 : decode cX10_promise 42 = .ok (.bipush 100, 2) := by decide +kernel
theorem dX10_promise_44 : decode cX10_promise 44 = .ok (.if_icmp .ge 59, 3) := by decide +kernel
theorem dX10_promise_47 : decode cX10_promise 47 = .ok (.aload_n 0, 1) := by decide +kernel
theorem dX10_promise_48 : decode cX10_promise 48 = .ok (.getfield 59, 3) := by decide +kernel
theorem dX10_promise_51 : decode cX10_promise 51 = .ok (.bipush 100, 2) := by decide +kernel
theorem dX10_promise_53 : decode cX10_promise 53 = .ok (.iload 4, 2) := by decide +kernel
theorem dX10_promise_55 : decode cX10_promise 55 = .ok (.imul, 1) := by decide +kernel
theorem dX10_promise_56 : decode cX10_promise 56 = .ok (.iload 5, 2) := by decide +kernel
theorem dX10_promise_58 : decode cX10_promise 58 = .ok (.iadd, 1) := by decide +kernel
theorem dX10_promise_59 : decode cX10_promise 59 = .ok (.aload_n 0, 1) := by decide +kernel
theorem dX10_promise_60 : decode cX10_promise 60 = .ok (.getfield 114, 3) := by decide +kernel
theorem dX10_promise_63 : decode cX10_promise 63 = .ok (.bipush 100, 2) := by decide +kernel
theorem dX10_promise_65 : decode cX10_promise 65 = .ok (.iload_n 3, 1) := by decide +kernel
theorem dX10_promise_66 : decode cX10_promise 66 = .ok (.imul, 1) := by decide +kernel
theorem dX10_promise_67 : decode cX10_promise 67 = .ok (.iload 5, 2) := by decide +kernel
theorem dX10_promise_69 : decode cX10_promise 69 = .ok (.iadd, 1) := by decide +kernel
theorem dX10_promise_70 : decode cX10_promise 70 = .ok (.iaload, 1) := by decide +kernel
theorem dX10_promise_71 : decode cX10_promise 71 = .ok (.iastore, 1) := by decide +kernel
theorem dX10_promise_72 : decode cX10_promise 72 = .ok (.aload_n 0, 1) := by decide +kernel
theorem dX10_promise_73 : decode cX10_promise 73 = .ok (.getfield 62, 3) := by decide +kernel
theorem dX10_promise_76 : decode cX10_promise 76 = .ok (.bipush 100, 2) := by decide +kernel
theorem dX10_promise_78 : decode cX10_promise 78 = .ok (.iload 4, 2) := by decide +kernel
theorem dX10_promise_80 : decode cX10_promise 80 = .ok (.imul, 1) := by decide +kernel
theorem dX10_promise_81 : decode cX10_promise 81 = .ok (.iload 5, 2) := by decide +kernel
theorem dX10_promise_83 : decode cX10_promise 83 = .ok (.iadd, 1) := by decide +kernel
theorem dX10_promise_84 : decode cX10_promise 84 = .ok (.aload_n 0, 1) := by decide +kernel
theorem dX10_promise_85 : decode cX10_promise 85 = .ok (.getfield 117, 3) := by decide +kernel
theorem dX10_promise_88 : decode cX10_promise 88 = .ok (.bipush 100, 2) := by decide +kernel
theorem dX10_promise_90 : decode cX10_promise 90 = .ok (.iload_n 3, 1) := by decide +kernel
theorem dX10_promise_91 : decode cX10_promise 91 = .ok (.imul, 1) := by decide +kernel
theorem dX10_promise_92 : decode cX10_promise 92 = .ok (.iload 5, 2) := by decide +kernel
theorem dX10_promise_94 : decode cX10_promise 94 = .ok (.iadd, 1) := by decide +kernel
theorem dX10_promise_95 : decode cX10_promise 95 = .ok (.iaload, 1) := by decide +kernel
theorem dX10_promise_96 : decode cX10_promise 96 = .ok (.iastore, 1) := by decide +kernel
theorem dX10_promise_97 : decode cX10_promise 97 = .ok (.iinc 5 1, 3) := by decide +kernel
theorem dX10_promise_100 : decode cX10_promise 100 = .ok (.goto (-60), 3) := by decide +kernel
theorem dX10_promise_103 : decode cX10_promise 103 = .ok (.aload_n 0, 1) := by decide +kernel
theorem dX10_promise_104 : decode cX10_promise 104 = .ok (.getfield 44, 3) := by decide +kernel
theorem dX10_promise_107 : decode cX10_promise 107 = .ok (.iload_n 1, 1) := by decide +kernel
theorem dX10_promise_108 : decode cX10_promise 108 = .ok (.iaload, 1) := by decide +kernel
theorem dX10_promise_109 : decode cX10_promise 109 = .ok (.iconst 1, 1) := by decide +kernel
theorem dX10_promise_110 : decode cX10_promise 110 = .ok (.if_icmp .ne 35, 3) := by decide +kernel
theorem dX10_promise_113 : decode cX10_promise 113 = .ok (.aload_n 0, 1) := by decide +kernel
theorem dX10_promise_114 : decode cX10_promise 114 = .ok (.iload_n 1, 1) := by decide +kernel
theorem dX10_promise_115 : decode cX10_promise 115 = .ok (.aload_n 0, 1) := by decide +kernel
theorem dX10_promise_116 : decode cX10_promise 116 = .ok (.iload_n 1, 1) := by decide +kernel
theorem dX10_promise_117 : decode cX10_promise 117 = .ok (.aload_n 0, 1) := by decide +kernel
theorem dX10_promise_118 : decode cX10_promise 118 = .ok (.getfield 32, 3) := by decide +kernel
theorem dX10_promise_121 : decode cX10_promise 121 = .ok (.iload_n 1, 1) := by decide +kernel
theorem dX10_promise_122 : decode cX10_promise 122 = .ok (.iaload, 1) := by decide +kernel
theorem dX10_promise_123 : decode cX10_promise 123 = .ok (.invokevirtual 172, 3) := by decide +kernel
theorem dX10_promise_126 : decode cX10_promise 126 = .ok (.aload_n 0, 1) := by decide +kernel
theorem dX10_promise_127 : decode cX10_promise 127 = .ok (.getfield 32, 3) := by decide +kernel
theorem dX10_promise_130 : decode cX10_promise 130 = .ok (.iload_n 1, 1) := by decide +kernel
theorem dX10_promise_131 : decode cX10_promise 131 = .ok (.iaload, 1) := by decide +kernel
theorem dX10_promise_132 : decode cX10_promise 132 = .ok (.invokevirtual 175, 3) := by decide +kernel
theorem dX10_promise_135 : decode cX10_promise 135 = .ok (.ifCond .eq 10, 3) := by decide +kernel
theorem dX10_promise_138 : decode cX10_promise 138 = .ok (.aload_n 0, 1) := by decide +kernel
theorem dX10_promise_139 : decode cX10_promise 139 = .ok (.getfield 44, 3) := by decide +kernel
theorem dX10_promise_142 : decode cX10_promise 142 = .ok (.iload_n 1, 1) := by decide +kernel
theorem dX10_promise_143 : decode cX10_promise 143 = .ok (.iconst 2, 1) := by decide +kernel
theorem dX10_promise_144 : decode cX10_promise 144 = .ok (.iastore, 1) := by decide +kernel
theorem dX10_promise_145 : decode cX10_promise 145 = .ok (.return_, 1) := by decide +kernel
theorem dX10_taken_0 : decode cX10_taken 0 = .ok (.bipush 100, 2) := by decide +kernel
theorem dX10_taken_2 : decode cX10_taken 2 = .ok (.iload_n 1, 1) := by decide +kernel
theorem dX10_taken_3 : decode cX10_taken 3 = .ok (.imul, 1) := by decide +kernel
theorem dX10_taken_4 : decode cX10_taken 4 = .ok (.iload_n 3, 1) := by decide +kernel
theorem dX10_taken_5 : decode cX10_taken 5 = .ok (.iadd, 1) := by decide +kernel
theorem dX10_taken_6 : decode cX10_taken 6 = .ok (.istore 4, 2) := by decide +kernel
theorem dX10_taken_8 : decode cX10_taken 8 = .ok (.aload_n 0, 1) := by decide +kernel
theorem dX10_taken_9 : decode cX10_taken 9 = .ok (.getfield 65, 3) := by decide +kernel
theorem dX10_taken_12 : decode cX10_taken 12 = .ok (.iload 4, 2) := by decide +kernel
theorem dX10_taken_14 : decode cX10_taken 14 = .ok (.baload, 1) := by decide +kernel
theorem dX10_taken_15 : decode cX10_taken 15 = .ok (.ifCond .ne 4, 3) := by decide +kernel
theorem dX10_taken_18 : decode cX10_taken 18 = .ok (.return_, 1) := by decide +kernel
theorem dX10_taken_19 : decode cX10_taken 19 = .ok (.aload_n 0, 1) := by decide +kernel
theorem dX10_taken_20 : decode cX10_taken 20 = .ok (.getfield 71, 3) := by decide +kernel
theorem dX10_taken_23 : decode cX10_taken 23 = .ok (.iload 4, 2) := by decide +kernel
theorem dX10_taken_25 : decode cX10_taken 25 = .ok (.aload_n 0, 1) := by decide +kernel
theorem dX10_taken_26 : decode cX10_taken 26 = .ok (.getfield 71, 3) := by decide +kernel
theorem dX10_taken_29 : decode cX10_taken 29 = .ok (.iload 4, 2) := by decide +kernel
theorem dX10_taken_31 : decode cX10_taken 31 = .ok (.iaload, 1) := by decide +kernel
theorem dX10_taken_32 : decode cX10_taken 32 = .ok (.iconst 1, 1) := by decide +kernel
theorem dX10_taken_33 : decode cX10_taken 33 = .ok (.iload_n 2, 1) := by decide +kernel
theorem dX10_taken_34 : decode cX10_taken 34 = .ok (.ishl, 1) := by decide +kernel
theorem dX10_taken_35 : decode cX10_taken 35 = .ok (.ior, 1) := by decide +kernel
theorem dX10_taken_36 : decode cX10_taken 36 = .ok (.iastore, 1) := by decide +kernel
theorem dX10_taken_37 : decode cX10_taken 37 = .ok (.aload_n 0, 1) := by decide +kernel
theorem dX10_taken_38 : decode cX10_taken 38 = .ok (.getfield 26, 3) := by decide +kernel
theorem dX10_taken_41 : decode cX10_taken 41 = .ok (.iload 4, 2) := by decide +kernel
theorem dX10_taken_43 : decode cX10_taken 43 = .ok (.baload, 1) := by decide +kernel
theorem dX10_taken_44 : decode cX10_taken 44 = .ok (.ifCond .ne 60, 3) := by decide +kernel
theorem dX10_taken_47 : decode cX10_taken 47 = .ok (.aload_n 0, 1) := by decide +kernel
theorem dX10_taken_48 : decode cX10_taken 48 = .ok (.iload_n 1, 1) := by decide +kernel
theorem dX10_taken_49 : decode cX10_taken 49 = .ok (.aload_n 0, 1) := by decide +kernel
theorem dX10_taken_50 : decode cX10_taken 50 = .ok (.getfield 71, 3) := by decide +kernel
theorem dX10_taken_53 : decode cX10_taken 53 = .ok (.iload 4, 2) := by decide +kernel
theorem dX10_taken_55 : decode cX10_taken 55 = .ok (.iaload, 1) := by decide +kernel
theorem dX10_taken_56 : decode cX10_taken 56 = .ok (.iload_n 3, 1) := by decide +kernel
theorem dX10_taken_57 : decode cX10_taken 57 = .ok (.invokevirtual 175, 3) := by decide +kernel
theorem dX10_taken_60 : decode cX10_taken 60 = .ok (.ifCond .eq 44, 3) := by decide +kernel
theorem dX10_taken_63 : decode cX10_taken 63 = .ok (.aload_n 0, 1) := by decide +kernel
theorem dX10_taken_64 : decode cX10_taken 64 = .ok (.getfield 68, 3) := by decide +kernel
theorem dX10_taken_67 : decode cX10_taken 67 = .ok (.iload 4, 2) := by decide +kernel
theorem dX10_taken_69 : decode cX10_taken 69 = .ok (.iaload, 1) := by decide +kernel
theorem dX10_taken_70 : decode cX10_taken 70 = .ok (.istore 5, 2) := by decide +kernel
theorem dX10_taken_72 : decode cX10_taken 72 = .ok (.aload_n 0, 1) := by decide +kernel
theorem dX10_taken_73 : decode cX10_taken 73 = .ok (.iload_n 1, 1) := by decide +kernel
theorem dX10_taken_74 : decode cX10_taken 74 = .ok (.iload_n 3, 1) := by decide +kernel
theorem dX10_taken_75 : decode cX10_taken 75 = .ok (.iload 5, 2) := by decide +kernel
theorem dX10_taken_77 : decode cX10_taken 77 = .ok (.invokevirtual 166, 3) := by decide +kernel
theorem dX10_taken_80 : decode cX10_taken 80 = .ok (.aload_n 0, 1) := by decide +kernel
theorem dX10_taken_81 : decode cX10_taken 81 = .ok (.iload_n 1, 1) := by decide +kernel
theorem dX10_taken_82 : decode cX10_taken 82 = .ok (.iconst 1, 1) := by decide +kernel
theorem dX10_taken_83 : decode cX10_taken 83 = .ok (.aload_n 0, 1) := by decide +kernel
theorem dX10_taken_84 : decode cX10_taken 84 = .ok (.getfield 120, 3) := by decide +kernel
theorem dX10_taken_87 : decode cX10_taken 87 = .ok (.ishl, 1) := by decide +kernel
theorem dX10_taken_88 : decode cX10_taken 88 = .ok (.iconst 1, 1) := by decide +kernel
theorem dX10_taken_89 : decode cX10_taken 89 = .ok (.isub, 1) := by decide +kernel
theorem dX10_taken_90 : decode cX10_taken 90 = .ok (.iconst 1, 1) := by decide +kernel
theorem dX10_taken_91 : decode cX10_taken 91 = .ok (.iload_n 1, 1) := by decide +kernel
theorem dX10_taken_92 : decode cX10_taken 92 = .ok (.ishl, 1) := by decide +kernel
theorem dX10_taken_93 : decode cX10_taken 93 = .ok (.iconst (-1), 1) := by decide +kernel
theorem dX10_taken_94 : decode cX10_taken 94 = .ok (.ixor, 1) := by decide +kernel
theorem dX10_taken_95 : decode cX10_taken 95 = .ok (.iand, 1) := by decide +kernel
theorem dX10_taken_96 : decode cX10_taken 96 = .ok (.iconst 5, 1) := by decide +kernel
theorem dX10_taken_97 : decode cX10_taken 97 = .ok (.iconst 0, 1) := by decide +kernel
theorem dX10_taken_98 : decode cX10_taken 98 = .ok (.iload_n 3, 1) := by decide +kernel
theorem dX10_taken_99 : decode cX10_taken 99 = .ok (.iload 5, 2) := by decide +kernel
theorem dX10_taken_101 : decode cX10_taken 101 = .ok (.invokevirtual 179, 3) := by decide +kernel
theorem dX10_taken_104 : decode cX10_taken 104 = .ok (.return_, 1) := by decide +kernel
theorem dX10_firstOpen_0 : decode cX10_firstOpen 0 = .ok (.iconst 0, 1) := by decide +kernel
theorem dX10_firstOpen_1 : decode cX10_firstOpen 1 = .ok (.istore_n 2, 1) := by decide +kernel
theorem dX10_firstOpen_2 : decode cX10_firstOpen 2 = .ok (.iload_n 2, 1) := by decide +kernel
theorem dX10_firstOpen_3 : decode cX10_firstOpen 3 = .ok (.bipush 100, 2) := by decide +kernel
theorem dX10_firstOpen_5 : decode cX10_firstOpen 5 = .ok (.if_icmp .ge 51, 3) := by decide +kernel
theorem dX10_firstOpen_8 : decode cX10_firstOpen 8 = .ok (.iload_n 2, 1) := by decide +kernel
theorem dX10_firstOpen_9 : decode cX10_firstOpen 9 = .ok (.aload_n 0, 1) := by decide +kernel
theorem dX10_firstOpen_10 : decode cX10_firstOpen 10 = .ok (.getfield 32, 3) := by decide +kernel
theorem dX10_firstOpen_13 : decode cX10_firstOpen 13 = .ok (.iload_n 1, 1) := by decide +kernel
theorem dX10_firstOpen_14 : decode cX10_firstOpen 14 = .ok (.iaload, 1) := by decide +kernel
theorem dX10_firstOpen_15 : decode cX10_firstOpen 15 = .ok (.iconst 4, 1) := by decide +kernel
theorem dX10_firstOpen_16 : decode cX10_firstOpen 16 = .ok (.iadd, 1) := by decide +kernel
theorem dX10_firstOpen_17 : decode cX10_firstOpen 17 = .ok (.if_icmp .ge 39, 3) := by decide +kernel
theorem dX10_firstOpen_20 : decode cX10_firstOpen 20 = .ok (.aload_n 0, 1) := by decide +kernel
theorem dX10_firstOpen_21 : decode cX10_firstOpen 21 = .ok (.getfield 65, 3) := by decide +kernel
theorem dX10_firstOpen_24 : decode cX10_firstOpen 24 = .ok (.bipush 100, 2) := by decide +kernel
theorem dX10_firstOpen_26 : decode cX10_firstOpen 26 = .ok (.iload_n 1, 1) := by decide +kernel
theorem dX10_firstOpen_27 : decode cX10_firstOpen 27 = .ok (.imul, 1) := by decide +kernel
theorem dX10_firstOpen_28 : decode cX10_firstOpen 28 = .ok (.iload_n 2, 1) := by decide +kernel
theorem dX10_firstOpen_29 : decode cX10_firstOpen 29 = .ok (.iadd, 1) := by decide +kernel
theorem dX10_firstOpen_30 : decode cX10_firstOpen 30 = .ok (.baload, 1) := by decide +kernel
theorem dX10_firstOpen_31 : decode cX10_firstOpen 31 = .ok (.ifCond .ne 19, 3) := by decide +kernel
theorem dX10_firstOpen_34 : decode cX10_firstOpen 34 = .ok (.aload_n 0, 1) := by decide +kernel
theorem dX10_firstOpen_35 : decode cX10_firstOpen 35 = .ok (.getfield 26, 3) := by decide +kernel
theorem dX10_firstOpen_38 : decode cX10_firstOpen 38 = .ok (.bipush 100, 2) := by decide +kernel
theorem dX10_firstOpen_40 : decode cX10_firstOpen 40 = .ok (.iload_n 1, 1) := by decide +kernel
theorem dX10_firstOpen_41 : decode cX10_firstOpen 41 = .ok (.imul, 1) := by decide +kernel
theorem dX10_firstOpen_42 : decode cX10_firstOpen 42 = .ok (.iload_n 2, 1) := by decide +kernel
theorem dX10_firstOpen_43 : decode cX10_firstOpen 43 = .ok (.iadd, 1) := by decide +kernel
theorem dX10_firstOpen_44 : decode cX10_firstOpen 44 = .ok (.baload, 1) := by decide +kernel
theorem dX10_firstOpen_45 : decode cX10_firstOpen 45 = .ok (.ifCond .ne 5, 3) := by decide +kernel
theorem dX10_firstOpen_48 : decode cX10_firstOpen 48 = .ok (.iload_n 2, 1) := by decide +kernel
theorem dX10_firstOpen_49 : decode cX10_firstOpen 49 = .ok (.ireturn, 1) := by decide +kernel
theorem dX10_firstOpen_50 : decode cX10_firstOpen 50 = .ok (.iinc 2 1, 3) := by decide +kernel
theorem dX10_firstOpen_53 : decode cX10_firstOpen 53 = .ok (.goto (-51), 3) := by decide +kernel
theorem dX10_firstOpen_56 : decode cX10_firstOpen 56 = .ok (.iconst (-1), 1) := by decide +kernel
theorem dX10_firstOpen_57 : decode cX10_firstOpen 57 = .ok (.ireturn, 1) := by decide +kernel
theorem dX10_goOn_0 : decode cX10_goOn 0 = .ok (.iconst 1, 1) := by decide +kernel
theorem dX10_goOn_1 : decode cX10_goOn 1 = .ok (.istore_n 2, 1) := by decide +kernel
theorem dX10_goOn_2 : decode cX10_goOn 2 = .ok (.iload_n 2, 1) := by decide +kernel
theorem dX10_goOn_3 : decode cX10_goOn 3 = .ok (.ifCond .eq 57, 3) := by decide +kernel
theorem dX10_goOn_6 : decode cX10_goOn 6 = .ok (.aload_n 0, 1) := by decide +kernel
theorem dX10_goOn_7 : decode cX10_goOn 7 = .ok (.getfield 44, 3) := by decide +kernel
theorem dX10_goOn_10 : decode cX10_goOn 10 = .ok (.iload_n 1, 1) := by decide +kernel
theorem dX10_goOn_11 : decode cX10_goOn 11 = .ok (.iaload, 1) := by decide +kernel
theorem dX10_goOn_12 : decode cX10_goOn 12 = .ok (.iconst 2, 1) := by decide +kernel
theorem dX10_goOn_13 : decode cX10_goOn 13 = .ok (.if_icmp .ne 47, 3) := by decide +kernel
theorem dX10_goOn_16 : decode cX10_goOn 16 = .ok (.aload_n 0, 1) := by decide +kernel
theorem dX10_goOn_17 : decode cX10_goOn 17 = .ok (.iload_n 1, 1) := by decide +kernel
theorem dX10_goOn_18 : decode cX10_goOn 18 = .ok (.invokevirtual 183, 3) := by decide +kernel
theorem dX10_goOn_21 : decode cX10_goOn 21 = .ok (.istore_n 3, 1) := by decide +kernel
theorem dX10_goOn_22 : decode cX10_goOn 22 = .ok (.iload_n 3, 1) := by decide +kernel
theorem dX10_goOn_23 : decode cX10_goOn 23 = .ok (.iconst (-1), 1) := by decide +kernel
theorem dX10_goOn_24 : decode cX10_goOn 24 = .ok (.if_icmp .eq 31, 3) := by decide +kernel
theorem dX10_goOn_27 : decode cX10_goOn 27 = .ok (.aload_n 0, 1) := by decide +kernel
theorem dX10_goOn_28 : decode cX10_goOn 28 = .ok (.iload_n 1, 1) := by decide +kernel
theorem dX10_goOn_29 : decode cX10_goOn 29 = .ok (.aload_n 0, 1) := by decide +kernel
theorem dX10_goOn_30 : decode cX10_goOn 30 = .ok (.iload_n 1, 1) := by decide +kernel
theorem dX10_goOn_31 : decode cX10_goOn 31 = .ok (.iload_n 3, 1) := by decide +kernel
theorem dX10_goOn_32 : decode cX10_goOn 32 = .ok (.invokevirtual 172, 3) := by decide +kernel
theorem dX10_goOn_35 : decode cX10_goOn 35 = .ok (.iload_n 3, 1) := by decide +kernel
theorem dX10_goOn_36 : decode cX10_goOn 36 = .ok (.invokevirtual 175, 3) := by decide +kernel
theorem dX10_goOn_39 : decode cX10_goOn 39 = .ok (.ifCond .eq 16, 3) := by decide +kernel
theorem dX10_goOn_42 : decode cX10_goOn 42 = .ok (.aload_n 0, 1) := by decide +kernel
theorem dX10_goOn_43 : decode cX10_goOn 43 = .ok (.iload_n 1, 1) := by decide +kernel
theorem dX10_goOn_44 : decode cX10_goOn 44 = .ok (.iload_n 3, 1) := by decide +kernel
theorem dX10_goOn_45 : decode cX10_goOn 45 = .ok (.invokevirtual 186, 3) := by decide +kernel
theorem dX10_goOn_48 : decode cX10_goOn 48 = .ok (.ifCond .eq 7, 3) := by decide +kernel
theorem dX10_goOn_51 : decode cX10_goOn 51 = .ok (.iconst 1, 1) := by decide +kernel
theorem dX10_goOn_52 : decode cX10_goOn 52 = .ok (.goto 4, 3) := by decide +kernel
theorem dX10_goOn_55 : decode cX10_goOn 55 = .ok (.iconst 0, 1) := by decide +kernel
theorem dX10_goOn_56 : decode cX10_goOn 56 = .ok (.istore_n 2, 1) := by decide +kernel
theorem dX10_goOn_57 : decode cX10_goOn 57 = .ok (.goto (-55), 3) := by decide +kernel
theorem dX10_goOn_60 : decode cX10_goOn 60 = .ok (.return_, 1) := by decide +kernel
theorem dX10_propose_0 : decode cX10_propose 0 = .ok (.aload_n 0, 1) := by decide +kernel
theorem dX10_propose_1 : decode cX10_propose 1 = .ok (.iload_n 1, 1) := by decide +kernel
theorem dX10_propose_2 : decode cX10_propose 2 = .ok (.iload_n 2, 1) := by decide +kernel
theorem dX10_propose_3 : decode cX10_propose 3 = .ok (.invokevirtual 172, 3) := by decide +kernel
theorem dX10_propose_6 : decode cX10_propose 6 = .ok (.istore_n 3, 1) := by decide +kernel
theorem dX10_propose_7 : decode cX10_propose 7 = .ok (.iconst 0, 1) := by decide +kernel
theorem dX10_propose_8 : decode cX10_propose 8 = .ok (.istore 4, 2) := by decide +kernel
theorem dX10_propose_10 : decode cX10_propose 10 = .ok (.iconst 0, 1) := by decide +kernel
theorem dX10_propose_11 : decode cX10_propose 11 = .ok (.istore 5, 2) := by decide +kernel
theorem dX10_propose_13 : decode cX10_propose 13 = .ok (.iconst 0, 1) := by decide +kernel
theorem dX10_propose_14 : decode cX10_propose 14 = .ok (.istore 6, 2) := by decide +kernel
theorem dX10_propose_16 : decode cX10_propose 16 = .ok (.iconst 0, 1) := by decide +kernel
theorem dX10_propose_17 : decode cX10_propose 17 = .ok (.istore 7, 2) := by decide +kernel
theorem dX10_propose_19 : decode cX10_propose 19 = .ok (.iload 7, 2) := by decide +kernel
theorem dX10_propose_21 : decode cX10_propose 21 = .ok (.aload_n 0, 1) := by decide +kernel
theorem dX10_propose_22 : decode cX10_propose 22 = .ok (.getfield 124, 3) := by decide +kernel
theorem dX10_propose_25 : decode cX10_propose 25 = .ok (.if_icmp .ge 110, 3) := by decide +kernel
theorem dX10_propose_28 : decode cX10_propose 28 = .ok (.iload_n 3, 1) := by decide +kernel
theorem dX10_propose_29 : decode cX10_propose 29 = .ok (.iload 7, 2) := by decide +kernel
theorem dX10_propose_31 : decode cX10_propose 31 = .ok (.ishr, 1) := by decide +kernel
theorem dX10_propose_32 : decode cX10_propose 32 = .ok (.iconst 1, 1) := by decide +kernel
theorem dX10_propose_33 : decode cX10_propose 33 = .ok (.iand, 1) := by decide +kernel
theorem dX10_propose_34 : decode cX10_propose 34 = .ok (.iconst 1, 1) := by decide +kernel
theorem dX10_propose_35 : decode cX10_propose 35 = .ok (.if_icmp .ne 94, 3) := by decide +kernel
theorem dX10_propose_38 : decode cX10_propose 38 = .ok (.bipush 100, 2) := by decide +kernel
theorem dX10_propose_40 : decode cX10_propose 40 = .ok (.bipush 9, 2) := by decide +kernel
theorem dX10_propose_42 : decode cX10_propose 42 = .ok (.iload_n 1, 1) := by decide +kernel
theorem dX10_propose_43 : decode cX10_propose 43 = .ok (.imul, 1) := by decide +kernel
theorem dX10_propose_44 : decode cX10_propose 44 = .ok (.iload 7, 2) := by decide +kernel
theorem dX10_propose_46 : decode cX10_propose 46 = .ok (.iadd, 1) := by decide +kernel
theorem dX10_propose_47 : decode cX10_propose 47 = .ok (.imul, 1) := by decide +kernel
theorem dX10_propose_48 : decode cX10_propose 48 = .ok (.istore 8, 2) := by decide +kernel
theorem dX10_propose_50 : decode cX10_propose 50 = .ok (.aload_n 0, 1) := by decide +kernel
theorem dX10_propose_51 : decode cX10_propose 51 = .ok (.getfield 59, 3) := by decide +kernel
theorem dX10_propose_54 : decode cX10_propose 54 = .ok (.iload 8, 2) := by decide +kernel
theorem dX10_propose_56 : decode cX10_propose 56 = .ok (.iload_n 2, 1) := by decide +kernel
theorem dX10_propose_57 : decode cX10_propose 57 = .ok (.iadd, 1) := by decide +kernel
theorem dX10_propose_58 : decode cX10_propose 58 = .ok (.iaload, 1) := by decide +kernel
theorem dX10_propose_59 : decode cX10_propose 59 = .ok (.iload 4, 2) := by decide +kernel
theorem dX10_propose_61 : decode cX10_propose 61 = .ok (.if_icmp .le 25, 3) := by decide +kernel
theorem dX10_propose_64 : decode cX10_propose 64 = .ok (.aload_n 0, 1) := by decide +kernel
theorem dX10_propose_65 : decode cX10_propose 65 = .ok (.getfield 59, 3) := by decide +kernel
theorem dX10_propose_68 : decode cX10_propose 68 = .ok (.iload 8, 2) := by decide +kernel
theorem dX10_propose_70 : decode cX10_propose 70 = .ok (.iload_n 2, 1) := by decide +kernel
theorem dX10_propose_71 : decode cX10_propose 71 = .ok (.iadd, 1) := by decide +kernel
theorem dX10_propose_72 : decode cX10_propose 72 = .ok (.iaload, 1) := by decide +kernel
theorem dX10_propose_73 : decode cX10_propose 73 = .ok (.istore 4, 2) := by decide +kernel
theorem dX10_propose_75 : decode cX10_propose 75 = .ok (.aload_n 0, 1) := by decide +kernel
theorem dX10_propose_76 : decode cX10_propose 76 = .ok (.getfield 62, 3) := by decide +kernel
theorem dX10_propose_79 : decode cX10_propose 79 = .ok (.iload 8, 2) := by decide +kernel
theorem dX10_propose_81 : decode cX10_propose 81 = .ok (.iload_n 2, 1) := by decide +kernel
theorem dX10_propose_82 : decode cX10_propose 82 = .ok (.iadd, 1) := by decide +kernel
theorem dX10_propose_83 : decode cX10_propose 83 = .ok (.iaload, 1) := by decide +kernel
theorem dX10_propose_84 : decode cX10_propose 84 = .ok (.istore 5, 2) := by decide +kernel
theorem dX10_propose_86 : decode cX10_propose 86 = .ok (.iload_n 2, 1) := by decide +kernel
theorem dX10_propose_87 : decode cX10_propose 87 = .ok (.iconst 1, 1) := by decide +kernel
theorem dX10_propose_88 : decode cX10_propose 88 = .ok (.iadd, 1) := by decide +kernel
theorem dX10_propose_89 : decode cX10_propose 89 = .ok (.istore 9, 2) := by decide +kernel
theorem dX10_propose_91 : decode cX10_propose 91 = .ok (.iload 9, 2) := by decide +kernel
theorem dX10_propose_93 : decode cX10_propose 93 = .ok (.bipush 100, 2) := by decide +kernel
theorem dX10_propose_95 : decode cX10_propose 95 = .ok (.if_icmp .ge 34, 3) := by decide +kernel
theorem dX10_propose_98 : decode cX10_propose 98 = .ok (.iload 6, 2) := by decide +kernel
theorem dX10_propose_100 : decode cX10_propose 100 = .ok (.ifCond .ne 16, 3) := by decide +kernel
theorem dX10_propose_103 : decode cX10_propose 103 = .ok (.aload_n 0, 1) := by decide +kernel
theorem dX10_propose_104 : decode cX10_propose 104 = .ok (.getfield 59, 3) := by decide +kernel
theorem dX10_propose_107 : decode cX10_propose 107 = .ok (.iload 8, 2) := by decide +kernel
theorem dX10_propose_109 : decode cX10_propose 109 = .ok (.iload 9, 2) := by decide +kernel
theorem dX10_propose_111 : decode cX10_propose 111 = .ok (.iadd, 1) := by decide +kernel
theorem dX10_propose_112 : decode cX10_propose 112 = .ok (.iaload, 1) := by decide +kernel
theorem dX10_propose_113 : decode cX10_propose 113 = .ok (.ifCond .le 7, 3) := by decide +kernel
theorem dX10_propose_116 : decode cX10_propose 116 = .ok (.iconst 1, 1) := by decide +kernel
theorem dX10_propose_117 : decode cX10_propose 117 = .ok (.goto 4, 3) := by decide +kernel
theorem dX10_propose_120 : decode cX10_propose 120 = .ok (.iconst 0, 1) := by decide +kernel
theorem dX10_propose_121 : decode cX10_propose 121 = .ok (.istore 6, 2) := by decide +kernel
theorem dX10_propose_123 : decode cX10_propose 123 = .ok (.iinc 9 1, 3) := by decide +kernel
theorem dX10_propose_126 : decode cX10_propose 126 = .ok (.goto (-35), 3) := by decide +kernel
theorem dX10_propose_129 : decode cX10_propose 129 = .ok (.iinc 7 1, 3) := by decide +kernel
theorem dX10_propose_132 : decode cX10_propose 132 = .ok (.goto (-113), 3) := by decide +kernel
theorem dX10_propose_135 : decode cX10_propose 135 = .ok (.iload 4, 2) := by decide +kernel
theorem dX10_propose_137 : decode cX10_propose 137 = .ok (.ifCond .ne 86, 3) := by decide +kernel
theorem dX10_propose_140 : decode cX10_propose 140 = .ok (.iload 6, 2) := by decide +kernel
theorem dX10_propose_142 : decode cX10_propose 142 = .ok (.ifCond .ne 81, 3) := by decide +kernel
theorem dX10_propose_145 : decode cX10_propose 145 = .ok (.aload_n 0, 1) := by decide +kernel
theorem dX10_propose_146 : decode cX10_propose 146 = .ok (.getfield 35, 3) := by decide +kernel
theorem dX10_propose_149 : decode cX10_propose 149 = .ok (.iload_n 1, 1) := by decide +kernel
theorem dX10_propose_150 : decode cX10_propose 150 = .ok (.iaload, 1) := by decide +kernel
theorem dX10_propose_151 : decode cX10_propose 151 = .ok (.ifCond .ne 5, 3) := by decide +kernel
theorem dX10_propose_154 : decode cX10_propose 154 = .ok (.iconst 0, 1) := by decide +kernel
theorem dX10_propose_155 : decode cX10_propose 155 = .ok (.ireturn, 1) := by decide +kernel
theorem dX10_propose_156 : decode cX10_propose 156 = .ok (.aload_n 0, 1) := by decide +kernel
theorem dX10_propose_157 : decode cX10_propose 157 = .ok (.getfield 38, 3) := by decide +kernel
theorem dX10_propose_160 : decode cX10_propose 160 = .ok (.bipush 64, 2) := by decide +kernel
theorem dX10_propose_162 : decode cX10_propose 162 = .ok (.iload_n 1, 1) := by decide +kernel
theorem dX10_propose_163 : decode cX10_propose 163 = .ok (.imul, 1) := by decide +kernel
theorem dX10_propose_164 : decode cX10_propose 164 = .ok (.iaload, 1) := by decide +kernel
theorem dX10_propose_165 : decode cX10_propose 165 = .ok (.istore 5, 2) := by decide +kernel
theorem dX10_propose_167 : decode cX10_propose 167 = .ok (.aload_n 0, 1) := by decide +kernel
theorem dX10_propose_168 : decode cX10_propose 168 = .ok (.getfield 35, 3) := by decide +kernel
theorem dX10_propose_171 : decode cX10_propose 171 = .ok (.iload_n 1, 1) := by decide +kernel
theorem dX10_propose_172 : decode cX10_propose 172 = .ok (.dup2, 1) := by decide +kernel
theorem dX10_propose_173 : decode cX10_propose 173 = .ok (.iaload, 1) := by decide +kernel
theorem dX10_propose_174 : decode cX10_propose 174 = .ok (.iconst 1, 1) := by decide +kernel
theorem dX10_propose_175 : decode cX10_propose 175 = .ok (.isub, 1) := by decide +kernel
theorem dX10_propose_176 : decode cX10_propose 176 = .ok (.iastore, 1) := by decide +kernel
theorem dX10_propose_177 : decode cX10_propose 177 = .ok (.iconst 0, 1) := by decide +kernel
theorem dX10_propose_178 : decode cX10_propose 178 = .ok (.istore 7, 2) := by decide +kernel
theorem dX10_propose_180 : decode cX10_propose 180 = .ok (.iload 7, 2) := by decide +kernel
theorem dX10_propose_182 : decode cX10_propose 182 = .ok (.aload_n 0, 1) := by decide +kernel
theorem dX10_propose_183 : decode cX10_propose 183 = .ok (.getfield 35, 3) := by decide +kernel
theorem dX10_propose_186 : decode cX10_propose 186 = .ok (.iload_n 1, 1) := by decide +kernel
theorem dX10_propose_187 : decode cX10_propose 187 = .ok (.iaload, 1) := by decide +kernel
theorem dX10_propose_188 : decode cX10_propose 188 = .ok (.if_icmp .ge 35, 3) := by decide +kernel
theorem dX10_propose_191 : decode cX10_propose 191 = .ok (.aload_n 0, 1) := by decide +kernel
theorem dX10_propose_192 : decode cX10_propose 192 = .ok (.getfield 38, 3) := by decide +kernel
theorem dX10_propose_195 : decode cX10_propose 195 = .ok (.bipush 64, 2) := by decide +kernel
theorem dX10_propose_197 : decode cX10_propose 197 = .ok (.iload_n 1, 1) := by decide +kernel
theorem dX10_propose_198 : decode cX10_propose 198 = .ok (.imul, 1) := by decide +kernel
theorem dX10_propose_199 : decode cX10_propose 199 = .ok (.iload 7, 2) := by decide +kernel
theorem dX10_propose_201 : decode cX10_propose 201 = .ok (.iadd, 1) := by decide +kernel
theorem dX10_propose_202 : decode cX10_propose 202 = .ok (.aload_n 0, 1) := by decide +kernel
theorem dX10_propose_203 : decode cX10_propose 203 = .ok (.getfield 38, 3) := by decide +kernel
theorem dX10_propose_206 : decode cX10_propose 206 = .ok (.bipush 64, 2) := by decide +kernel
theorem dX10_propose_208 : decode cX10_propose 208 = .ok (.iload_n 1, 1) := by decide +kernel
theorem dX10_propose_209 : decode cX10_propose 209 = .ok (.imul, 1) := by decide +kernel
theorem dX10_propose_210 : decode cX10_propose 210 = .ok (.iload 7, 2) := by decide +kernel
theorem dX10_propose_212 : decode cX10_propose 212 = .ok (.iadd, 1) := by decide +kernel
theorem dX10_propose_213 : decode cX10_propose 213 = .ok (.iconst 1, 1) := by decide +kernel
theorem dX10_propose_214 : decode cX10_propose 214 = .ok (.iadd, 1) := by decide +kernel
theorem dX10_propose_215 : decode cX10_propose 215 = .ok (.iaload, 1) := by decide +kernel
theorem dX10_propose_216 : decode cX10_propose 216 = .ok (.iastore, 1) := by decide +kernel
theorem dX10_propose_217 : decode cX10_propose 217 = .ok (.iinc 7 1, 3) := by decide +kernel
theorem dX10_propose_220 : decode cX10_propose 220 = .ok (.goto (-40), 3) := by decide +kernel
theorem dX10_propose_223 : decode cX10_propose 223 = .ok (.bipush 100, 2) := by decide +kernel
theorem dX10_propose_225 : decode cX10_propose 225 = .ok (.iload_n 1, 1) := by decide +kernel
theorem dX10_propose_226 : decode cX10_propose 226 = .ok (.imul, 1) := by decide +kernel
theorem dX10_propose_227 : decode cX10_propose 227 = .ok (.iload_n 2, 1) := by decide +kernel
theorem dX10_propose_228 : decode cX10_propose 228 = .ok (.iadd, 1) := by decide +kernel
theorem dX10_propose_229 : decode cX10_propose 229 = .ok (.istore 7, 2) := by decide +kernel
theorem dX10_propose_231 : decode cX10_propose 231 = .ok (.aload_n 0, 1) := by decide +kernel
theorem dX10_propose_232 : decode cX10_propose 232 = .ok (.getfield 65, 3) := by decide +kernel
theorem dX10_propose_235 : decode cX10_propose 235 = .ok (.iload 7, 2) := by decide +kernel
theorem dX10_propose_237 : decode cX10_propose 237 = .ok (.iconst 1, 1) := by decide +kernel
theorem dX10_propose_238 : decode cX10_propose 238 = .ok (.bastore, 1) := by decide +kernel
theorem dX10_propose_239 : decode cX10_propose 239 = .ok (.aload_n 0, 1) := by decide +kernel
theorem dX10_propose_240 : decode cX10_propose 240 = .ok (.getfield 68, 3) := by decide +kernel
theorem dX10_propose_243 : decode cX10_propose 243 = .ok (.iload 7, 2) := by decide +kernel
theorem dX10_propose_245 : decode cX10_propose 245 = .ok (.iload 5, 2) := by decide +kernel
theorem dX10_propose_247 : decode cX10_propose 247 = .ok (.iastore, 1) := by decide +kernel
theorem dX10_propose_248 : decode cX10_propose 248 = .ok (.aload_n 0, 1) := by decide +kernel
theorem dX10_propose_249 : decode cX10_propose 249 = .ok (.getfield 71, 3) := by decide +kernel
theorem dX10_propose_252 : decode cX10_propose 252 = .ok (.iload 7, 2) := by decide +kernel
theorem dX10_propose_254 : decode cX10_propose 254 = .ok (.iconst 0, 1) := by decide +kernel
theorem dX10_propose_255 : decode cX10_propose 255 = .ok (.iastore, 1) := by decide +kernel
theorem dX10_propose_256 : decode cX10_propose 256 = .ok (.aload_n 0, 1) := by decide +kernel
theorem dX10_propose_257 : decode cX10_propose 257 = .ok (.getfield 74, 3) := by decide +kernel
theorem dX10_propose_260 : decode cX10_propose 260 = .ok (.iload 7, 2) := by decide +kernel
theorem dX10_propose_262 : decode cX10_propose 262 = .ok (.iconst 0, 1) := by decide +kernel
theorem dX10_propose_263 : decode cX10_propose 263 = .ok (.iastore, 1) := by decide +kernel
theorem dX10_propose_264 : decode cX10_propose 264 = .ok (.aload_n 0, 1) := by decide +kernel
theorem dX10_propose_265 : decode cX10_propose 265 = .ok (.iload_n 1, 1) := by decide +kernel
theorem dX10_propose_266 : decode cX10_propose 266 = .ok (.aload_n 0, 1) := by decide +kernel
theorem dX10_propose_267 : decode cX10_propose 267 = .ok (.iload_n 1, 1) := by decide +kernel
theorem dX10_propose_268 : decode cX10_propose 268 = .ok (.iload_n 2, 1) := by decide +kernel
theorem dX10_propose_269 : decode cX10_propose 269 = .ok (.invokevirtual 130, 3) := by decide +kernel
theorem dX10_propose_272 : decode cX10_propose 272 = .ok (.iconst 3, 1) := by decide +kernel
theorem dX10_propose_273 : decode cX10_propose 273 = .ok (.aload_n 0, 1) := by decide +kernel
theorem dX10_propose_274 : decode cX10_propose 274 = .ok (.getfield 47, 3) := by decide +kernel
theorem dX10_propose_277 : decode cX10_propose 277 = .ok (.iload_n 1, 1) := by decide +kernel
theorem dX10_propose_278 : decode cX10_propose 278 = .ok (.iaload, 1) := by decide +kernel
theorem dX10_propose_279 : decode cX10_propose 279 = .ok (.iload_n 2, 1) := by decide +kernel
theorem dX10_propose_280 : decode cX10_propose 280 = .ok (.iload 5, 2) := by decide +kernel
theorem dX10_propose_282 : decode cX10_propose 282 = .ok (.invokevirtual 179, 3) := by decide +kernel
theorem dX10_propose_285 : decode cX10_propose 285 = .ok (.iconst 1, 1) := by decide +kernel
theorem dX10_propose_286 : decode cX10_propose 286 = .ok (.ireturn, 1) := by decide +kernel
theorem dX10_finish_0 : decode cX10_finish 0 = .ok (.iconst 1, 1) := by decide +kernel
theorem dX10_finish_1 : decode cX10_finish 1 = .ok (.istore_n 2, 1) := by decide +kernel
theorem dX10_finish_2 : decode cX10_finish 2 = .ok (.iload_n 2, 1) := by decide +kernel
theorem dX10_finish_3 : decode cX10_finish 3 = .ok (.ifCond .eq 105, 3) := by decide +kernel
theorem dX10_finish_6 : decode cX10_finish 6 = .ok (.aload_n 0, 1) := by decide +kernel
theorem dX10_finish_7 : decode cX10_finish 7 = .ok (.getfield 148, 3) := by decide +kernel
theorem dX10_finish_10 : decode cX10_finish 10 = .ok (.ifCond .le 69, 3) := by decide +kernel
theorem dX10_finish_13 : decode cX10_finish 13 = .ok (.aload_n 0, 1) := by decide +kernel
theorem dX10_finish_14 : decode cX10_finish 14 = .ok (.getfield 89, 3) := by decide +kernel
theorem dX10_finish_17 : decode cX10_finish 17 = .ok (.iconst 0, 1) := by decide +kernel
theorem dX10_finish_18 : decode cX10_finish 18 = .ok (.iaload, 1) := by decide +kernel
theorem dX10_finish_19 : decode cX10_finish 19 = .ok (.istore_n 3, 1) := by decide +kernel
theorem dX10_finish_20 : decode cX10_finish 20 = .ok (.aload_n 0, 1) := by decide +kernel
theorem dX10_finish_21 : decode cX10_finish 21 = .ok (.dup, 1) := by decide +kernel
theorem dX10_finish_22 : decode cX10_finish 22 = .ok (.getfield 148, 3) := by decide +kernel
theorem dX10_finish_25 : decode cX10_finish 25 = .ok (.iconst 1, 1) := by decide +kernel
theorem dX10_finish_26 : decode cX10_finish 26 = .ok (.isub, 1) := by decide +kernel
theorem dX10_finish_27 : decode cX10_finish 27 = .ok (.putfield 148, 3) := by decide +kernel
theorem dX10_finish_30 : decode cX10_finish 30 = .ok (.iconst 0, 1) := by decide +kernel
theorem dX10_finish_31 : decode cX10_finish 31 = .ok (.istore 4, 2) := by decide +kernel
theorem dX10_finish_33 : decode cX10_finish 33 = .ok (.iload 4, 2) := by decide +kernel
theorem dX10_finish_35 : decode cX10_finish 35 = .ok (.aload_n 0, 1) := by decide +kernel
theorem dX10_finish_36 : decode cX10_finish 36 = .ok (.getfield 148, 3) := by decide +kernel
theorem dX10_finish_39 : decode cX10_finish 39 = .ok (.if_icmp .ge 25, 3) := by decide +kernel
theorem dX10_finish_42 : decode cX10_finish 42 = .ok (.aload_n 0, 1) := by decide +kernel
theorem dX10_finish_43 : decode cX10_finish 43 = .ok (.getfield 89, 3) := by decide +kernel
theorem dX10_finish_46 : decode cX10_finish 46 = .ok (.iload 4, 2) := by decide +kernel
theorem dX10_finish_48 : decode cX10_finish 48 = .ok (.aload_n 0, 1) := by decide +kernel
theorem dX10_finish_49 : decode cX10_finish 49 = .ok (.getfield 89, 3) := by decide +kernel
theorem dX10_finish_52 : decode cX10_finish 52 = .ok (.iload 4, 2) := by decide +kernel
theorem dX10_finish_54 : decode cX10_finish 54 = .ok (.iconst 1, 1) := by decide +kernel
theorem dX10_finish_55 : decode cX10_finish 55 = .ok (.iadd, 1) := by decide +kernel
theorem dX10_finish_56 : decode cX10_finish 56 = .ok (.iaload, 1) := by decide +kernel
theorem dX10_finish_57 : decode cX10_finish 57 = .ok (.iastore, 1) := by decide +kernel
theorem dX10_finish_58 : decode cX10_finish 58 = .ok (.iinc 4 1, 3) := by decide +kernel
theorem dX10_finish_61 : decode cX10_finish 61 = .ok (.goto (-28), 3) := by decide +kernel
theorem dX10_finish_64 : decode cX10_finish 64 = .ok (.aload_n 0, 1) := by decide +kernel
theorem dX10_finish_65 : decode cX10_finish 65 = .ok (.iload_n 3, 1) := by decide +kernel
theorem dX10_finish_66 : decode cX10_finish 66 = .ok (.invokevirtual 190, 3) := by decide +kernel
theorem dX10_finish_69 : decode cX10_finish 69 = .ok (.aload_n 0, 1) := by decide +kernel
theorem dX10_finish_70 : decode cX10_finish 70 = .ok (.getfield 92, 3) := by decide +kernel
theorem dX10_finish_73 : decode cX10_finish 73 = .ok (.iload_n 3, 1) := by decide +kernel
theorem dX10_finish_74 : decode cX10_finish 74 = .ok (.iconst 0, 1) := by decide +kernel
theorem dX10_finish_75 : decode cX10_finish 75 = .ok (.bastore, 1) := by decide +kernel
theorem dX10_finish_76 : decode cX10_finish 76 = .ok (.goto (-70), 3) := by decide +kernel
theorem dX10_finish_79 : decode cX10_finish 79 = .ok (.iload_n 1, 1) := by decide +kernel
theorem dX10_finish_80 : decode cX10_finish 80 = .ok (.aload_n 0, 1) := by decide +kernel
theorem dX10_finish_81 : decode cX10_finish 81 = .ok (.getfield 120, 3) := by decide +kernel
theorem dX10_finish_84 : decode cX10_finish 84 = .ok (.if_icmp .ge 8, 3) := by decide +kernel
theorem dX10_finish_87 : decode cX10_finish 87 = .ok (.aload_n 0, 1) := by decide +kernel
theorem dX10_finish_88 : decode cX10_finish 88 = .ok (.iload_n 1, 1) := by decide +kernel
theorem dX10_finish_89 : decode cX10_finish 89 = .ok (.invokevirtual 193, 3) := by decide +kernel
theorem dX10_finish_92 : decode cX10_finish 92 = .ok (.aload_n 0, 1) := by decide +kernel
theorem dX10_finish_93 : decode cX10_finish 93 = .ok (.getfield 148, 3) := by decide +kernel
theorem dX10_finish_96 : decode cX10_finish 96 = .ok (.ifCond .le 7, 3) := by decide +kernel
theorem dX10_finish_99 : decode cX10_finish 99 = .ok (.iconst 1, 1) := by decide +kernel
theorem dX10_finish_100 : decode cX10_finish 100 = .ok (.goto 4, 3) := by decide +kernel
theorem dX10_finish_103 : decode cX10_finish 103 = .ok (.iconst 0, 1) := by decide +kernel
theorem dX10_finish_104 : decode cX10_finish 104 = .ok (.istore_n 2, 1) := by decide +kernel
theorem dX10_finish_105 : decode cX10_finish 105 = .ok (.goto (-103), 3) := by decide +kernel
theorem dX10_finish_108 : decode cX10_finish 108 = .ok (.return_, 1) := by decide +kernel
theorem dX10_isMain_0 : decode cX10_isMain 0 = .ok (.iload_n 1, 1) := by decide +kernel
theorem dX10_isMain_1 : decode cX10_isMain 1 = .ok (.iconst 0, 1) := by decide +kernel
theorem dX10_isMain_2 : decode cX10_isMain 2 = .ok (.aload_n 0, 1) := by decide +kernel
theorem dX10_isMain_3 : decode cX10_isMain 3 = .ok (.getfield 120, 3) := by decide +kernel
theorem dX10_isMain_6 : decode cX10_isMain 6 = .ok (.iconst 1, 1) := by decide +kernel
theorem dX10_isMain_7 : decode cX10_isMain 7 = .ok (.isub, 1) := by decide +kernel
theorem dX10_isMain_8 : decode cX10_isMain 8 = .ok (.invokestatic 196, 3) := by decide +kernel
theorem dX10_isMain_11 : decode cX10_isMain 11 = .ok (.ireturn, 1) := by decide +kernel
theorem dX10_isNode_0 : decode cX10_isNode 0 = .ok (.iload_n 1, 1) := by decide +kernel
theorem dX10_isNode_1 : decode cX10_isNode 1 = .ok (.iconst 0, 1) := by decide +kernel
theorem dX10_isNode_2 : decode cX10_isNode 2 = .ok (.aload_n 0, 1) := by decide +kernel
theorem dX10_isNode_3 : decode cX10_isNode 3 = .ok (.getfield 124, 3) := by decide +kernel
theorem dX10_isNode_6 : decode cX10_isNode 6 = .ok (.iconst 1, 1) := by decide +kernel
theorem dX10_isNode_7 : decode cX10_isNode 7 = .ok (.isub, 1) := by decide +kernel
theorem dX10_isNode_8 : decode cX10_isNode 8 = .ok (.invokestatic 196, 3) := by decide +kernel
theorem dX10_isNode_11 : decode cX10_isNode 11 = .ok (.ireturn, 1) := by decide +kernel
theorem dX10_submit_0 : decode cX10_submit 0 = .ok (.aload_n 0, 1) := by decide +kernel
theorem dX10_submit_1 : decode cX10_submit 1 = .ok (.aload_n 0, 1) := by decide +kernel
theorem dX10_submit_2 : decode cX10_submit 2 = .ok (.iload_n 1, 1) := by decide +kernel
theorem dX10_submit_3 : decode cX10_submit 3 = .ok (.invokevirtual 199, 3) := by decide +kernel
theorem dX10_submit_6 : decode cX10_submit 6 = .ok (.ifCond .ne 7, 3) := by decide +kernel
theorem dX10_submit_9 : decode cX10_submit 9 = .ok (.iconst 1, 1) := by decide +kernel
theorem dX10_submit_10 : decode cX10_submit 10 = .ok (.goto 37, 3) := by decide +kernel
theorem dX10_submit_13 : decode cX10_submit 13 = .ok (.iload_n 2, 1) := by decide +kernel
theorem dX10_submit_14 : decode cX10_submit 14 = .ok (.iconst 1, 1) := by decide +kernel
theorem dX10_submit_15 : decode cX10_submit 15 = .ok (.if_icmp .ge 7, 3) := by decide +kernel
theorem dX10_submit_18 : decode cX10_submit 18 = .ok (.iconst 2, 1) := by decide +kernel
theorem dX10_submit_19 : decode cX10_submit 19 = .ok (.goto 28, 3) := by decide +kernel
theorem dX10_submit_22 : decode cX10_submit 22 = .ok (.aload_n 0, 1) := by decide +kernel
theorem dX10_submit_23 : decode cX10_submit 23 = .ok (.getfield 7, 3) := by decide +kernel
theorem dX10_submit_26 : decode cX10_submit 26 = .ok (.iload_n 1, 1) := by decide +kernel
theorem dX10_submit_27 : decode cX10_submit 27 = .ok (.baload, 1) := by decide +kernel
theorem dX10_submit_28 : decode cX10_submit 28 = .ok (.ifCond .ne 14, 3) := by decide +kernel
theorem dX10_submit_31 : decode cX10_submit 31 = .ok (.aload_n 0, 1) := by decide +kernel
theorem dX10_submit_32 : decode cX10_submit 32 = .ok (.getfield 35, 3) := by decide +kernel
theorem dX10_submit_35 : decode cX10_submit 35 = .ok (.iload_n 1, 1) := by decide +kernel
theorem dX10_submit_36 : decode cX10_submit 36 = .ok (.iaload, 1) := by decide +kernel
theorem dX10_submit_37 : decode cX10_submit 37 = .ok (.bipush 20, 2) := by decide +kernel
theorem dX10_submit_39 : decode cX10_submit 39 = .ok (.if_icmp .lt 7, 3) := by decide +kernel
theorem dX10_submit_42 : decode cX10_submit 42 = .ok (.iconst 3, 1) := by decide +kernel
theorem dX10_submit_43 : decode cX10_submit 43 = .ok (.goto 4, 3) := by decide +kernel
theorem dX10_submit_46 : decode cX10_submit 46 = .ok (.iconst 0, 1) := by decide +kernel
theorem dX10_submit_47 : decode cX10_submit 47 = .ok (.putfield 127, 3) := by decide +kernel
theorem dX10_submit_50 : decode cX10_submit 50 = .ok (.aload_n 0, 1) := by decide +kernel
theorem dX10_submit_51 : decode cX10_submit 51 = .ok (.getfield 127, 3) := by decide +kernel
theorem dX10_submit_54 : decode cX10_submit 54 = .ok (.ifCond .le 5, 3) := by decide +kernel
theorem dX10_submit_57 : decode cX10_submit 57 = .ok (.iconst 0, 1) := by decide +kernel
theorem dX10_submit_58 : decode cX10_submit 58 = .ok (.ireturn, 1) := by decide +kernel
theorem dX10_submit_59 : decode cX10_submit 59 = .ok (.aload_n 0, 1) := by decide +kernel
theorem dX10_submit_60 : decode cX10_submit 60 = .ok (.getfield 38, 3) := by decide +kernel
theorem dX10_submit_63 : decode cX10_submit 63 = .ok (.bipush 64, 2) := by decide +kernel
theorem dX10_submit_65 : decode cX10_submit 65 = .ok (.iload_n 1, 1) := by decide +kernel
theorem dX10_submit_66 : decode cX10_submit 66 = .ok (.imul, 1) := by decide +kernel
theorem dX10_submit_67 : decode cX10_submit 67 = .ok (.aload_n 0, 1) := by decide +kernel
theorem dX10_submit_68 : decode cX10_submit 68 = .ok (.getfield 35, 3) := by decide +kernel
theorem dX10_submit_71 : decode cX10_submit 71 = .ok (.iload_n 1, 1) := by decide +kernel
theorem dX10_submit_72 : decode cX10_submit 72 = .ok (.iaload, 1) := by decide +kernel
theorem dX10_submit_73 : decode cX10_submit 73 = .ok (.iadd, 1) := by decide +kernel
theorem dX10_submit_74 : decode cX10_submit 74 = .ok (.iload_n 2, 1) := by decide +kernel
theorem dX10_submit_75 : decode cX10_submit 75 = .ok (.iastore, 1) := by decide +kernel
theorem dX10_submit_76 : decode cX10_submit 76 = .ok (.aload_n 0, 1) := by decide +kernel
theorem dX10_submit_77 : decode cX10_submit 77 = .ok (.getfield 35, 3) := by decide +kernel
theorem dX10_submit_80 : decode cX10_submit 80 = .ok (.iload_n 1, 1) := by decide +kernel
theorem dX10_submit_81 : decode cX10_submit 81 = .ok (.dup2, 1) := by decide +kernel
theorem dX10_submit_82 : decode cX10_submit 82 = .ok (.iaload, 1) := by decide +kernel
theorem dX10_submit_83 : decode cX10_submit 83 = .ok (.iconst 1, 1) := by decide +kernel
theorem dX10_submit_84 : decode cX10_submit 84 = .ok (.iadd, 1) := by decide +kernel
theorem dX10_submit_85 : decode cX10_submit 85 = .ok (.iastore, 1) := by decide +kernel
theorem dX10_submit_86 : decode cX10_submit 86 = .ok (.aload_n 0, 1) := by decide +kernel
theorem dX10_submit_87 : decode cX10_submit 87 = .ok (.iload_n 1, 1) := by decide +kernel
theorem dX10_submit_88 : decode cX10_submit 88 = .ok (.invokevirtual 203, 3) := by decide +kernel
theorem dX10_submit_91 : decode cX10_submit 91 = .ok (.aload_n 0, 1) := by decide +kernel
theorem dX10_submit_92 : decode cX10_submit 92 = .ok (.getfield 35, 3) := by decide +kernel
theorem dX10_submit_95 : decode cX10_submit 95 = .ok (.iload_n 1, 1) := by decide +kernel
theorem dX10_submit_96 : decode cX10_submit 96 = .ok (.iaload, 1) := by decide +kernel
theorem dX10_submit_97 : decode cX10_submit 97 = .ok (.ireturn, 1) := by decide +kernel
theorem dX10_campaign_0 : decode cX10_campaign 0 = .ok (.aload_n 0, 1) := by decide +kernel
theorem dX10_campaign_1 : decode cX10_campaign 1 = .ok (.iload_n 1, 1) := by decide +kernel
theorem dX10_campaign_2 : decode cX10_campaign 2 = .ok (.invokevirtual 199, 3) := by decide +kernel
theorem dX10_campaign_5 : decode cX10_campaign 5 = .ok (.ifCond .ne 10, 3) := by decide +kernel
theorem dX10_campaign_8 : decode cX10_campaign 8 = .ok (.aload_n 0, 1) := by decide +kernel
theorem dX10_campaign_9 : decode cX10_campaign 9 = .ok (.iconst 1, 1) := by decide +kernel
theorem dX10_campaign_10 : decode cX10_campaign 10 = .ok (.putfield 127, 3) := by decide +kernel
theorem dX10_campaign_13 : decode cX10_campaign 13 = .ok (.iconst 0, 1) := by decide +kernel
theorem dX10_campaign_14 : decode cX10_campaign 14 = .ok (.ireturn, 1) := by decide +kernel
theorem dX10_campaign_15 : decode cX10_campaign 15 = .ok (.aload_n 0, 1) := by decide +kernel
theorem dX10_campaign_16 : decode cX10_campaign 16 = .ok (.getfield 44, 3) := by decide +kernel
theorem dX10_campaign_19 : decode cX10_campaign 19 = .ok (.iload_n 1, 1) := by decide +kernel
theorem dX10_campaign_20 : decode cX10_campaign 20 = .ok (.iaload, 1) := by decide +kernel
theorem dX10_campaign_21 : decode cX10_campaign 21 = .ok (.ifCond .eq 27, 3) := by decide +kernel
theorem dX10_campaign_24 : decode cX10_campaign 24 = .ok (.aload_n 0, 1) := by decide +kernel
theorem dX10_campaign_25 : decode cX10_campaign 25 = .ok (.getfield 47, 3) := by decide +kernel
theorem dX10_campaign_28 : decode cX10_campaign 28 = .ok (.iload_n 1, 1) := by decide +kernel
theorem dX10_campaign_29 : decode cX10_campaign 29 = .ok (.iaload, 1) := by decide +kernel
theorem dX10_campaign_30 : decode cX10_campaign 30 = .ok (.aload_n 0, 1) := by decide +kernel
theorem dX10_campaign_31 : decode cX10_campaign 31 = .ok (.getfield 13, 3) := by decide +kernel
theorem dX10_campaign_34 : decode cX10_campaign 34 = .ok (.iload_n 1, 1) := by decide +kernel
theorem dX10_campaign_35 : decode cX10_campaign 35 = .ok (.iaload, 1) := by decide +kernel
theorem dX10_campaign_36 : decode cX10_campaign 36 = .ok (.if_icmp .le 12, 3) := by decide +kernel
theorem dX10_campaign_39 : decode cX10_campaign 39 = .ok (.aload_n 0, 1) := by decide +kernel
theorem dX10_campaign_40 : decode cX10_campaign 40 = .ok (.getfield 47, 3) := by decide +kernel
theorem dX10_campaign_43 : decode cX10_campaign 43 = .ok (.iload_n 1, 1) := by decide +kernel
theorem dX10_campaign_44 : decode cX10_campaign 44 = .ok (.iaload, 1) := by decide +kernel
theorem dX10_campaign_45 : decode cX10_campaign 45 = .ok (.goto 9, 3) := by decide +kernel
theorem dX10_campaign_48 : decode cX10_campaign 48 = .ok (.aload_n 0, 1) := by decide +kernel
theorem dX10_campaign_49 : decode cX10_campaign 49 = .ok (.getfield 13, 3) := by decide +kernel
theorem dX10_campaign_52 : decode cX10_campaign 52 = .ok (.iload_n 1, 1) := by decide +kernel
theorem dX10_campaign_53 : decode cX10_campaign 53 = .ok (.iaload, 1) := by decide +kernel
theorem dX10_campaign_54 : decode cX10_campaign 54 = .ok (.istore_n 2, 1) := by decide +kernel
theorem dX10_campaign_55 : decode cX10_campaign 55 = .ok (.iconst 1, 1) := by decide +kernel
theorem dX10_campaign_56 : decode cX10_campaign 56 = .ok (.istore_n 3, 1) := by decide +kernel
theorem dX10_campaign_57 : decode cX10_campaign 57 = .ok (.bipush 8, 2) := by decide +kernel
theorem dX10_campaign_59 : decode cX10_campaign 59 = .ok (.iload_n 3, 1) := by decide +kernel
theorem dX10_campaign_60 : decode cX10_campaign 60 = .ok (.imul, 1) := by decide +kernel
theorem dX10_campaign_61 : decode cX10_campaign 61 = .ok (.iload_n 1, 1) := by decide +kernel
theorem dX10_campaign_62 : decode cX10_campaign 62 = .ok (.iadd, 1) := by decide +kernel
theorem dX10_campaign_63 : decode cX10_campaign 63 = .ok (.iload_n 2, 1) := by decide +kernel
theorem dX10_campaign_64 : decode cX10_campaign 64 = .ok (.if_icmp .gt 9, 3) := by decide +kernel
theorem dX10_campaign_67 : decode cX10_campaign 67 = .ok (.iinc 3 1, 3) := by decide +kernel
theorem dX10_campaign_70 : decode cX10_campaign 70 = .ok (.goto (-13), 3) := by decide +kernel
theorem dX10_campaign_73 : decode cX10_campaign 73 = .ok (.aload_n 0, 1) := by decide +kernel
theorem dX10_campaign_74 : decode cX10_campaign 74 = .ok (.getfield 7, 3) := by decide +kernel
theorem dX10_campaign_77 : decode cX10_campaign 77 = .ok (.iload_n 1, 1) := by decide +kernel
theorem dX10_campaign_78 : decode cX10_campaign 78 = .ok (.baload, 1) := by decide +kernel
theorem dX10_campaign_79 : decode cX10_campaign 79 = .ok (.ifCond .ne 44, 3) := by decide +kernel
theorem dX10_campaign_82 : decode cX10_campaign 82 = .ok (.aload_n 0, 1) := by decide +kernel
theorem dX10_campaign_83 : decode cX10_campaign 83 = .ok (.getfield 32, 3) := by decide +kernel
theorem dX10_campaign_86 : decode cX10_campaign 86 = .ok (.iload_n 1, 1) := by decide +kernel
theorem dX10_campaign_87 : decode cX10_campaign 87 = .ok (.iaload, 1) := by decide +kernel
theorem dX10_campaign_88 : decode cX10_campaign 88 = .ok (.bipush 100, 2) := by decide +kernel
theorem dX10_campaign_90 : decode cX10_campaign 90 = .ok (.if_icmp .ge 33, 3) := by decide +kernel
theorem dX10_campaign_93 : decode cX10_campaign 93 = .ok (.aload_n 0, 1) := by decide +kernel
theorem dX10_campaign_94 : decode cX10_campaign 94 = .ok (.iload_n 1, 1) := by decide +kernel
theorem dX10_campaign_95 : decode cX10_campaign 95 = .ok (.aload_n 0, 1) := by decide +kernel
theorem dX10_campaign_96 : decode cX10_campaign 96 = .ok (.getfield 32, 3) := by decide +kernel
theorem dX10_campaign_99 : decode cX10_campaign 99 = .ok (.iload_n 1, 1) := by decide +kernel
theorem dX10_campaign_100 : decode cX10_campaign 100 = .ok (.iaload, 1) := by decide +kernel
theorem dX10_campaign_101 : decode cX10_campaign 101 = .ok (.invokevirtual 130, 3) := by decide +kernel
theorem dX10_campaign_104 : decode cX10_campaign 104 = .ok (.iload_n 1, 1) := by decide +kernel
theorem dX10_campaign_105 : decode cX10_campaign 105 = .ok (.ishr, 1) := by decide +kernel
theorem dX10_campaign_106 : decode cX10_campaign 106 = .ok (.iconst 1, 1) := by decide +kernel
theorem dX10_campaign_107 : decode cX10_campaign 107 = .ok (.iand, 1) := by decide +kernel
theorem dX10_campaign_108 : decode cX10_campaign 108 = .ok (.iconst 1, 1) := by decide +kernel
theorem dX10_campaign_109 : decode cX10_campaign 109 = .ok (.if_icmp .ne 14, 3) := by decide +kernel
theorem dX10_campaign_112 : decode cX10_campaign 112 = .ok (.iload_n 3, 1) := by decide +kernel
theorem dX10_campaign_113 : decode cX10_campaign 113 = .ok (.sipush 1000, 3) := by decide +kernel
theorem dX10_campaign_116 : decode cX10_campaign 116 = .ok (.if_icmp .gt 7, 3) := by decide +kernel
theorem dX10_campaign_119 : decode cX10_campaign 119 = .ok (.iconst 1, 1) := by decide +kernel
theorem dX10_campaign_120 : decode cX10_campaign 120 = .ok (.goto 4, 3) := by decide +kernel
theorem dX10_campaign_123 : decode cX10_campaign 123 = .ok (.iconst 0, 1) := by decide +kernel
theorem dX10_campaign_124 : decode cX10_campaign 124 = .ok (.istore 4, 2) := by decide +kernel
theorem dX10_campaign_126 : decode cX10_campaign 126 = .ok (.iload 4, 2) := by decide +kernel
theorem dX10_campaign_128 : decode cX10_campaign 128 = .ok (.ifCond .ne 10, 3) := by decide +kernel
theorem dX10_campaign_131 : decode cX10_campaign 131 = .ok (.aload_n 0, 1) := by decide +kernel
theorem dX10_campaign_132 : decode cX10_campaign 132 = .ok (.iconst 2, 1) := by decide +kernel
theorem dX10_campaign_133 : decode cX10_campaign 133 = .ok (.putfield 127, 3) := by decide +kernel
theorem dX10_campaign_136 : decode cX10_campaign 136 = .ok (.iconst 0, 1) := by decide +kernel
theorem dX10_campaign_137 : decode cX10_campaign 137 = .ok (.ireturn, 1) := by decide +kernel
theorem dX10_campaign_138 : decode cX10_campaign 138 = .ok (.aload_n 0, 1) := by decide +kernel
theorem dX10_campaign_139 : decode cX10_campaign 139 = .ok (.iconst 0, 1) := by decide +kernel
theorem dX10_campaign_140 : decode cX10_campaign 140 = .ok (.putfield 127, 3) := by decide +kernel
theorem dX10_campaign_143 : decode cX10_campaign 143 = .ok (.aload_n 0, 1) := by decide +kernel
theorem dX10_campaign_144 : decode cX10_campaign 144 = .ok (.iload_n 1, 1) := by decide +kernel
theorem dX10_campaign_145 : decode cX10_campaign 145 = .ok (.invokevirtual 138, 3) := by decide +kernel
theorem dX10_campaign_148 : decode cX10_campaign 148 = .ok (.aload_n 0, 1) := by decide +kernel
theorem dX10_campaign_149 : decode cX10_campaign 149 = .ok (.getfield 44, 3) := by decide +kernel
theorem dX10_campaign_152 : decode cX10_campaign 152 = .ok (.iload_n 1, 1) := by decide +kernel
theorem dX10_campaign_153 : decode cX10_campaign 153 = .ok (.iconst 1, 1) := by decide +kernel
theorem dX10_campaign_154 : decode cX10_campaign 154 = .ok (.iastore, 1) := by decide +kernel
theorem dX10_campaign_155 : decode cX10_campaign 155 = .ok (.aload_n 0, 1) := by decide +kernel
theorem dX10_campaign_156 : decode cX10_campaign 156 = .ok (.getfield 47, 3) := by decide +kernel
theorem dX10_campaign_159 : decode cX10_campaign 159 = .ok (.iload_n 1, 1) := by decide +kernel
theorem dX10_campaign_160 : decode cX10_campaign 160 = .ok (.bipush 8, 2) := by decide +kernel
theorem dX10_campaign_162 : decode cX10_campaign 162 = .ok (.iload_n 3, 1) := by decide +kernel
theorem dX10_campaign_163 : decode cX10_campaign 163 = .ok (.imul, 1) := by decide +kernel
theorem dX10_campaign_164 : decode cX10_campaign 164 = .ok (.iload_n 1, 1) := by decide +kernel
theorem dX10_campaign_165 : decode cX10_campaign 165 = .ok (.iadd, 1) := by decide +kernel
theorem dX10_campaign_166 : decode cX10_campaign 166 = .ok (.iastore, 1) := by decide +kernel
theorem dX10_campaign_167 : decode cX10_campaign 167 = .ok (.aload_n 0, 1) := by decide +kernel
theorem dX10_campaign_168 : decode cX10_campaign 168 = .ok (.getfield 47, 3) := by decide +kernel
theorem dX10_campaign_171 : decode cX10_campaign 171 = .ok (.iload_n 1, 1) := by decide +kernel
theorem dX10_campaign_172 : decode cX10_campaign 172 = .ok (.iaload, 1) := by decide +kernel
theorem dX10_campaign_173 : decode cX10_campaign 173 = .ok (.istore 5, 2) := by decide +kernel
theorem dX10_campaign_175 : decode cX10_campaign 175 = .ok (.aload_n 0, 1) := by decide +kernel
theorem dX10_campaign_176 : decode cX10_campaign 176 = .ok (.iload_n 1, 1) := by decide +kernel
theorem dX10_campaign_177 : decode cX10_campaign 177 = .ok (.aload_n 0, 1) := by decide +kernel
theorem dX10_campaign_178 : decode cX10_campaign 178 = .ok (.iload_n 1, 1) := by decide +kernel
theorem dX10_campaign_179 : decode cX10_campaign 179 = .ok (.aload_n 0, 1) := by decide +kernel
theorem dX10_campaign_180 : decode cX10_campaign 180 = .ok (.getfield 32, 3) := by decide +kernel
theorem dX10_campaign_183 : decode cX10_campaign 183 = .ok (.iload_n 1, 1) := by decide +kernel
theorem dX10_campaign_184 : decode cX10_campaign 184 = .ok (.iaload, 1) := by decide +kernel
theorem dX10_campaign_185 : decode cX10_campaign 185 = .ok (.invokevirtual 130, 3) := by decide +kernel
theorem dX10_campaign_188 : decode cX10_campaign 188 = .ok (.iconst 1, 1) := by decide +kernel
theorem dX10_campaign_189 : decode cX10_campaign 189 = .ok (.iload 5, 2) := by decide +kernel
theorem dX10_campaign_191 : decode cX10_campaign 191 = .ok (.aload_n 0, 1) := by decide +kernel
theorem dX10_campaign_192 : decode cX10_campaign 192 = .ok (.getfield 32, 3) := by decide +kernel
theorem dX10_campaign_195 : decode cX10_campaign 195 = .ok (.iload_n 1, 1) := by decide +kernel
theorem dX10_campaign_196 : decode cX10_campaign 196 = .ok (.iaload, 1) := by decide +kernel
theorem dX10_campaign_197 : decode cX10_campaign 197 = .ok (.iconst 0, 1) := by decide +kernel
theorem dX10_campaign_198 : decode cX10_campaign 198 = .ok (.invokevirtual 179, 3) := by decide +kernel
theorem dX10_campaign_201 : decode cX10_campaign 201 = .ok (.aload_n 0, 1) := by decide +kernel
theorem dX10_campaign_202 : decode cX10_campaign 202 = .ok (.iload_n 1, 1) := by decide +kernel
theorem dX10_campaign_203 : decode cX10_campaign 203 = .ok (.invokevirtual 203, 3) := by decide +kernel
theorem dX10_campaign_206 : decode cX10_campaign 206 = .ok (.iload 5, 2) := by decide +kernel
theorem dX10_campaign_208 : decode cX10_campaign 208 = .ok (.ireturn, 1) := by decide +kernel
theorem dX10_takeOut_0 : decode cX10_takeOut 0 = .ok (.aload_n 0, 1) := by decide +kernel
theorem dX10_takeOut_1 : decode cX10_takeOut 1 = .ok (.dup, 1) := by decide +kernel
theorem dX10_takeOut_2 : decode cX10_takeOut 2 = .ok (.getfield 142, 3) := by decide +kernel
theorem dX10_takeOut_5 : decode cX10_takeOut 5 = .ok (.iconst 1, 1) := by decide +kernel
theorem dX10_takeOut_6 : decode cX10_takeOut 6 = .ok (.isub, 1) := by decide +kernel
theorem dX10_takeOut_7 : decode cX10_takeOut 7 = .ok (.putfield 142, 3) := by decide +kernel
theorem dX10_takeOut_10 : decode cX10_takeOut 10 = .ok (.iload_n 1, 1) := by decide +kernel
theorem dX10_takeOut_11 : decode cX10_takeOut 11 = .ok (.istore_n 2, 1) := by decide +kernel
theorem dX10_takeOut_12 : decode cX10_takeOut 12 = .ok (.iload_n 2, 1) := by decide +kernel
theorem dX10_takeOut_13 : decode cX10_takeOut 13 = .ok (.aload_n 0, 1) := by decide +kernel
theorem dX10_takeOut_14 : decode cX10_takeOut 14 = .ok (.getfield 142, 3) := by decide +kernel
theorem dX10_takeOut_17 : decode cX10_takeOut 17 = .ok (.if_icmp .ge 23, 3) := by decide +kernel
theorem dX10_takeOut_20 : decode cX10_takeOut 20 = .ok (.aload_n 0, 1) := by decide +kernel
theorem dX10_takeOut_21 : decode cX10_takeOut 21 = .ok (.getfield 86, 3) := by decide +kernel
theorem dX10_takeOut_24 : decode cX10_takeOut 24 = .ok (.iload_n 2, 1) := by decide +kernel
theorem dX10_takeOut_25 : decode cX10_takeOut 25 = .ok (.aload_n 0, 1) := by decide +kernel
theorem dX10_takeOut_26 : decode cX10_takeOut 26 = .ok (.getfield 86, 3) := by decide +kernel
theorem dX10_takeOut_29 : decode cX10_takeOut 29 = .ok (.iload_n 2, 1) := by decide +kernel
theorem dX10_takeOut_30 : decode cX10_takeOut 30 = .ok (.iconst 1, 1) := by decide +kernel
theorem dX10_takeOut_31 : decode cX10_takeOut 31 = .ok (.iadd, 1) := by decide +kernel
theorem dX10_takeOut_32 : decode cX10_takeOut 32 = .ok (.iaload, 1) := by decide +kernel
theorem dX10_takeOut_33 : decode cX10_takeOut 33 = .ok (.iastore, 1) := by decide +kernel
theorem dX10_takeOut_34 : decode cX10_takeOut 34 = .ok (.iinc 2 1, 3) := by decide +kernel
theorem dX10_takeOut_37 : decode cX10_takeOut 37 = .ok (.goto (-25), 3) := by decide +kernel
theorem dX10_takeOut_40 : decode cX10_takeOut 40 = .ok (.return_, 1) := by decide +kernel
theorem dX10_isMessage_0 : decode cX10_isMessage 0 = .ok (.iload_n 1, 1) := by decide +kernel
theorem dX10_isMessage_1 : decode cX10_isMessage 1 = .ok (.iconst 0, 1) := by decide +kernel
theorem dX10_isMessage_2 : decode cX10_isMessage 2 = .ok (.aload_n 0, 1) := by decide +kernel
theorem dX10_isMessage_3 : decode cX10_isMessage 3 = .ok (.getfield 142, 3) := by decide +kernel
theorem dX10_isMessage_6 : decode cX10_isMessage 6 = .ok (.iconst 1, 1) := by decide +kernel
theorem dX10_isMessage_7 : decode cX10_isMessage 7 = .ok (.isub, 1) := by decide +kernel
theorem dX10_isMessage_8 : decode cX10_isMessage 8 = .ok (.invokestatic 196, 3) := by decide +kernel
theorem dX10_isMessage_11 : decode cX10_isMessage 11 = .ok (.ireturn, 1) := by decide +kernel
theorem dX10_come_0 : decode cX10_come 0 = .ok (.aload_n 0, 1) := by decide +kernel
theorem dX10_come_1 : decode cX10_come 1 = .ok (.getfield 86, 3) := by decide +kernel
theorem dX10_come_4 : decode cX10_come 4 = .ok (.iload_n 1, 1) := by decide +kernel
theorem dX10_come_5 : decode cX10_come 5 = .ok (.iaload, 1) := by decide +kernel
theorem dX10_come_6 : decode cX10_come 6 = .ok (.istore_n 2, 1) := by decide +kernel
theorem dX10_come_7 : decode cX10_come 7 = .ok (.aload_n 0, 1) := by decide +kernel
theorem dX10_come_8 : decode cX10_come 8 = .ok (.iload_n 1, 1) := by decide +kernel
theorem dX10_come_9 : decode cX10_come 9 = .ok (.invokevirtual 206, 3) := by decide +kernel
theorem dX10_come_12 : decode cX10_come 12 = .ok (.aload_n 0, 1) := by decide +kernel
theorem dX10_come_13 : decode cX10_come 13 = .ok (.getfield 7, 3) := by decide +kernel
theorem dX10_come_16 : decode cX10_come 16 = .ok (.aload_n 0, 1) := by decide +kernel
theorem dX10_come_17 : decode cX10_come 17 = .ok (.getfield 98, 3) := by decide +kernel
theorem dX10_come_20 : decode cX10_come 20 = .ok (.iload_n 2, 1) := by decide +kernel
theorem dX10_come_21 : decode cX10_come 21 = .ok (.iaload, 1) := by decide +kernel
theorem dX10_come_22 : decode cX10_come 22 = .ok (.baload, 1) := by decide +kernel
theorem dX10_come_23 : decode cX10_come 23 = .ok (.ifCond .ne 18, 3) := by decide +kernel
theorem dX10_come_26 : decode cX10_come 26 = .ok (.aload_n 0, 1) := by decide +kernel
theorem dX10_come_27 : decode cX10_come 27 = .ok (.iload_n 2, 1) := by decide +kernel
theorem dX10_come_28 : decode cX10_come 28 = .ok (.invokevirtual 190, 3) := by decide +kernel
theorem dX10_come_31 : decode cX10_come 31 = .ok (.aload_n 0, 1) := by decide +kernel
theorem dX10_come_32 : decode cX10_come 32 = .ok (.aload_n 0, 1) := by decide +kernel
theorem dX10_come_33 : decode cX10_come 33 = .ok (.getfield 98, 3) := by decide +kernel
theorem dX10_come_36 : decode cX10_come 36 = .ok (.iload_n 2, 1) := by decide +kernel
theorem dX10_come_37 : decode cX10_come 37 = .ok (.iaload, 1) := by decide +kernel
theorem dX10_come_38 : decode cX10_come 38 = .ok (.invokevirtual 203, 3) := by decide +kernel
theorem dX10_come_41 : decode cX10_come 41 = .ok (.aload_n 0, 1) := by decide +kernel
theorem dX10_come_42 : decode cX10_come 42 = .ok (.getfield 92, 3) := by decide +kernel
theorem dX10_come_45 : decode cX10_come 45 = .ok (.iload_n 2, 1) := by decide +kernel
theorem dX10_come_46 : decode cX10_come 46 = .ok (.iconst 0, 1) := by decide +kernel
theorem dX10_come_47 : decode cX10_come 47 = .ok (.bastore, 1) := by decide +kernel
theorem dX10_come_48 : decode cX10_come 48 = .ok (.aload_n 0, 1) := by decide +kernel
theorem dX10_come_49 : decode cX10_come 49 = .ok (.getfield 101, 3) := by decide +kernel
theorem dX10_come_52 : decode cX10_come 52 = .ok (.iload_n 2, 1) := by decide +kernel
theorem dX10_come_53 : decode cX10_come 53 = .ok (.iaload, 1) := by decide +kernel
theorem dX10_come_54 : decode cX10_come 54 = .ok (.ireturn, 1) := by decide +kernel
theorem dX10_deliver_0 : decode cX10_deliver 0 = .ok (.aload_n 0, 1) := by decide +kernel
theorem dX10_deliver_1 : decode cX10_deliver 1 = .ok (.aload_n 0, 1) := by decide +kernel
theorem dX10_deliver_2 : decode cX10_deliver 2 = .ok (.iload_n 1, 1) := by decide +kernel
theorem dX10_deliver_3 : decode cX10_deliver 3 = .ok (.invokevirtual 209, 3) := by decide +kernel
theorem dX10_deliver_6 : decode cX10_deliver 6 = .ok (.invokevirtual 212, 3) := by decide +kernel
theorem dX10_deliver_9 : decode cX10_deliver 9 = .ok (.ifCond .eq 11, 3) := by decide +kernel
theorem dX10_deliver_12 : decode cX10_deliver 12 = .ok (.aload_n 0, 1) := by decide +kernel
theorem dX10_deliver_13 : decode cX10_deliver 13 = .ok (.iload_n 1, 1) := by decide +kernel
theorem dX10_deliver_14 : decode cX10_deliver 14 = .ok (.invokevirtual 216, 3) := by decide +kernel
theorem dX10_deliver_17 : decode cX10_deliver 17 = .ok (.goto 4, 3) := by decide +kernel
theorem dX10_deliver_20 : decode cX10_deliver 20 = .ok (.iconst 0, 1) := by decide +kernel
theorem dX10_deliver_21 : decode cX10_deliver 21 = .ok (.ireturn, 1) := by decide +kernel
theorem dX10_lose_0 : decode cX10_lose 0 = .ok (.aload_n 0, 1) := by decide +kernel
theorem dX10_lose_1 : decode cX10_lose 1 = .ok (.aload_n 0, 1) := by decide +kernel
theorem dX10_lose_2 : decode cX10_lose 2 = .ok (.iload_n 1, 1) := by decide +kernel
theorem dX10_lose_3 : decode cX10_lose 3 = .ok (.invokevirtual 209, 3) := by decide +kernel
theorem dX10_lose_6 : decode cX10_lose 6 = .ok (.invokevirtual 212, 3) := by decide +kernel
theorem dX10_lose_9 : decode cX10_lose 9 = .ok (.ifCond .ne 5, 3) := by decide +kernel
theorem dX10_lose_12 : decode cX10_lose 12 = .ok (.iconst 0, 1) := by decide +kernel
theorem dX10_lose_13 : decode cX10_lose 13 = .ok (.ireturn, 1) := by decide +kernel
theorem dX10_lose_14 : decode cX10_lose 14 = .ok (.aload_n 0, 1) := by decide +kernel
theorem dX10_lose_15 : decode cX10_lose 15 = .ok (.getfield 92, 3) := by decide +kernel
theorem dX10_lose_18 : decode cX10_lose 18 = .ok (.aload_n 0, 1) := by decide +kernel
theorem dX10_lose_19 : decode cX10_lose 19 = .ok (.getfield 86, 3) := by decide +kernel
theorem dX10_lose_22 : decode cX10_lose 22 = .ok (.iload_n 1, 1) := by decide +kernel
theorem dX10_lose_23 : decode cX10_lose 23 = .ok (.iaload, 1) := by decide +kernel
theorem dX10_lose_24 : decode cX10_lose 24 = .ok (.iconst 0, 1) := by decide +kernel
theorem dX10_lose_25 : decode cX10_lose 25 = .ok (.bastore, 1) := by decide +kernel
theorem dX10_lose_26 : decode cX10_lose 26 = .ok (.aload_n 0, 1) := by decide +kernel
theorem dX10_lose_27 : decode cX10_lose 27 = .ok (.iload_n 1, 1) := by decide +kernel
theorem dX10_lose_28 : decode cX10_lose 28 = .ok (.invokevirtual 206, 3) := by decide +kernel
theorem dX10_lose_31 : decode cX10_lose 31 = .ok (.aload_n 0, 1) := by decide +kernel
theorem dX10_lose_32 : decode cX10_lose 32 = .ok (.getfield 142, 3) := by decide +kernel
theorem dX10_lose_35 : decode cX10_lose 35 = .ok (.ireturn, 1) := by decide +kernel
theorem dX10_repeat_0 : decode cX10_repeat 0 = .ok (.aload_n 0, 1) := by decide +kernel
theorem dX10_repeat_1 : decode cX10_repeat 1 = .ok (.aload_n 0, 1) := by decide +kernel
theorem dX10_repeat_2 : decode cX10_repeat 2 = .ok (.iload_n 1, 1) := by decide +kernel
theorem dX10_repeat_3 : decode cX10_repeat 3 = .ok (.invokevirtual 209, 3) := by decide +kernel
theorem dX10_repeat_6 : decode cX10_repeat 6 = .ok (.ifCond .ne 7, 3) := by decide +kernel
theorem dX10_repeat_9 : decode cX10_repeat 9 = .ok (.iconst 1, 1) := by decide +kernel
theorem dX10_repeat_10 : decode cX10_repeat 10 = .ok (.goto 18, 3) := by decide +kernel
theorem dX10_repeat_13 : decode cX10_repeat 13 = .ok (.aload_n 0, 1) := by decide +kernel
theorem dX10_repeat_14 : decode cX10_repeat 14 = .ok (.getfield 142, 3) := by decide +kernel
theorem dX10_repeat_17 : decode cX10_repeat 17 = .ok (.sipush 300, 3) := by decide +kernel
theorem dX10_repeat_20 : decode cX10_repeat 20 = .ok (.if_icmp .ne 7, 3) := by decide +kernel
theorem dX10_repeat_23 : decode cX10_repeat 23 = .ok (.iconst 2, 1) := by decide +kernel
theorem dX10_repeat_24 : decode cX10_repeat 24 = .ok (.goto 4, 3) := by decide +kernel
theorem dX10_repeat_27 : decode cX10_repeat 27 = .ok (.iconst 0, 1) := by decide +kernel
theorem dX10_repeat_28 : decode cX10_repeat 28 = .ok (.putfield 127, 3) := by decide +kernel
theorem dX10_repeat_31 : decode cX10_repeat 31 = .ok (.aload_n 0, 1) := by decide +kernel
theorem dX10_repeat_32 : decode cX10_repeat 32 = .ok (.getfield 127, 3) := by decide +kernel
theorem dX10_repeat_35 : decode cX10_repeat 35 = .ok (.ifCond .le 5, 3) := by decide +kernel
theorem dX10_repeat_38 : decode cX10_repeat 38 = .ok (.iconst 0, 1) := by decide +kernel
theorem dX10_repeat_39 : decode cX10_repeat 39 = .ok (.ireturn, 1) := by decide +kernel
theorem dX10_repeat_40 : decode cX10_repeat 40 = .ok (.aload_n 0, 1) := by decide +kernel
theorem dX10_repeat_41 : decode cX10_repeat 41 = .ok (.getfield 86, 3) := by decide +kernel
theorem dX10_repeat_44 : decode cX10_repeat 44 = .ok (.iload_n 1, 1) := by decide +kernel
theorem dX10_repeat_45 : decode cX10_repeat 45 = .ok (.iaload, 1) := by decide +kernel
theorem dX10_repeat_46 : decode cX10_repeat 46 = .ok (.istore_n 2, 1) := by decide +kernel
theorem dX10_repeat_47 : decode cX10_repeat 47 = .ok (.iconst 0, 1) := by decide +kernel
theorem dX10_repeat_48 : decode cX10_repeat 48 = .ok (.istore_n 3, 1) := by decide +kernel
theorem dX10_repeat_49 : decode cX10_repeat 49 = .ok (.aload_n 0, 1) := by decide +kernel
theorem dX10_repeat_50 : decode cX10_repeat 50 = .ok (.getfield 92, 3) := by decide +kernel
theorem dX10_repeat_53 : decode cX10_repeat 53 = .ok (.iload_n 3, 1) := by decide +kernel
theorem dX10_repeat_54 : decode cX10_repeat 54 = .ok (.baload, 1) := by decide +kernel
theorem dX10_repeat_55 : decode cX10_repeat 55 = .ok (.ifCond .eq 9, 3) := by decide +kernel
theorem dX10_repeat_58 : decode cX10_repeat 58 = .ok (.iinc 3 1, 3) := by decide +kernel
theorem dX10_repeat_61 : decode cX10_repeat 61 = .ok (.goto (-12), 3) := by decide +kernel
theorem dX10_repeat_64 : decode cX10_repeat 64 = .ok (.aload_n 0, 1) := by decide +kernel
theorem dX10_repeat_65 : decode cX10_repeat 65 = .ok (.getfield 92, 3) := by decide +kernel
theorem dX10_repeat_68 : decode cX10_repeat 68 = .ok (.iload_n 3, 1) := by decide +kernel
theorem dX10_repeat_69 : decode cX10_repeat 69 = .ok (.iconst 1, 1) := by decide +kernel
theorem dX10_repeat_70 : decode cX10_repeat 70 = .ok (.bastore, 1) := by decide +kernel
theorem dX10_repeat_71 : decode cX10_repeat 71 = .ok (.aload_n 0, 1) := by decide +kernel
theorem dX10_repeat_72 : decode cX10_repeat 72 = .ok (.getfield 95, 3) := by decide +kernel
theorem dX10_repeat_75 : decode cX10_repeat 75 = .ok (.iload_n 3, 1) := by decide +kernel
theorem dX10_repeat_76 : decode cX10_repeat 76 = .ok (.aload_n 0, 1) := by decide +kernel
theorem dX10_repeat_77 : decode cX10_repeat 77 = .ok (.getfield 95, 3) := by decide +kernel
theorem dX10_repeat_80 : decode cX10_repeat 80 = .ok (.iload_n 2, 1) := by decide +kernel
theorem dX10_repeat_81 : decode cX10_repeat 81 = .ok (.iaload, 1) := by decide +kernel
theorem dX10_repeat_82 : decode cX10_repeat 82 = .ok (.iastore, 1) := by decide +kernel
theorem dX10_repeat_83 : decode cX10_repeat 83 = .ok (.aload_n 0, 1) := by decide +kernel
theorem dX10_repeat_84 : decode cX10_repeat 84 = .ok (.getfield 98, 3) := by decide +kernel
theorem dX10_repeat_87 : decode cX10_repeat 87 = .ok (.iload_n 3, 1) := by decide +kernel
theorem dX10_repeat_88 : decode cX10_repeat 88 = .ok (.aload_n 0, 1) := by decide +kernel
theorem dX10_repeat_89 : decode cX10_repeat 89 = .ok (.getfield 98, 3) := by decide +kernel
theorem dX10_repeat_92 : decode cX10_repeat 92 = .ok (.iload_n 2, 1) := by decide +kernel
theorem dX10_repeat_93 : decode cX10_repeat 93 = .ok (.iaload, 1) := by decide +kernel
theorem dX10_repeat_94 : decode cX10_repeat 94 = .ok (.iastore, 1) := by decide +kernel
theorem dX10_repeat_95 : decode cX10_repeat 95 = .ok (.aload_n 0, 1) := by decide +kernel
theorem dX10_repeat_96 : decode cX10_repeat 96 = .ok (.getfield 101, 3) := by decide +kernel
theorem dX10_repeat_99 : decode cX10_repeat 99 = .ok (.iload_n 3, 1) := by decide +kernel
theorem dX10_repeat_100 : decode cX10_repeat 100 = .ok (.aload_n 0, 1) := by decide +kernel
theorem dX10_repeat_101 : decode cX10_repeat 101 = .ok (.getfield 101, 3) := by decide +kernel
theorem dX10_repeat_104 : decode cX10_repeat 104 = .ok (.iload_n 2, 1) := by decide +kernel
theorem dX10_repeat_105 : decode cX10_repeat 105 = .ok (.iaload, 1) := by decide +kernel
theorem dX10_repeat_106 : decode cX10_repeat 106 = .ok (.iastore, 1) := by decide +kernel
theorem dX10_repeat_107 : decode cX10_repeat 107 = .ok (.aload_n 0, 1) := by decide +kernel
theorem dX10_repeat_108 : decode cX10_repeat 108 = .ok (.getfield 104, 3) := by decide +kernel
theorem dX10_repeat_111 : decode cX10_repeat 111 = .ok (.iload_n 3, 1) := by decide +kernel
theorem dX10_repeat_112 : decode cX10_repeat 112 = .ok (.aload_n 0, 1) := by decide +kernel
theorem dX10_repeat_113 : decode cX10_repeat 113 = .ok (.getfield 104, 3) := by decide +kernel
theorem dX10_repeat_116 : decode cX10_repeat 116 = .ok (.iload_n 2, 1) := by decide +kernel
theorem dX10_repeat_117 : decode cX10_repeat 117 = .ok (.iaload, 1) := by decide +kernel
theorem dX10_repeat_118 : decode cX10_repeat 118 = .ok (.iastore, 1) := by decide +kernel
theorem dX10_repeat_119 : decode cX10_repeat 119 = .ok (.aload_n 0, 1) := by decide +kernel
theorem dX10_repeat_120 : decode cX10_repeat 120 = .ok (.getfield 107, 3) := by decide +kernel
theorem dX10_repeat_123 : decode cX10_repeat 123 = .ok (.iload_n 3, 1) := by decide +kernel
theorem dX10_repeat_124 : decode cX10_repeat 124 = .ok (.aload_n 0, 1) := by decide +kernel
theorem dX10_repeat_125 : decode cX10_repeat 125 = .ok (.getfield 107, 3) := by decide +kernel
theorem dX10_repeat_128 : decode cX10_repeat 128 = .ok (.iload_n 2, 1) := by decide +kernel
theorem dX10_repeat_129 : decode cX10_repeat 129 = .ok (.iaload, 1) := by decide +kernel
theorem dX10_repeat_130 : decode cX10_repeat 130 = .ok (.iastore, 1) := by decide +kernel
theorem dX10_repeat_131 : decode cX10_repeat 131 = .ok (.aload_n 0, 1) := by decide +kernel
theorem dX10_repeat_132 : decode cX10_repeat 132 = .ok (.getfield 110, 3) := by decide +kernel
theorem dX10_repeat_135 : decode cX10_repeat 135 = .ok (.iload_n 3, 1) := by decide +kernel
theorem dX10_repeat_136 : decode cX10_repeat 136 = .ok (.aload_n 0, 1) := by decide +kernel
theorem dX10_repeat_137 : decode cX10_repeat 137 = .ok (.getfield 110, 3) := by decide +kernel
theorem dX10_repeat_140 : decode cX10_repeat 140 = .ok (.iload_n 2, 1) := by decide +kernel
theorem dX10_repeat_141 : decode cX10_repeat 141 = .ok (.iaload, 1) := by decide +kernel
theorem dX10_repeat_142 : decode cX10_repeat 142 = .ok (.iastore, 1) := by decide +kernel
theorem dX10_repeat_143 : decode cX10_repeat 143 = .ok (.iconst 0, 1) := by decide +kernel
theorem dX10_repeat_144 : decode cX10_repeat 144 = .ok (.istore 4, 2) := by decide +kernel
theorem dX10_repeat_146 : decode cX10_repeat 146 = .ok (.iload 4, 2) := by decide +kernel
theorem dX10_repeat_148 : decode cX10_repeat 148 = .ok (.bipush 100, 2) := by decide +kernel
theorem dX10_repeat_150 : decode cX10_repeat 150 = .ok (.if_icmp .ge 57, 3) := by decide +kernel
theorem dX10_repeat_153 : decode cX10_repeat 153 = .ok (.aload_n 0, 1) := by decide +kernel
theorem dX10_repeat_154 : decode cX10_repeat 154 = .ok (.getfield 114, 3) := by decide +kernel
theorem dX10_repeat_157 : decode cX10_repeat 157 = .ok (.bipush 100, 2) := by decide +kernel
theorem dX10_repeat_159 : decode cX10_repeat 159 = .ok (.iload_n 3, 1) := by decide +kernel
theorem dX10_repeat_160 : decode cX10_repeat 160 = .ok (.imul, 1) := by decide +kernel
theorem dX10_repeat_161 : decode cX10_repeat 161 = .ok (.iload 4, 2) := by decide +kernel
theorem dX10_repeat_163 : decode cX10_repeat 163 = .ok (.iadd, 1) := by decide +kernel
theorem dX10_repeat_164 : decode cX10_repeat 164 = .ok (.aload_n 0, 1) := by decide +kernel
theorem dX10_repeat_165 : decode cX10_repeat 165 = .ok (.getfield 114, 3) := by decide +kernel
theorem dX10_repeat_168 : decode cX10_repeat 168 = .ok (.bipush 100, 2) := by decide +kernel
theorem dX10_repeat_170 : decode cX10_repeat 170 = .ok (.iload_n 2, 1) := by decide +kernel
theorem dX10_repeat_171 : decode cX10_repeat 171 = .ok (.imul, 1) := by decide +kernel
theorem dX10_repeat_172 : decode cX10_repeat 172 = .ok (.iload 4, 2) := by decide +kernel
theorem dX10_repeat_174 : decode cX10_repeat 174 = .ok (.iadd, 1) := by decide +kernel
theorem dX10_repeat_175 : decode cX10_repeat 175 = .ok (.iaload, 1) := by decide +kernel
theorem dX10_repeat_176 : decode cX10_repeat 176 = .ok (.iastore, 1) := by decide +kernel
theorem dX10_repeat_177 : decode cX10_repeat 177 = .ok (.aload_n 0, 1) := by decide +kernel
theorem dX10_repeat_178 : decode cX10_repeat 178 = .ok (.getfield 117, 3) := by decide +kernel
theorem dX10_repeat_181 : decode cX10_repeat 181 = .ok (.bipush 100, 2) := by decide +kernel
theorem dX10_repeat_183 : decode cX10_repeat 183 = .ok (.iload_n 3, 1) := by decide +kernel
theorem dX10_repeat_184 : decode cX10_repeat 184 = .ok (.imul, 1) := by decide +kernel
theorem dX10_repeat_185 : decode cX10_repeat 185 = .ok (.iload 4, 2) := by decide +kernel
theorem dX10_repeat_187 : decode cX10_repeat 187 = .ok (.iadd, 1) := by decide +kernel
theorem dX10_repeat_188 : decode cX10_repeat 188 = .ok (.aload_n 0, 1) := by decide +kernel
theorem dX10_repeat_189 : decode cX10_repeat 189 = .ok (.getfield 117, 3) := by decide +kernel
theorem dX10_repeat_192 : decode cX10_repeat 192 = .ok (.bipush 100, 2) := by decide +kernel
theorem dX10_repeat_194 : decode cX10_repeat 194 = .ok (.iload_n 2, 1) := by decide +kernel
theorem dX10_repeat_195 : decode cX10_repeat 195 = .ok (.imul, 1) := by decide +kernel
theorem dX10_repeat_196 : decode cX10_repeat 196 = .ok (.iload 4, 2) := by decide +kernel
theorem dX10_repeat_198 : decode cX10_repeat 198 = .ok (.iadd, 1) := by decide +kernel
theorem dX10_repeat_199 : decode cX10_repeat 199 = .ok (.iaload, 1) := by decide +kernel
theorem dX10_repeat_200 : decode cX10_repeat 200 = .ok (.iastore, 1) := by decide +kernel
theorem dX10_repeat_201 : decode cX10_repeat 201 = .ok (.iinc 4 1, 3) := by decide +kernel
theorem dX10_repeat_204 : decode cX10_repeat 204 = .ok (.goto (-58), 3) := by decide +kernel
theorem dX10_repeat_207 : decode cX10_repeat 207 = .ok (.aload_n 0, 1) := by decide +kernel
theorem dX10_repeat_208 : decode cX10_repeat 208 = .ok (.getfield 86, 3) := by decide +kernel
theorem dX10_repeat_211 : decode cX10_repeat 211 = .ok (.aload_n 0, 1) := by decide +kernel
theorem dX10_repeat_212 : decode cX10_repeat 212 = .ok (.getfield 142, 3) := by decide +kernel
theorem dX10_repeat_215 : decode cX10_repeat 215 = .ok (.iload_n 3, 1) := by decide +kernel
theorem dX10_repeat_216 : decode cX10_repeat 216 = .ok (.iastore, 1) := by decide +kernel
theorem dX10_repeat_217 : decode cX10_repeat 217 = .ok (.aload_n 0, 1) := by decide +kernel
theorem dX10_repeat_218 : decode cX10_repeat 218 = .ok (.dup, 1) := by decide +kernel
theorem dX10_repeat_219 : decode cX10_repeat 219 = .ok (.getfield 142, 3) := by decide +kernel
theorem dX10_repeat_222 : decode cX10_repeat 222 = .ok (.iconst 1, 1) := by decide +kernel
theorem dX10_repeat_223 : decode cX10_repeat 223 = .ok (.iadd, 1) := by decide +kernel
theorem dX10_repeat_224 : decode cX10_repeat 224 = .ok (.putfield 142, 3) := by decide +kernel
theorem dX10_repeat_227 : decode cX10_repeat 227 = .ok (.aload_n 0, 1) := by decide +kernel
theorem dX10_repeat_228 : decode cX10_repeat 228 = .ok (.getfield 142, 3) := by decide +kernel
theorem dX10_repeat_231 : decode cX10_repeat 231 = .ok (.ireturn, 1) := by decide +kernel
theorem dX10_spares_0 : decode cX10_spares 0 = .ok (.iconst 1, 1) := by decide +kernel
theorem dX10_spares_1 : decode cX10_spares 1 = .ok (.aload_n 0, 1) := by decide +kernel
theorem dX10_spares_2 : decode cX10_spares 2 = .ok (.getfield 124, 3) := by decide +kernel
theorem dX10_spares_5 : decode cX10_spares 5 = .ok (.ishl, 1) := by decide +kernel
theorem dX10_spares_6 : decode cX10_spares 6 = .ok (.iconst 1, 1) := by decide +kernel
theorem dX10_spares_7 : decode cX10_spares 7 = .ok (.aload_n 0, 1) := by decide +kernel
theorem dX10_spares_8 : decode cX10_spares 8 = .ok (.getfield 120, 3) := by decide +kernel
theorem dX10_spares_11 : decode cX10_spares 11 = .ok (.ishl, 1) := by decide +kernel
theorem dX10_spares_12 : decode cX10_spares 12 = .ok (.isub, 1) := by decide +kernel
theorem dX10_spares_13 : decode cX10_spares 13 = .ok (.ireturn, 1) := by decide +kernel
theorem dX10_prepareAgain_0 : decode cX10_prepareAgain 0 = .ok (.aload_n 0, 1) := by decide +kernel
theorem dX10_prepareAgain_1 : decode cX10_prepareAgain 1 = .ok (.iload_n 1, 1) := by decide +kernel
theorem dX10_prepareAgain_2 : decode cX10_prepareAgain 2 = .ok (.aload_n 0, 1) := by decide +kernel
theorem dX10_prepareAgain_3 : decode cX10_prepareAgain 3 = .ok (.iload_n 1, 1) := by decide +kernel
theorem dX10_prepareAgain_4 : decode cX10_prepareAgain 4 = .ok (.aload_n 0, 1) := by decide +kernel
theorem dX10_prepareAgain_5 : decode cX10_prepareAgain 5 = .ok (.getfield 32, 3) := by decide +kernel
theorem dX10_prepareAgain_8 : decode cX10_prepareAgain 8 = .ok (.iload_n 1, 1) := by decide +kernel
theorem dX10_prepareAgain_9 : decode cX10_prepareAgain 9 = .ok (.iaload, 1) := by decide +kernel
theorem dX10_prepareAgain_10 : decode cX10_prepareAgain 10 = .ok (.invokevirtual 130, 3) := by decide +kernel
theorem dX10_prepareAgain_13 : decode cX10_prepareAgain 13 = .ok (.aload_n 0, 1) := by decide +kernel
theorem dX10_prepareAgain_14 : decode cX10_prepareAgain 14 = .ok (.getfield 53, 3) := by decide +kernel
theorem dX10_prepareAgain_17 : decode cX10_prepareAgain 17 = .ok (.iload_n 1, 1) := by decide +kernel
theorem dX10_prepareAgain_18 : decode cX10_prepareAgain 18 = .ok (.iaload, 1) := by decide +kernel
theorem dX10_prepareAgain_19 : decode cX10_prepareAgain 19 = .ok (.iconst (-1), 1) := by decide +kernel
theorem dX10_prepareAgain_20 : decode cX10_prepareAgain 20 = .ok (.ixor, 1) := by decide +kernel
theorem dX10_prepareAgain_21 : decode cX10_prepareAgain 21 = .ok (.iand, 1) := by decide +kernel
theorem dX10_prepareAgain_22 : decode cX10_prepareAgain 22 = .ok (.iconst 1, 1) := by decide +kernel
theorem dX10_prepareAgain_23 : decode cX10_prepareAgain 23 = .ok (.aload_n 0, 1) := by decide +kernel
theorem dX10_prepareAgain_24 : decode cX10_prepareAgain 24 = .ok (.getfield 47, 3) := by decide +kernel
theorem dX10_prepareAgain_27 : decode cX10_prepareAgain 27 = .ok (.iload_n 1, 1) := by decide +kernel
theorem dX10_prepareAgain_28 : decode cX10_prepareAgain 28 = .ok (.iaload, 1) := by decide +kernel
theorem dX10_prepareAgain_29 : decode cX10_prepareAgain 29 = .ok (.aload_n 0, 1) := by decide +kernel
theorem dX10_prepareAgain_30 : decode cX10_prepareAgain 30 = .ok (.getfield 32, 3) := by decide +kernel
theorem dX10_prepareAgain_33 : decode cX10_prepareAgain 33 = .ok (.iload_n 1, 1) := by decide +kernel
theorem dX10_prepareAgain_34 : decode cX10_prepareAgain 34 = .ok (.iaload, 1) := by decide +kernel
theorem dX10_prepareAgain_35 : decode cX10_prepareAgain 35 = .ok (.iconst 0, 1) := by decide +kernel
theorem dX10_prepareAgain_36 : decode cX10_prepareAgain 36 = .ok (.invokevirtual 179, 3) := by decide +kernel
theorem dX10_prepareAgain_39 : decode cX10_prepareAgain 39 = .ok (.aload_n 0, 1) := by decide +kernel
theorem dX10_prepareAgain_40 : decode cX10_prepareAgain 40 = .ok (.iload_n 1, 1) := by decide +kernel
theorem dX10_prepareAgain_41 : decode cX10_prepareAgain 41 = .ok (.aload_n 0, 1) := by decide +kernel
theorem dX10_prepareAgain_42 : decode cX10_prepareAgain 42 = .ok (.invokevirtual 219, 3) := by decide +kernel
theorem dX10_prepareAgain_45 : decode cX10_prepareAgain 45 = .ok (.aload_n 0, 1) := by decide +kernel
theorem dX10_prepareAgain_46 : decode cX10_prepareAgain 46 = .ok (.getfield 53, 3) := by decide +kernel
theorem dX10_prepareAgain_49 : decode cX10_prepareAgain 49 = .ok (.iload_n 1, 1) := by decide +kernel
theorem dX10_prepareAgain_50 : decode cX10_prepareAgain 50 = .ok (.iaload, 1) := by decide +kernel
theorem dX10_prepareAgain_51 : decode cX10_prepareAgain 51 = .ok (.iconst (-1), 1) := by decide +kernel
theorem dX10_prepareAgain_52 : decode cX10_prepareAgain 52 = .ok (.ixor, 1) := by decide +kernel
theorem dX10_prepareAgain_53 : decode cX10_prepareAgain 53 = .ok (.iand, 1) := by decide +kernel
theorem dX10_prepareAgain_54 : decode cX10_prepareAgain 54 = .ok (.iconst 1, 1) := by decide +kernel
theorem dX10_prepareAgain_55 : decode cX10_prepareAgain 55 = .ok (.aload_n 0, 1) := by decide +kernel
theorem dX10_prepareAgain_56 : decode cX10_prepareAgain 56 = .ok (.getfield 47, 3) := by decide +kernel
theorem dX10_prepareAgain_59 : decode cX10_prepareAgain 59 = .ok (.iload_n 1, 1) := by decide +kernel
theorem dX10_prepareAgain_60 : decode cX10_prepareAgain 60 = .ok (.iaload, 1) := by decide +kernel
theorem dX10_prepareAgain_61 : decode cX10_prepareAgain 61 = .ok (.aload_n 0, 1) := by decide +kernel
theorem dX10_prepareAgain_62 : decode cX10_prepareAgain 62 = .ok (.getfield 32, 3) := by decide +kernel
theorem dX10_prepareAgain_65 : decode cX10_prepareAgain 65 = .ok (.iload_n 1, 1) := by decide +kernel
theorem dX10_prepareAgain_66 : decode cX10_prepareAgain 66 = .ok (.iaload, 1) := by decide +kernel
theorem dX10_prepareAgain_67 : decode cX10_prepareAgain 67 = .ok (.iconst 0, 1) := by decide +kernel
theorem dX10_prepareAgain_68 : decode cX10_prepareAgain 68 = .ok (.invokevirtual 179, 3) := by decide +kernel
theorem dX10_prepareAgain_71 : decode cX10_prepareAgain 71 = .ok (.return_, 1) := by decide +kernel
theorem dX10_isUnderWay_0 : decode cX10_isUnderWay 0 = .ok (.iconst 0, 1) := by decide +kernel
theorem dX10_isUnderWay_1 : decode cX10_isUnderWay 1 = .ok (.istore_n 3, 1) := by decide +kernel
theorem dX10_isUnderWay_2 : decode cX10_isUnderWay 2 = .ok (.iconst 0, 1) := by decide +kernel
theorem dX10_isUnderWay_3 : decode cX10_isUnderWay 3 = .ok (.istore 4, 2) := by decide +kernel
theorem dX10_isUnderWay_5 : decode cX10_isUnderWay 5 = .ok (.iload 4, 2) := by decide +kernel
theorem dX10_isUnderWay_7 : decode cX10_isUnderWay 7 = .ok (.aload_n 0, 1) := by decide +kernel
theorem dX10_isUnderWay_8 : decode cX10_isUnderWay 8 = .ok (.getfield 35, 3) := by decide +kernel
theorem dX10_isUnderWay_11 : decode cX10_isUnderWay 11 = .ok (.iload_n 1, 1) := by decide +kernel
theorem dX10_isUnderWay_12 : decode cX10_isUnderWay 12 = .ok (.iaload, 1) := by decide +kernel
theorem dX10_isUnderWay_13 : decode cX10_isUnderWay 13 = .ok (.if_icmp .ge 35, 3) := by decide +kernel
theorem dX10_isUnderWay_16 : decode cX10_isUnderWay 16 = .ok (.iload_n 3, 1) := by decide +kernel
theorem dX10_isUnderWay_17 : decode cX10_isUnderWay 17 = .ok (.ifCond .ne 19, 3) := by decide +kernel
theorem dX10_isUnderWay_20 : decode cX10_isUnderWay 20 = .ok (.aload_n 0, 1) := by decide +kernel
theorem dX10_isUnderWay_21 : decode cX10_isUnderWay 21 = .ok (.getfield 38, 3) := by decide +kernel
theorem dX10_isUnderWay_24 : decode cX10_isUnderWay 24 = .ok (.bipush 64, 2) := by decide +kernel
theorem dX10_isUnderWay_26 : decode cX10_isUnderWay 26 = .ok (.iload_n 1, 1) := by decide +kernel
theorem dX10_isUnderWay_27 : decode cX10_isUnderWay 27 = .ok (.imul, 1) := by decide +kernel
theorem dX10_isUnderWay_28 : decode cX10_isUnderWay 28 = .ok (.iload 4, 2) := by decide +kernel
theorem dX10_isUnderWay_30 : decode cX10_isUnderWay 30 = .ok (.iadd, 1) := by decide +kernel
theorem dX10_isUnderWay_31 : decode cX10_isUnderWay 31 = .ok (.iaload, 1) := by decide +kernel
theorem dX10_isUnderWay_32 : decode cX10_isUnderWay 32 = .ok (.iload_n 2, 1) := by decide +kernel
theorem dX10_isUnderWay_33 : decode cX10_isUnderWay 33 = .ok (.if_icmp .ne 7, 3) := by decide +kernel
theorem dX10_isUnderWay_36 : decode cX10_isUnderWay 36 = .ok (.iconst 1, 1) := by decide +kernel
theorem dX10_isUnderWay_37 : decode cX10_isUnderWay 37 = .ok (.goto 4, 3) := by decide +kernel
theorem dX10_isUnderWay_40 : decode cX10_isUnderWay 40 = .ok (.iconst 0, 1) := by decide +kernel
theorem dX10_isUnderWay_41 : decode cX10_isUnderWay 41 = .ok (.istore_n 3, 1) := by decide +kernel
theorem dX10_isUnderWay_42 : decode cX10_isUnderWay 42 = .ok (.iinc 4 1, 3) := by decide +kernel
theorem dX10_isUnderWay_45 : decode cX10_isUnderWay 45 = .ok (.goto (-40), 3) := by decide +kernel
theorem dX10_isUnderWay_48 : decode cX10_isUnderWay 48 = .ok (.iconst 0, 1) := by decide +kernel
theorem dX10_isUnderWay_49 : decode cX10_isUnderWay 49 = .ok (.istore 4, 2) := by decide +kernel
theorem dX10_isUnderWay_51 : decode cX10_isUnderWay 51 = .ok (.iload 4, 2) := by decide +kernel
theorem dX10_isUnderWay_53 : decode cX10_isUnderWay 53 = .ok (.bipush 100, 2) := by decide +kernel
theorem dX10_isUnderWay_55 : decode cX10_isUnderWay 55 = .ok (.if_icmp .ge 70, 3) := by decide +kernel
theorem dX10_isUnderWay_58 : decode cX10_isUnderWay 58 = .ok (.bipush 100, 2) := by decide +kernel
theorem dX10_isUnderWay_60 : decode cX10_isUnderWay 60 = .ok (.iload_n 1, 1) := by decide +kernel
theorem dX10_isUnderWay_61 : decode cX10_isUnderWay 61 = .ok (.imul, 1) := by decide +kernel
theorem dX10_isUnderWay_62 : decode cX10_isUnderWay 62 = .ok (.iload 4, 2) := by decide +kernel
theorem dX10_isUnderWay_64 : decode cX10_isUnderWay 64 = .ok (.iadd, 1) := by decide +kernel
theorem dX10_isUnderWay_65 : decode cX10_isUnderWay 65 = .ok (.istore 5, 2) := by decide +kernel
theorem dX10_isUnderWay_67 : decode cX10_isUnderWay 67 = .ok (.iload_n 3, 1) := by decide +kernel
theorem dX10_isUnderWay_68 : decode cX10_isUnderWay 68 = .ok (.ifCond .ne 45, 3) := by decide +kernel
theorem dX10_isUnderWay_71 : decode cX10_isUnderWay 71 = .ok (.aload_n 0, 1) := by decide +kernel
theorem dX10_isUnderWay_72 : decode cX10_isUnderWay 72 = .ok (.getfield 65, 3) := by decide +kernel
theorem dX10_isUnderWay_75 : decode cX10_isUnderWay 75 = .ok (.iload 5, 2) := by decide +kernel
theorem dX10_isUnderWay_77 : decode cX10_isUnderWay 77 = .ok (.baload, 1) := by decide +kernel
theorem dX10_isUnderWay_78 : decode cX10_isUnderWay 78 = .ok (.ifCond .eq 14, 3) := by decide +kernel
theorem dX10_isUnderWay_81 : decode cX10_isUnderWay 81 = .ok (.aload_n 0, 1) := by decide +kernel
theorem dX10_isUnderWay_82 : decode cX10_isUnderWay 82 = .ok (.getfield 68, 3) := by decide +kernel
theorem dX10_isUnderWay_85 : decode cX10_isUnderWay 85 = .ok (.iload 5, 2) := by decide +kernel
theorem dX10_isUnderWay_87 : decode cX10_isUnderWay 87 = .ok (.iaload, 1) := by decide +kernel
theorem dX10_isUnderWay_88 : decode cX10_isUnderWay 88 = .ok (.iload_n 2, 1) := by decide +kernel
theorem dX10_isUnderWay_89 : decode cX10_isUnderWay 89 = .ok (.if_icmp .eq 24, 3) := by decide +kernel
theorem dX10_isUnderWay_92 : decode cX10_isUnderWay 92 = .ok (.aload_n 0, 1) := by decide +kernel
theorem dX10_isUnderWay_93 : decode cX10_isUnderWay 93 = .ok (.getfield 26, 3) := by decide +kernel
theorem dX10_isUnderWay_96 : decode cX10_isUnderWay 96 = .ok (.iload 5, 2) := by decide +kernel
theorem dX10_isUnderWay_98 : decode cX10_isUnderWay 98 = .ok (.baload, 1) := by decide +kernel
theorem dX10_isUnderWay_99 : decode cX10_isUnderWay 99 = .ok (.ifCond .eq 18, 3) := by decide +kernel
theorem dX10_isUnderWay_102 : decode cX10_isUnderWay 102 = .ok (.aload_n 0, 1) := by decide +kernel
theorem dX10_isUnderWay_103 : decode cX10_isUnderWay 103 = .ok (.getfield 29, 3) := by decide +kernel
theorem dX10_isUnderWay_106 : decode cX10_isUnderWay 106 = .ok (.iload 5, 2) := by decide +kernel
theorem dX10_isUnderWay_108 : decode cX10_isUnderWay 108 = .ok (.iaload, 1) := by decide +kernel
theorem dX10_isUnderWay_109 : decode cX10_isUnderWay 109 = .ok (.iload_n 2, 1) := by decide +kernel
theorem dX10_isUnderWay_110 : decode cX10_isUnderWay 110 = .ok (.if_icmp .ne 7, 3) := by decide +kernel
theorem dX10_isUnderWay_113 : decode cX10_isUnderWay 113 = .ok (.iconst 1, 1) := by decide +kernel
theorem dX10_isUnderWay_114 : decode cX10_isUnderWay 114 = .ok (.goto 4, 3) := by decide +kernel
theorem dX10_isUnderWay_117 : decode cX10_isUnderWay 117 = .ok (.iconst 0, 1) := by decide +kernel
theorem dX10_isUnderWay_118 : decode cX10_isUnderWay 118 = .ok (.istore_n 3, 1) := by decide +kernel
theorem dX10_isUnderWay_119 : decode cX10_isUnderWay 119 = .ok (.iinc 4 1, 3) := by decide +kernel
theorem dX10_isUnderWay_122 : decode cX10_isUnderWay 122 = .ok (.goto (-71), 3) := by decide +kernel
theorem dX10_isUnderWay_125 : decode cX10_isUnderWay 125 = .ok (.iload_n 3, 1) := by decide +kernel
theorem dX10_isUnderWay_126 : decode cX10_isUnderWay 126 = .ok (.ireturn, 1) := by decide +kernel
theorem dX10_waitGoing_0 : decode cX10_waitGoing 0 = .ok (.iconst 0, 1) := by decide +kernel
theorem dX10_waitGoing_1 : decode cX10_waitGoing 1 = .ok (.istore_n 3, 1) := by decide +kernel
theorem dX10_waitGoing_2 : decode cX10_waitGoing 2 = .ok (.iload_n 3, 1) := by decide +kernel
theorem dX10_waitGoing_3 : decode cX10_waitGoing 3 = .ok (.aload_n 0, 1) := by decide +kernel
theorem dX10_waitGoing_4 : decode cX10_waitGoing 4 = .ok (.getfield 35, 3) := by decide +kernel
theorem dX10_waitGoing_7 : decode cX10_waitGoing 7 = .ok (.iload_n 1, 1) := by decide +kernel
theorem dX10_waitGoing_8 : decode cX10_waitGoing 8 = .ok (.iaload, 1) := by decide +kernel
theorem dX10_waitGoing_9 : decode cX10_waitGoing 9 = .ok (.if_icmp .ge 23, 3) := by decide +kernel
theorem dX10_waitGoing_12 : decode cX10_waitGoing 12 = .ok (.aload_n 0, 1) := by decide +kernel
theorem dX10_waitGoing_13 : decode cX10_waitGoing 13 = .ok (.getfield 38, 3) := by decide +kernel
theorem dX10_waitGoing_16 : decode cX10_waitGoing 16 = .ok (.bipush 64, 2) := by decide +kernel
theorem dX10_waitGoing_18 : decode cX10_waitGoing 18 = .ok (.iload_n 1, 1) := by decide +kernel
theorem dX10_waitGoing_19 : decode cX10_waitGoing 19 = .ok (.imul, 1) := by decide +kernel
theorem dX10_waitGoing_20 : decode cX10_waitGoing 20 = .ok (.iload_n 3, 1) := by decide +kernel
theorem dX10_waitGoing_21 : decode cX10_waitGoing 21 = .ok (.iadd, 1) := by decide +kernel
theorem dX10_waitGoing_22 : decode cX10_waitGoing 22 = .ok (.iaload, 1) := by decide +kernel
theorem dX10_waitGoing_23 : decode cX10_waitGoing 23 = .ok (.ifCond .ge 9, 3) := by decide +kernel
theorem dX10_waitGoing_26 : decode cX10_waitGoing 26 = .ok (.iinc 3 1, 3) := by decide +kernel
theorem dX10_waitGoing_29 : decode cX10_waitGoing 29 = .ok (.goto (-27), 3) := by decide +kernel
theorem dX10_waitGoing_32 : decode cX10_waitGoing 32 = .ok (.aload_n 0, 1) := by decide +kernel
theorem dX10_waitGoing_33 : decode cX10_waitGoing 33 = .ok (.getfield 35, 3) := by decide +kernel
theorem dX10_waitGoing_36 : decode cX10_waitGoing 36 = .ok (.iload_n 1, 1) := by decide +kernel
theorem dX10_waitGoing_37 : decode cX10_waitGoing 37 = .ok (.iaload, 1) := by decide +kernel
theorem dX10_waitGoing_38 : decode cX10_waitGoing 38 = .ok (.istore 4, 2) := by decide +kernel
theorem dX10_waitGoing_40 : decode cX10_waitGoing 40 = .ok (.iload 4, 2) := by decide +kernel
theorem dX10_waitGoing_42 : decode cX10_waitGoing 42 = .ok (.iload_n 3, 1) := by decide +kernel
theorem dX10_waitGoing_43 : decode cX10_waitGoing 43 = .ok (.if_icmp .le 35, 3) := by decide +kernel
theorem dX10_waitGoing_46 : decode cX10_waitGoing 46 = .ok (.aload_n 0, 1) := by decide +kernel
theorem dX10_waitGoing_47 : decode cX10_waitGoing 47 = .ok (.getfield 38, 3) := by decide +kernel
theorem dX10_waitGoing_50 : decode cX10_waitGoing 50 = .ok (.bipush 64, 2) := by decide +kernel
theorem dX10_waitGoing_52 : decode cX10_waitGoing 52 = .ok (.iload_n 1, 1) := by decide +kernel
theorem dX10_waitGoing_53 : decode cX10_waitGoing 53 = .ok (.imul, 1) := by decide +kernel
theorem dX10_waitGoing_54 : decode cX10_waitGoing 54 = .ok (.iload 4, 2) := by decide +kernel
theorem dX10_waitGoing_56 : decode cX10_waitGoing 56 = .ok (.iadd, 1) := by decide +kernel
theorem dX10_waitGoing_57 : decode cX10_waitGoing 57 = .ok (.aload_n 0, 1) := by decide +kernel
theorem dX10_waitGoing_58 : decode cX10_waitGoing 58 = .ok (.getfield 38, 3) := by decide +kernel
theorem dX10_waitGoing_61 : decode cX10_waitGoing 61 = .ok (.bipush 64, 2) := by decide +kernel
theorem dX10_waitGoing_63 : decode cX10_waitGoing 63 = .ok (.iload_n 1, 1) := by decide +kernel
theorem dX10_waitGoing_64 : decode cX10_waitGoing 64 = .ok (.imul, 1) := by decide +kernel
theorem dX10_waitGoing_65 : decode cX10_waitGoing 65 = .ok (.iload 4, 2) := by decide +kernel
theorem dX10_waitGoing_67 : decode cX10_waitGoing 67 = .ok (.iadd, 1) := by decide +kernel
theorem dX10_waitGoing_68 : decode cX10_waitGoing 68 = .ok (.iconst 1, 1) := by decide +kernel
theorem dX10_waitGoing_69 : decode cX10_waitGoing 69 = .ok (.isub, 1) := by decide +kernel
theorem dX10_waitGoing_70 : decode cX10_waitGoing 70 = .ok (.iaload, 1) := by decide +kernel
theorem dX10_waitGoing_71 : decode cX10_waitGoing 71 = .ok (.iastore, 1) := by decide +kernel
theorem dX10_waitGoing_72 : decode cX10_waitGoing 72 = .ok (.iinc 4 (-1), 3) := by decide +kernel
theorem dX10_waitGoing_75 : decode cX10_waitGoing 75 = .ok (.goto (-35), 3) := by decide +kernel
theorem dX10_waitGoing_78 : decode cX10_waitGoing 78 = .ok (.aload_n 0, 1) := by decide +kernel
theorem dX10_waitGoing_79 : decode cX10_waitGoing 79 = .ok (.getfield 38, 3) := by decide +kernel
theorem dX10_waitGoing_82 : decode cX10_waitGoing 82 = .ok (.bipush 64, 2) := by decide +kernel
theorem dX10_waitGoing_84 : decode cX10_waitGoing 84 = .ok (.iload_n 1, 1) := by decide +kernel
theorem dX10_waitGoing_85 : decode cX10_waitGoing 85 = .ok (.imul, 1) := by decide +kernel
theorem dX10_waitGoing_86 : decode cX10_waitGoing 86 = .ok (.iload_n 3, 1) := by decide +kernel
theorem dX10_waitGoing_87 : decode cX10_waitGoing 87 = .ok (.iadd, 1) := by decide +kernel
theorem dX10_waitGoing_88 : decode cX10_waitGoing 88 = .ok (.iload_n 2, 1) := by decide +kernel
theorem dX10_waitGoing_89 : decode cX10_waitGoing 89 = .ok (.iastore, 1) := by decide +kernel
theorem dX10_waitGoing_90 : decode cX10_waitGoing 90 = .ok (.aload_n 0, 1) := by decide +kernel
theorem dX10_waitGoing_91 : decode cX10_waitGoing 91 = .ok (.getfield 35, 3) := by decide +kernel
theorem dX10_waitGoing_94 : decode cX10_waitGoing 94 = .ok (.iload_n 1, 1) := by decide +kernel
theorem dX10_waitGoing_95 : decode cX10_waitGoing 95 = .ok (.dup2, 1) := by decide +kernel
theorem dX10_waitGoing_96 : decode cX10_waitGoing 96 = .ok (.iaload, 1) := by decide +kernel
theorem dX10_waitGoing_97 : decode cX10_waitGoing 97 = .ok (.iconst 1, 1) := by decide +kernel
theorem dX10_waitGoing_98 : decode cX10_waitGoing 98 = .ok (.iadd, 1) := by decide +kernel
theorem dX10_waitGoing_99 : decode cX10_waitGoing 99 = .ok (.iastore, 1) := by decide +kernel
theorem dX10_waitGoing_100 : decode cX10_waitGoing 100 = .ok (.return_, 1) := by decide +kernel
theorem dX10_tickSlots_0 : decode cX10_tickSlots 0 = .ok (.iconst 0, 1) := by decide +kernel
theorem dX10_tickSlots_1 : decode cX10_tickSlots 1 = .ok (.istore_n 2, 1) := by decide +kernel
theorem dX10_tickSlots_2 : decode cX10_tickSlots 2 = .ok (.iload_n 2, 1) := by decide +kernel
theorem dX10_tickSlots_3 : decode cX10_tickSlots 3 = .ok (.bipush 100, 2) := by decide +kernel
theorem dX10_tickSlots_5 : decode cX10_tickSlots 5 = .ok (.if_icmp .ge 232, 3) := by decide +kernel
theorem dX10_tickSlots_8 : decode cX10_tickSlots 8 = .ok (.bipush 100, 2) := by decide +kernel
theorem dX10_tickSlots_10 : decode cX10_tickSlots 10 = .ok (.iload_n 1, 1) := by decide +kernel
theorem dX10_tickSlots_11 : decode cX10_tickSlots 11 = .ok (.imul, 1) := by decide +kernel
theorem dX10_tickSlots_12 : decode cX10_tickSlots 12 = .ok (.iload_n 2, 1) := by decide +kernel
theorem dX10_tickSlots_13 : decode cX10_tickSlots 13 = .ok (.iadd, 1) := by decide +kernel
theorem dX10_tickSlots_14 : decode cX10_tickSlots 14 = .ok (.istore_n 3, 1) := by decide +kernel
theorem dX10_tickSlots_15 : decode cX10_tickSlots 15 = .ok (.aload_n 0, 1) := by decide +kernel
theorem dX10_tickSlots_16 : decode cX10_tickSlots 16 = .ok (.getfield 65, 3) := by decide +kernel
theorem dX10_tickSlots_19 : decode cX10_tickSlots 19 = .ok (.iload_n 3, 1) := by decide +kernel
theorem dX10_tickSlots_20 : decode cX10_tickSlots 20 = .ok (.baload, 1) := by decide +kernel
theorem dX10_tickSlots_21 : decode cX10_tickSlots 21 = .ok (.ifCond .eq 210, 3) := by decide +kernel
theorem dX10_tickSlots_24 : decode cX10_tickSlots 24 = .ok (.aload_n 0, 1) := by decide +kernel
theorem dX10_tickSlots_25 : decode cX10_tickSlots 25 = .ok (.getfield 26, 3) := by decide +kernel
theorem dX10_tickSlots_28 : decode cX10_tickSlots 28 = .ok (.iload_n 3, 1) := by decide +kernel
theorem dX10_tickSlots_29 : decode cX10_tickSlots 29 = .ok (.baload, 1) := by decide +kernel
theorem dX10_tickSlots_30 : decode cX10_tickSlots 30 = .ok (.ifCond .ne 201, 3) := by decide +kernel
theorem dX10_tickSlots_33 : decode cX10_tickSlots 33 = .ok (.aload_n 0, 1) := by decide +kernel
theorem dX10_tickSlots_34 : decode cX10_tickSlots 34 = .ok (.getfield 74, 3) := by decide +kernel
theorem dX10_tickSlots_37 : decode cX10_tickSlots 37 = .ok (.iload_n 3, 1) := by decide +kernel
theorem dX10_tickSlots_38 : decode cX10_tickSlots 38 = .ok (.dup2, 1) := by decide +kernel
theorem dX10_tickSlots_39 : decode cX10_tickSlots 39 = .ok (.iaload, 1) := by decide +kernel
theorem dX10_tickSlots_40 : decode cX10_tickSlots 40 = .ok (.iconst 1, 1) := by decide +kernel
theorem dX10_tickSlots_41 : decode cX10_tickSlots 41 = .ok (.iadd, 1) := by decide +kernel
theorem dX10_tickSlots_42 : decode cX10_tickSlots 42 = .ok (.iastore, 1) := by decide +kernel
theorem dX10_tickSlots_43 : decode cX10_tickSlots 43 = .ok (.aload_n 0, 1) := by decide +kernel
theorem dX10_tickSlots_44 : decode cX10_tickSlots 44 = .ok (.getfield 74, 3) := by decide +kernel
theorem dX10_tickSlots_47 : decode cX10_tickSlots 47 = .ok (.iload_n 3, 1) := by decide +kernel
theorem dX10_tickSlots_48 : decode cX10_tickSlots 48 = .ok (.iaload, 1) := by decide +kernel
theorem dX10_tickSlots_49 : decode cX10_tickSlots 49 = .ok (.iconst 3, 1) := by decide +kernel
theorem dX10_tickSlots_50 : decode cX10_tickSlots 50 = .ok (.irem, 1) := by decide +kernel
theorem dX10_tickSlots_51 : decode cX10_tickSlots 51 = .ok (.ifCond .ne 69, 3) := by decide +kernel
theorem dX10_tickSlots_54 : decode cX10_tickSlots 54 = .ok (.aload_n 0, 1) := by decide +kernel
theorem dX10_tickSlots_55 : decode cX10_tickSlots 55 = .ok (.iload_n 1, 1) := by decide +kernel
theorem dX10_tickSlots_56 : decode cX10_tickSlots 56 = .ok (.aload_n 0, 1) := by decide +kernel
theorem dX10_tickSlots_57 : decode cX10_tickSlots 57 = .ok (.iload_n 1, 1) := by decide +kernel
theorem dX10_tickSlots_58 : decode cX10_tickSlots 58 = .ok (.iload_n 2, 1) := by decide +kernel
theorem dX10_tickSlots_59 : decode cX10_tickSlots 59 = .ok (.invokevirtual 130, 3) := by decide +kernel
theorem dX10_tickSlots_62 : decode cX10_tickSlots 62 = .ok (.aload_n 0, 1) := by decide +kernel
theorem dX10_tickSlots_63 : decode cX10_tickSlots 63 = .ok (.getfield 71, 3) := by decide +kernel
theorem dX10_tickSlots_66 : decode cX10_tickSlots 66 = .ok (.iload_n 3, 1) := by decide +kernel
theorem dX10_tickSlots_67 : decode cX10_tickSlots 67 = .ok (.iaload, 1) := by decide +kernel
theorem dX10_tickSlots_68 : decode cX10_tickSlots 68 = .ok (.iconst (-1), 1) := by decide +kernel
theorem dX10_tickSlots_69 : decode cX10_tickSlots 69 = .ok (.ixor, 1) := by decide +kernel
theorem dX10_tickSlots_70 : decode cX10_tickSlots 70 = .ok (.iand, 1) := by decide +kernel
theorem dX10_tickSlots_71 : decode cX10_tickSlots 71 = .ok (.iconst 3, 1) := by decide +kernel
theorem dX10_tickSlots_72 : decode cX10_tickSlots 72 = .ok (.aload_n 0, 1) := by decide +kernel
theorem dX10_tickSlots_73 : decode cX10_tickSlots 73 = .ok (.getfield 47, 3) := by decide +kernel
theorem dX10_tickSlots_76 : decode cX10_tickSlots 76 = .ok (.iload_n 1, 1) := by decide +kernel
theorem dX10_tickSlots_77 : decode cX10_tickSlots 77 = .ok (.iaload, 1) := by decide +kernel
theorem dX10_tickSlots_78 : decode cX10_tickSlots 78 = .ok (.iload_n 2, 1) := by decide +kernel
theorem dX10_tickSlots_79 : decode cX10_tickSlots 79 = .ok (.aload_n 0, 1) := by decide +kernel
theorem dX10_tickSlots_80 : decode cX10_tickSlots 80 = .ok (.getfield 68, 3) := by decide +kernel
theorem dX10_tickSlots_83 : decode cX10_tickSlots 83 = .ok (.iload_n 3, 1) := by decide +kernel
theorem dX10_tickSlots_84 : decode cX10_tickSlots 84 = .ok (.iaload, 1) := by decide +kernel
theorem dX10_tickSlots_85 : decode cX10_tickSlots 85 = .ok (.invokevirtual 179, 3) := by decide +kernel
theorem dX10_tickSlots_88 : decode cX10_tickSlots 88 = .ok (.aload_n 0, 1) := by decide +kernel
theorem dX10_tickSlots_89 : decode cX10_tickSlots 89 = .ok (.iload_n 1, 1) := by decide +kernel
theorem dX10_tickSlots_90 : decode cX10_tickSlots 90 = .ok (.aload_n 0, 1) := by decide +kernel
theorem dX10_tickSlots_91 : decode cX10_tickSlots 91 = .ok (.invokevirtual 219, 3) := by decide +kernel
theorem dX10_tickSlots_94 : decode cX10_tickSlots 94 = .ok (.aload_n 0, 1) := by decide +kernel
theorem dX10_tickSlots_95 : decode cX10_tickSlots 95 = .ok (.getfield 71, 3) := by decide +kernel
theorem dX10_tickSlots_98 : decode cX10_tickSlots 98 = .ok (.iload_n 3, 1) := by decide +kernel
theorem dX10_tickSlots_99 : decode cX10_tickSlots 99 = .ok (.iaload, 1) := by decide +kernel
theorem dX10_tickSlots_100 : decode cX10_tickSlots 100 = .ok (.iconst (-1), 1) := by decide +kernel
theorem dX10_tickSlots_101 : decode cX10_tickSlots 101 = .ok (.ixor, 1) := by decide +kernel
theorem dX10_tickSlots_102 : decode cX10_tickSlots 102 = .ok (.iand, 1) := by decide +kernel
theorem dX10_tickSlots_103 : decode cX10_tickSlots 103 = .ok (.iconst 3, 1) := by decide +kernel
theorem dX10_tickSlots_104 : decode cX10_tickSlots 104 = .ok (.aload_n 0, 1) := by decide +kernel
theorem dX10_tickSlots_105 : decode cX10_tickSlots 105 = .ok (.getfield 47, 3) := by decide +kernel
theorem dX10_tickSlots_108 : decode cX10_tickSlots 108 = .ok (.iload_n 1, 1) := by decide +kernel
theorem dX10_tickSlots_109 : decode cX10_tickSlots 109 = .ok (.iaload, 1) := by decide +kernel
theorem dX10_tickSlots_110 : decode cX10_tickSlots 110 = .ok (.iload_n 2, 1) := by decide +kernel
theorem dX10_tickSlots_111 : decode cX10_tickSlots 111 = .ok (.aload_n 0, 1) := by decide +kernel
theorem dX10_tickSlots_112 : decode cX10_tickSlots 112 = .ok (.getfield 68, 3) := by decide +kernel
theorem dX10_tickSlots_115 : decode cX10_tickSlots 115 = .ok (.iload_n 3, 1) := by decide +kernel
theorem dX10_tickSlots_116 : decode cX10_tickSlots 116 = .ok (.iaload, 1) := by decide +kernel
theorem dX10_tickSlots_117 : decode cX10_tickSlots 117 = .ok (.invokevirtual 179, 3) := by decide +kernel
theorem dX10_tickSlots_120 : decode cX10_tickSlots 120 = .ok (.aload_n 0, 1) := by decide +kernel
theorem dX10_tickSlots_121 : decode cX10_tickSlots 121 = .ok (.getfield 74, 3) := by decide +kernel
theorem dX10_tickSlots_124 : decode cX10_tickSlots 124 = .ok (.iload_n 3, 1) := by decide +kernel
theorem dX10_tickSlots_125 : decode cX10_tickSlots 125 = .ok (.iaload, 1) := by decide +kernel
theorem dX10_tickSlots_126 : decode cX10_tickSlots 126 = .ok (.iconst 4, 1) := by decide +kernel
theorem dX10_tickSlots_127 : decode cX10_tickSlots 127 = .ok (.if_icmp .ne 104, 3) := by decide +kernel
theorem dX10_tickSlots_130 : decode cX10_tickSlots 130 = .ok (.aload_n 0, 1) := by decide +kernel
theorem dX10_tickSlots_131 : decode cX10_tickSlots 131 = .ok (.iload_n 1, 1) := by decide +kernel
theorem dX10_tickSlots_132 : decode cX10_tickSlots 132 = .ok (.aload_n 0, 1) := by decide +kernel
theorem dX10_tickSlots_133 : decode cX10_tickSlots 133 = .ok (.getfield 32, 3) := by decide +kernel
theorem dX10_tickSlots_136 : decode cX10_tickSlots 136 = .ok (.iload_n 1, 1) := by decide +kernel
theorem dX10_tickSlots_137 : decode cX10_tickSlots 137 = .ok (.iaload, 1) := by decide +kernel
theorem dX10_tickSlots_138 : decode cX10_tickSlots 138 = .ok (.iconst 3, 1) := by decide +kernel
theorem dX10_tickSlots_139 : decode cX10_tickSlots 139 = .ok (.iadd, 1) := by decide +kernel
theorem dX10_tickSlots_140 : decode cX10_tickSlots 140 = .ok (.invokevirtual 130, 3) := by decide +kernel
theorem dX10_tickSlots_143 : decode cX10_tickSlots 143 = .ok (.iload_n 1, 1) := by decide +kernel
theorem dX10_tickSlots_144 : decode cX10_tickSlots 144 = .ok (.ishr, 1) := by decide +kernel
theorem dX10_tickSlots_145 : decode cX10_tickSlots 145 = .ok (.iconst 1, 1) := by decide +kernel
theorem dX10_tickSlots_146 : decode cX10_tickSlots 146 = .ok (.iand, 1) := by decide +kernel
theorem dX10_tickSlots_147 : decode cX10_tickSlots 147 = .ok (.iconst 1, 1) := by decide +kernel
theorem dX10_tickSlots_148 : decode cX10_tickSlots 148 = .ok (.if_icmp .ne 83, 3) := by decide +kernel
theorem dX10_tickSlots_151 : decode cX10_tickSlots 151 = .ok (.aload_n 0, 1) := by decide +kernel
theorem dX10_tickSlots_152 : decode cX10_tickSlots 152 = .ok (.iload_n 1, 1) := by decide +kernel
theorem dX10_tickSlots_153 : decode cX10_tickSlots 153 = .ok (.aload_n 0, 1) := by decide +kernel
theorem dX10_tickSlots_154 : decode cX10_tickSlots 154 = .ok (.getfield 32, 3) := by decide +kernel
theorem dX10_tickSlots_157 : decode cX10_tickSlots 157 = .ok (.iload_n 1, 1) := by decide +kernel
theorem dX10_tickSlots_158 : decode cX10_tickSlots 158 = .ok (.iaload, 1) := by decide +kernel
theorem dX10_tickSlots_159 : decode cX10_tickSlots 159 = .ok (.iconst 3, 1) := by decide +kernel
theorem dX10_tickSlots_160 : decode cX10_tickSlots 160 = .ok (.iadd, 1) := by decide +kernel
theorem dX10_tickSlots_161 : decode cX10_tickSlots 161 = .ok (.invokevirtual 130, 3) := by decide +kernel
theorem dX10_tickSlots_164 : decode cX10_tickSlots 164 = .ok (.aload_n 0, 1) := by decide +kernel
theorem dX10_tickSlots_165 : decode cX10_tickSlots 165 = .ok (.getfield 71, 3) := by decide +kernel
theorem dX10_tickSlots_168 : decode cX10_tickSlots 168 = .ok (.iload_n 3, 1) := by decide +kernel
theorem dX10_tickSlots_169 : decode cX10_tickSlots 169 = .ok (.iaload, 1) := by decide +kernel
theorem dX10_tickSlots_170 : decode cX10_tickSlots 170 = .ok (.iconst (-1), 1) := by decide +kernel
theorem dX10_tickSlots_171 : decode cX10_tickSlots 171 = .ok (.ixor, 1) := by decide +kernel
theorem dX10_tickSlots_172 : decode cX10_tickSlots 172 = .ok (.iand, 1) := by decide +kernel
theorem dX10_tickSlots_173 : decode cX10_tickSlots 173 = .ok (.iconst 1, 1) := by decide +kernel
theorem dX10_tickSlots_174 : decode cX10_tickSlots 174 = .ok (.iload_n 1, 1) := by decide +kernel
theorem dX10_tickSlots_175 : decode cX10_tickSlots 175 = .ok (.ishl, 1) := by decide +kernel
theorem dX10_tickSlots_176 : decode cX10_tickSlots 176 = .ok (.iconst (-1), 1) := by decide +kernel
theorem dX10_tickSlots_177 : decode cX10_tickSlots 177 = .ok (.ixor, 1) := by decide +kernel
theorem dX10_tickSlots_178 : decode cX10_tickSlots 178 = .ok (.iand, 1) := by decide +kernel
theorem dX10_tickSlots_179 : decode cX10_tickSlots 179 = .ok (.istore 4, 2) := by decide +kernel
theorem dX10_tickSlots_181 : decode cX10_tickSlots 181 = .ok (.iconst 0, 1) := by decide +kernel
theorem dX10_tickSlots_182 : decode cX10_tickSlots 182 = .ok (.istore 5, 2) := by decide +kernel
theorem dX10_tickSlots_184 : decode cX10_tickSlots 184 = .ok (.iload 5, 2) := by decide +kernel
theorem dX10_tickSlots_186 : decode cX10_tickSlots 186 = .ok (.aload_n 0, 1) := by decide +kernel
theorem dX10_tickSlots_187 : decode cX10_tickSlots 187 = .ok (.getfield 120, 3) := by decide +kernel
theorem dX10_tickSlots_190 : decode cX10_tickSlots 190 = .ok (.if_icmp .ge 41, 3) := by decide +kernel
theorem dX10_tickSlots_193 : decode cX10_tickSlots 193 = .ok (.iload 4, 2) := by decide +kernel
theorem dX10_tickSlots_195 : decode cX10_tickSlots 195 = .ok (.iload 5, 2) := by decide +kernel
theorem dX10_tickSlots_197 : decode cX10_tickSlots 197 = .ok (.ishr, 1) := by decide +kernel
theorem dX10_tickSlots_198 : decode cX10_tickSlots 198 = .ok (.iconst 1, 1) := by decide +kernel
theorem dX10_tickSlots_199 : decode cX10_tickSlots 199 = .ok (.iand, 1) := by decide +kernel
theorem dX10_tickSlots_200 : decode cX10_tickSlots 200 = .ok (.iconst 1, 1) := by decide +kernel
theorem dX10_tickSlots_201 : decode cX10_tickSlots 201 = .ok (.if_icmp .ne 24, 3) := by decide +kernel
theorem dX10_tickSlots_204 : decode cX10_tickSlots 204 = .ok (.aload_n 0, 1) := by decide +kernel
theorem dX10_tickSlots_205 : decode cX10_tickSlots 205 = .ok (.iload_n 1, 1) := by decide +kernel
theorem dX10_tickSlots_206 : decode cX10_tickSlots 206 = .ok (.iconst (-1), 1) := by decide +kernel
theorem dX10_tickSlots_207 : decode cX10_tickSlots 207 = .ok (.iload 5, 2) := by decide +kernel
theorem dX10_tickSlots_209 : decode cX10_tickSlots 209 = .ok (.isub, 1) := by decide +kernel
theorem dX10_tickSlots_210 : decode cX10_tickSlots 210 = .ok (.invokevirtual 223, 3) := by decide +kernel
theorem dX10_tickSlots_213 : decode cX10_tickSlots 213 = .ok (.ifCond .ne 12, 3) := by decide +kernel
theorem dX10_tickSlots_216 : decode cX10_tickSlots 216 = .ok (.aload_n 0, 1) := by decide +kernel
theorem dX10_tickSlots_217 : decode cX10_tickSlots 217 = .ok (.iload_n 1, 1) := by decide +kernel
theorem dX10_tickSlots_218 : decode cX10_tickSlots 218 = .ok (.iconst (-1), 1) := by decide +kernel
theorem dX10_tickSlots_219 : decode cX10_tickSlots 219 = .ok (.iload 5, 2) := by decide +kernel
theorem dX10_tickSlots_221 : decode cX10_tickSlots 221 = .ok (.isub, 1) := by decide +kernel
theorem dX10_tickSlots_222 : decode cX10_tickSlots 222 = .ok (.invokevirtual 226, 3) := by decide +kernel
theorem dX10_tickSlots_225 : decode cX10_tickSlots 225 = .ok (.iinc 5 1, 3) := by decide +kernel
theorem dX10_tickSlots_228 : decode cX10_tickSlots 228 = .ok (.goto (-44), 3) := by decide +kernel
theorem dX10_tickSlots_231 : decode cX10_tickSlots 231 = .ok (.iinc 2 1, 3) := by decide +kernel
theorem dX10_tickSlots_234 : decode cX10_tickSlots 234 = .ok (.goto (-232), 3) := by decide +kernel
theorem dX10_tickSlots_237 : decode cX10_tickSlots 237 = .ok (.return_, 1) := by decide +kernel
theorem dX10_tickNothing_0 : decode cX10_tickNothing 0 = .ok (.iconst (-1), 1) := by decide +kernel
theorem dX10_tickNothing_1 : decode cX10_tickNothing 1 = .ok (.istore_n 2, 1) := by decide +kernel
theorem dX10_tickNothing_2 : decode cX10_tickNothing 2 = .ok (.iconst 1, 1) := by decide +kernel
theorem dX10_tickNothing_3 : decode cX10_tickNothing 3 = .ok (.istore_n 3, 1) := by decide +kernel
theorem dX10_tickNothing_4 : decode cX10_tickNothing 4 = .ok (.iconst 0, 1) := by decide +kernel
theorem dX10_tickNothing_5 : decode cX10_tickNothing 5 = .ok (.istore 4, 2) := by decide +kernel
theorem dX10_tickNothing_7 : decode cX10_tickNothing 7 = .ok (.iload 4, 2) := by decide +kernel
theorem dX10_tickNothing_9 : decode cX10_tickNothing 9 = .ok (.bipush 100, 2) := by decide +kernel
theorem dX10_tickNothing_11 : decode cX10_tickNothing 11 = .ok (.if_icmp .ge 75, 3) := by decide +kernel
theorem dX10_tickNothing_14 : decode cX10_tickNothing 14 = .ok (.bipush 100, 2) := by decide +kernel
theorem dX10_tickNothing_16 : decode cX10_tickNothing 16 = .ok (.iload_n 1, 1) := by decide +kernel
theorem dX10_tickNothing_17 : decode cX10_tickNothing 17 = .ok (.imul, 1) := by decide +kernel
theorem dX10_tickNothing_18 : decode cX10_tickNothing 18 = .ok (.iload 4, 2) := by decide +kernel
theorem dX10_tickNothing_20 : decode cX10_tickNothing 20 = .ok (.iadd, 1) := by decide +kernel
theorem dX10_tickNothing_21 : decode cX10_tickNothing 21 = .ok (.istore 5, 2) := by decide +kernel
theorem dX10_tickNothing_23 : decode cX10_tickNothing 23 = .ok (.aload_n 0, 1) := by decide +kernel
theorem dX10_tickNothing_24 : decode cX10_tickNothing 24 = .ok (.getfield 26, 3) := by decide +kernel
theorem dX10_tickNothing_27 : decode cX10_tickNothing 27 = .ok (.iload 5, 2) := by decide +kernel
theorem dX10_tickNothing_29 : decode cX10_tickNothing 29 = .ok (.baload, 1) := by decide +kernel
theorem dX10_tickNothing_30 : decode cX10_tickNothing 30 = .ok (.ifCond .eq 18, 3) := by decide +kernel
theorem dX10_tickNothing_33 : decode cX10_tickNothing 33 = .ok (.aload_n 0, 1) := by decide +kernel
theorem dX10_tickNothing_34 : decode cX10_tickNothing 34 = .ok (.getfield 29, 3) := by decide +kernel
theorem dX10_tickNothing_37 : decode cX10_tickNothing 37 = .ok (.iload 5, 2) := by decide +kernel
theorem dX10_tickNothing_39 : decode cX10_tickNothing 39 = .ok (.iaload, 1) := by decide +kernel
theorem dX10_tickNothing_40 : decode cX10_tickNothing 40 = .ok (.ifCond .ge 8, 3) := by decide +kernel
theorem dX10_tickNothing_43 : decode cX10_tickNothing 43 = .ok (.iload 4, 2) := by decide +kernel
theorem dX10_tickNothing_45 : decode cX10_tickNothing 45 = .ok (.goto 4, 3) := by decide +kernel
theorem dX10_tickNothing_48 : decode cX10_tickNothing 48 = .ok (.iload_n 2, 1) := by decide +kernel
theorem dX10_tickNothing_49 : decode cX10_tickNothing 49 = .ok (.istore_n 2, 1) := by decide +kernel
theorem dX10_tickNothing_50 : decode cX10_tickNothing 50 = .ok (.iload_n 3, 1) := by decide +kernel
theorem dX10_tickNothing_51 : decode cX10_tickNothing 51 = .ok (.ifCond .eq 27, 3) := by decide +kernel
theorem dX10_tickNothing_54 : decode cX10_tickNothing 54 = .ok (.aload_n 0, 1) := by decide +kernel
theorem dX10_tickNothing_55 : decode cX10_tickNothing 55 = .ok (.getfield 65, 3) := by decide +kernel
theorem dX10_tickNothing_58 : decode cX10_tickNothing 58 = .ok (.iload 5, 2) := by decide +kernel
theorem dX10_tickNothing_60 : decode cX10_tickNothing 60 = .ok (.baload, 1) := by decide +kernel
theorem dX10_tickNothing_61 : decode cX10_tickNothing 61 = .ok (.ifCond .eq 13, 3) := by decide +kernel
theorem dX10_tickNothing_64 : decode cX10_tickNothing 64 = .ok (.aload_n 0, 1) := by decide +kernel
theorem dX10_tickNothing_65 : decode cX10_tickNothing 65 = .ok (.getfield 26, 3) := by decide +kernel
theorem dX10_tickNothing_68 : decode cX10_tickNothing 68 = .ok (.iload 5, 2) := by decide +kernel
theorem dX10_tickNothing_70 : decode cX10_tickNothing 70 = .ok (.baload, 1) := by decide +kernel
theorem dX10_tickNothing_71 : decode cX10_tickNothing 71 = .ok (.ifCond .eq 7, 3) := by decide +kernel
theorem dX10_tickNothing_74 : decode cX10_tickNothing 74 = .ok (.iconst 1, 1) := by decide +kernel
theorem dX10_tickNothing_75 : decode cX10_tickNothing 75 = .ok (.goto 4, 3) := by decide +kernel
theorem dX10_tickNothing_78 : decode cX10_tickNothing 78 = .ok (.iconst 0, 1) := by decide +kernel
theorem dX10_tickNothing_79 : decode cX10_tickNothing 79 = .ok (.istore_n 3, 1) := by decide +kernel
theorem dX10_tickNothing_80 : decode cX10_tickNothing 80 = .ok (.iinc 4 1, 3) := by decide +kernel
theorem dX10_tickNothing_83 : decode cX10_tickNothing 83 = .ok (.goto (-76), 3) := by decide +kernel
theorem dX10_tickNothing_86 : decode cX10_tickNothing 86 = .ok (.iload_n 2, 1) := by decide +kernel
theorem dX10_tickNothing_87 : decode cX10_tickNothing 87 = .ok (.iconst (-1), 1) := by decide +kernel
theorem dX10_tickNothing_88 : decode cX10_tickNothing 88 = .ok (.if_icmp .eq 45, 3) := by decide +kernel
theorem dX10_tickNothing_91 : decode cX10_tickNothing 91 = .ok (.aload_n 0, 1) := by decide +kernel
theorem dX10_tickNothing_92 : decode cX10_tickNothing 92 = .ok (.getfield 32, 3) := by decide +kernel
theorem dX10_tickNothing_95 : decode cX10_tickNothing 95 = .ok (.iload_n 1, 1) := by decide +kernel
theorem dX10_tickNothing_96 : decode cX10_tickNothing 96 = .ok (.iaload, 1) := by decide +kernel
theorem dX10_tickNothing_97 : decode cX10_tickNothing 97 = .ok (.iload_n 2, 1) := by decide +kernel
theorem dX10_tickNothing_98 : decode cX10_tickNothing 98 = .ok (.iconst 4, 1) := by decide +kernel
theorem dX10_tickNothing_99 : decode cX10_tickNothing 99 = .ok (.iadd, 1) := by decide +kernel
theorem dX10_tickNothing_100 : decode cX10_tickNothing 100 = .ok (.if_icmp .ge 33, 3) := by decide +kernel
theorem dX10_tickNothing_103 : decode cX10_tickNothing 103 = .ok (.aload_n 0, 1) := by decide +kernel
theorem dX10_tickNothing_104 : decode cX10_tickNothing 104 = .ok (.getfield 35, 3) := by decide +kernel
theorem dX10_tickNothing_107 : decode cX10_tickNothing 107 = .ok (.iload_n 1, 1) := by decide +kernel
theorem dX10_tickNothing_108 : decode cX10_tickNothing 108 = .ok (.iaload, 1) := by decide +kernel
theorem dX10_tickNothing_109 : decode cX10_tickNothing 109 = .ok (.ifCond .ne 24, 3) := by decide +kernel
theorem dX10_tickNothing_112 : decode cX10_tickNothing 112 = .ok (.iload_n 3, 1) := by decide +kernel
theorem dX10_tickNothing_113 : decode cX10_tickNothing 113 = .ok (.ifCond .eq 20, 3) := by decide +kernel
theorem dX10_tickNothing_116 : decode cX10_tickNothing 116 = .ok (.aload_n 0, 1) := by decide +kernel
theorem dX10_tickNothing_117 : decode cX10_tickNothing 117 = .ok (.getfield 38, 3) := by decide +kernel
theorem dX10_tickNothing_120 : decode cX10_tickNothing 120 = .ok (.bipush 64, 2) := by decide +kernel
theorem dX10_tickNothing_122 : decode cX10_tickNothing 122 = .ok (.iload_n 1, 1) := by decide +kernel
theorem dX10_tickNothing_123 : decode cX10_tickNothing 123 = .ok (.imul, 1) := by decide +kernel
theorem dX10_tickNothing_124 : decode cX10_tickNothing 124 = .ok (.iconst 0, 1) := by decide +kernel
theorem dX10_tickNothing_125 : decode cX10_tickNothing 125 = .ok (.iastore, 1) := by decide +kernel
theorem dX10_tickNothing_126 : decode cX10_tickNothing 126 = .ok (.aload_n 0, 1) := by decide +kernel
theorem dX10_tickNothing_127 : decode cX10_tickNothing 127 = .ok (.getfield 35, 3) := by decide +kernel
theorem dX10_tickNothing_130 : decode cX10_tickNothing 130 = .ok (.iload_n 1, 1) := by decide +kernel
theorem dX10_tickNothing_131 : decode cX10_tickNothing 131 = .ok (.iconst 1, 1) := by decide +kernel
theorem dX10_tickNothing_132 : decode cX10_tickNothing 132 = .ok (.iastore, 1) := by decide +kernel
theorem dX10_tickNothing_133 : decode cX10_tickNothing 133 = .ok (.return_, 1) := by decide +kernel
theorem dX10_tickForget_0 : decode cX10_tickForget 0 = .ok (.aload_n 0, 1) := by decide +kernel
theorem dX10_tickForget_1 : decode cX10_tickForget 1 = .ok (.getfield 32, 3) := by decide +kernel
theorem dX10_tickForget_4 : decode cX10_tickForget 4 = .ok (.iload_n 1, 1) := by decide +kernel
theorem dX10_tickForget_5 : decode cX10_tickForget 5 = .ok (.iaload, 1) := by decide +kernel
theorem dX10_tickForget_6 : decode cX10_tickForget 6 = .ok (.istore_n 2, 1) := by decide +kernel
theorem dX10_tickForget_7 : decode cX10_tickForget 7 = .ok (.aload_n 0, 1) := by decide +kernel
theorem dX10_tickForget_8 : decode cX10_tickForget 8 = .ok (.iload_n 1, 1) := by decide +kernel
theorem dX10_tickForget_9 : decode cX10_tickForget 9 = .ok (.aload_n 0, 1) := by decide +kernel
theorem dX10_tickForget_10 : decode cX10_tickForget 10 = .ok (.getfield 32, 3) := by decide +kernel
theorem dX10_tickForget_13 : decode cX10_tickForget 13 = .ok (.iload_n 1, 1) := by decide +kernel
theorem dX10_tickForget_14 : decode cX10_tickForget 14 = .ok (.iaload, 1) := by decide +kernel
theorem dX10_tickForget_15 : decode cX10_tickForget 15 = .ok (.invokevirtual 130, 3) := by decide +kernel
theorem dX10_tickForget_18 : decode cX10_tickForget 18 = .ok (.istore_n 3, 1) := by decide +kernel
theorem dX10_tickForget_19 : decode cX10_tickForget 19 = .ok (.iconst 0, 1) := by decide +kernel
theorem dX10_tickForget_20 : decode cX10_tickForget 20 = .ok (.istore 4, 2) := by decide +kernel
theorem dX10_tickForget_22 : decode cX10_tickForget 22 = .ok (.iload 4, 2) := by decide +kernel
theorem dX10_tickForget_24 : decode cX10_tickForget 24 = .ok (.aload_n 0, 1) := by decide +kernel
theorem dX10_tickForget_25 : decode cX10_tickForget 25 = .ok (.getfield 120, 3) := by decide +kernel
theorem dX10_tickForget_28 : decode cX10_tickForget 28 = .ok (.if_icmp .ge 54, 3) := by decide +kernel
theorem dX10_tickForget_31 : decode cX10_tickForget 31 = .ok (.iload 4, 2) := by decide +kernel
theorem dX10_tickForget_33 : decode cX10_tickForget 33 = .ok (.iload_n 1, 1) := by decide +kernel
theorem dX10_tickForget_34 : decode cX10_tickForget 34 = .ok (.if_icmp .eq 42, 3) := by decide +kernel
theorem dX10_tickForget_37 : decode cX10_tickForget 37 = .ok (.iload_n 3, 1) := by decide +kernel
theorem dX10_tickForget_38 : decode cX10_tickForget 38 = .ok (.iload 4, 2) := by decide +kernel
theorem dX10_tickForget_40 : decode cX10_tickForget 40 = .ok (.ishr, 1) := by decide +kernel
theorem dX10_tickForget_41 : decode cX10_tickForget 41 = .ok (.iconst 1, 1) := by decide +kernel
theorem dX10_tickForget_42 : decode cX10_tickForget 42 = .ok (.iand, 1) := by decide +kernel
theorem dX10_tickForget_43 : decode cX10_tickForget 43 = .ok (.iconst 1, 1) := by decide +kernel
theorem dX10_tickForget_44 : decode cX10_tickForget 44 = .ok (.if_icmp .ne 32, 3) := by decide +kernel
theorem dX10_tickForget_47 : decode cX10_tickForget 47 = .ok (.aload_n 0, 1) := by decide +kernel
theorem dX10_tickForget_48 : decode cX10_tickForget 48 = .ok (.getfield 77, 3) := by decide +kernel
theorem dX10_tickForget_51 : decode cX10_tickForget 51 = .ok (.bipush 9, 2) := by decide +kernel
theorem dX10_tickForget_53 : decode cX10_tickForget 53 = .ok (.iload_n 1, 1) := by decide +kernel
theorem dX10_tickForget_54 : decode cX10_tickForget 54 = .ok (.imul, 1) := by decide +kernel
theorem dX10_tickForget_55 : decode cX10_tickForget 55 = .ok (.iload 4, 2) := by decide +kernel
theorem dX10_tickForget_57 : decode cX10_tickForget 57 = .ok (.iadd, 1) := by decide +kernel
theorem dX10_tickForget_58 : decode cX10_tickForget 58 = .ok (.iaload, 1) := by decide +kernel
theorem dX10_tickForget_59 : decode cX10_tickForget 59 = .ok (.iload_n 2, 1) := by decide +kernel
theorem dX10_tickForget_60 : decode cX10_tickForget 60 = .ok (.if_icmp .ge 16, 3) := by decide +kernel
theorem dX10_tickForget_63 : decode cX10_tickForget 63 = .ok (.aload_n 0, 1) := by decide +kernel
theorem dX10_tickForget_64 : decode cX10_tickForget 64 = .ok (.getfield 77, 3) := by decide +kernel
theorem dX10_tickForget_67 : decode cX10_tickForget 67 = .ok (.bipush 9, 2) := by decide +kernel
theorem dX10_tickForget_69 : decode cX10_tickForget 69 = .ok (.iload_n 1, 1) := by decide +kernel
theorem dX10_tickForget_70 : decode cX10_tickForget 70 = .ok (.imul, 1) := by decide +kernel
theorem dX10_tickForget_71 : decode cX10_tickForget 71 = .ok (.iload 4, 2) := by decide +kernel
theorem dX10_tickForget_73 : decode cX10_tickForget 73 = .ok (.iadd, 1) := by decide +kernel
theorem dX10_tickForget_74 : decode cX10_tickForget 74 = .ok (.iaload, 1) := by decide +kernel
theorem dX10_tickForget_75 : decode cX10_tickForget 75 = .ok (.istore_n 2, 1) := by decide +kernel
theorem dX10_tickForget_76 : decode cX10_tickForget 76 = .ok (.iinc 4 1, 3) := by decide +kernel
theorem dX10_tickForget_79 : decode cX10_tickForget 79 = .ok (.goto (-57), 3) := by decide +kernel
theorem dX10_tickForget_82 : decode cX10_tickForget 82 = .ok (.iload_n 2, 1) := by decide +kernel
theorem dX10_tickForget_83 : decode cX10_tickForget 83 = .ok (.aload_n 0, 1) := by decide +kernel
theorem dX10_tickForget_84 : decode cX10_tickForget 84 = .ok (.getfield 80, 3) := by decide +kernel
theorem dX10_tickForget_87 : decode cX10_tickForget 87 = .ok (.iload_n 1, 1) := by decide +kernel
theorem dX10_tickForget_88 : decode cX10_tickForget 88 = .ok (.iaload, 1) := by decide +kernel
theorem dX10_tickForget_89 : decode cX10_tickForget 89 = .ok (.if_icmp .le 26, 3) := by decide +kernel
theorem dX10_tickForget_92 : decode cX10_tickForget 92 = .ok (.aload_n 0, 1) := by decide +kernel
theorem dX10_tickForget_93 : decode cX10_tickForget 93 = .ok (.getfield 80, 3) := by decide +kernel
theorem dX10_tickForget_96 : decode cX10_tickForget 96 = .ok (.iload_n 1, 1) := by decide +kernel
theorem dX10_tickForget_97 : decode cX10_tickForget 97 = .ok (.iload_n 2, 1) := by decide +kernel
theorem dX10_tickForget_98 : decode cX10_tickForget 98 = .ok (.iastore, 1) := by decide +kernel
theorem dX10_tickForget_99 : decode cX10_tickForget 99 = .ok (.aload_n 0, 1) := by decide +kernel
theorem dX10_tickForget_100 : decode cX10_tickForget 100 = .ok (.iload_n 1, 1) := by decide +kernel
theorem dX10_tickForget_101 : decode cX10_tickForget 101 = .ok (.aload_n 0, 1) := by decide +kernel
theorem dX10_tickForget_102 : decode cX10_tickForget 102 = .ok (.getfield 83, 3) := by decide +kernel
theorem dX10_tickForget_105 : decode cX10_tickForget 105 = .ok (.iload_n 1, 1) := by decide +kernel
theorem dX10_tickForget_106 : decode cX10_tickForget 106 = .ok (.iaload, 1) := by decide +kernel
theorem dX10_tickForget_107 : decode cX10_tickForget 107 = .ok (.bipush 7, 2) := by decide +kernel
theorem dX10_tickForget_109 : decode cX10_tickForget 109 = .ok (.iconst 0, 1) := by decide +kernel
theorem dX10_tickForget_110 : decode cX10_tickForget 110 = .ok (.iload_n 2, 1) := by decide +kernel
theorem dX10_tickForget_111 : decode cX10_tickForget 111 = .ok (.iconst 0, 1) := by decide +kernel
theorem dX10_tickForget_112 : decode cX10_tickForget 112 = .ok (.invokevirtual 179, 3) := by decide +kernel
theorem dX10_tickForget_115 : decode cX10_tickForget 115 = .ok (.return_, 1) := by decide +kernel
theorem dX10_tickMain_0 : decode cX10_tickMain 0 = .ok (.aload_n 0, 1) := by decide +kernel
theorem dX10_tickMain_1 : decode cX10_tickMain 1 = .ok (.getfield 44, 3) := by decide +kernel
theorem dX10_tickMain_4 : decode cX10_tickMain 4 = .ok (.iload_n 1, 1) := by decide +kernel
theorem dX10_tickMain_5 : decode cX10_tickMain 5 = .ok (.iaload, 1) := by decide +kernel
theorem dX10_tickMain_6 : decode cX10_tickMain 6 = .ok (.ifCond .eq 75, 3) := by decide +kernel
theorem dX10_tickMain_9 : decode cX10_tickMain 9 = .ok (.aload_n 0, 1) := by decide +kernel
theorem dX10_tickMain_10 : decode cX10_tickMain 10 = .ok (.getfield 50, 3) := by decide +kernel
theorem dX10_tickMain_13 : decode cX10_tickMain 13 = .ok (.iload_n 1, 1) := by decide +kernel
theorem dX10_tickMain_14 : decode cX10_tickMain 14 = .ok (.dup2, 1) := by decide +kernel
theorem dX10_tickMain_15 : decode cX10_tickMain 15 = .ok (.iaload, 1) := by decide +kernel
theorem dX10_tickMain_16 : decode cX10_tickMain 16 = .ok (.iconst 1, 1) := by decide +kernel
theorem dX10_tickMain_17 : decode cX10_tickMain 17 = .ok (.iadd, 1) := by decide +kernel
theorem dX10_tickMain_18 : decode cX10_tickMain 18 = .ok (.iastore, 1) := by decide +kernel
theorem dX10_tickMain_19 : decode cX10_tickMain 19 = .ok (.aload_n 0, 1) := by decide +kernel
theorem dX10_tickMain_20 : decode cX10_tickMain 20 = .ok (.iload_n 1, 1) := by decide +kernel
theorem dX10_tickMain_21 : decode cX10_tickMain 21 = .ok (.invokevirtual 183, 3) := by decide +kernel
theorem dX10_tickMain_24 : decode cX10_tickMain 24 = .ok (.istore_n 2, 1) := by decide +kernel
theorem dX10_tickMain_25 : decode cX10_tickMain 25 = .ok (.aload_n 0, 1) := by decide +kernel
theorem dX10_tickMain_26 : decode cX10_tickMain 26 = .ok (.getfield 44, 3) := by decide +kernel
theorem dX10_tickMain_29 : decode cX10_tickMain 29 = .ok (.iload_n 1, 1) := by decide +kernel
theorem dX10_tickMain_30 : decode cX10_tickMain 30 = .ok (.iaload, 1) := by decide +kernel
theorem dX10_tickMain_31 : decode cX10_tickMain 31 = .ok (.iconst 1, 1) := by decide +kernel
theorem dX10_tickMain_32 : decode cX10_tickMain 32 = .ok (.if_icmp .eq 23, 3) := by decide +kernel
theorem dX10_tickMain_35 : decode cX10_tickMain 35 = .ok (.iload_n 2, 1) := by decide +kernel
theorem dX10_tickMain_36 : decode cX10_tickMain 36 = .ok (.iconst (-1), 1) := by decide +kernel
theorem dX10_tickMain_37 : decode cX10_tickMain 37 = .ok (.if_icmp .eq 22, 3) := by decide +kernel
theorem dX10_tickMain_40 : decode cX10_tickMain 40 = .ok (.aload_n 0, 1) := by decide +kernel
theorem dX10_tickMain_41 : decode cX10_tickMain 41 = .ok (.iload_n 1, 1) := by decide +kernel
theorem dX10_tickMain_42 : decode cX10_tickMain 42 = .ok (.aload_n 0, 1) := by decide +kernel
theorem dX10_tickMain_43 : decode cX10_tickMain 43 = .ok (.iload_n 1, 1) := by decide +kernel
theorem dX10_tickMain_44 : decode cX10_tickMain 44 = .ok (.iload_n 2, 1) := by decide +kernel
theorem dX10_tickMain_45 : decode cX10_tickMain 45 = .ok (.invokevirtual 172, 3) := by decide +kernel
theorem dX10_tickMain_48 : decode cX10_tickMain 48 = .ok (.iload_n 2, 1) := by decide +kernel
theorem dX10_tickMain_49 : decode cX10_tickMain 49 = .ok (.invokevirtual 175, 3) := by decide +kernel
theorem dX10_tickMain_52 : decode cX10_tickMain 52 = .ok (.ifCond .ne 7, 3) := by decide +kernel
theorem dX10_tickMain_55 : decode cX10_tickMain 55 = .ok (.iconst 1, 1) := by decide +kernel
theorem dX10_tickMain_56 : decode cX10_tickMain 56 = .ok (.goto 4, 3) := by decide +kernel
theorem dX10_tickMain_59 : decode cX10_tickMain 59 = .ok (.iconst 0, 1) := by decide +kernel
theorem dX10_tickMain_60 : decode cX10_tickMain 60 = .ok (.istore_n 3, 1) := by decide +kernel
theorem dX10_tickMain_61 : decode cX10_tickMain 61 = .ok (.aload_n 0, 1) := by decide +kernel
theorem dX10_tickMain_62 : decode cX10_tickMain 62 = .ok (.getfield 50, 3) := by decide +kernel
theorem dX10_tickMain_65 : decode cX10_tickMain 65 = .ok (.iload_n 1, 1) := by decide +kernel
theorem dX10_tickMain_66 : decode cX10_tickMain 66 = .ok (.iaload, 1) := by decide +kernel
theorem dX10_tickMain_67 : decode cX10_tickMain 67 = .ok (.iconst 3, 1) := by decide +kernel
theorem dX10_tickMain_68 : decode cX10_tickMain 68 = .ok (.irem, 1) := by decide +kernel
theorem dX10_tickMain_69 : decode cX10_tickMain 69 = .ok (.ifCond .ne 12, 3) := by decide +kernel
theorem dX10_tickMain_72 : decode cX10_tickMain 72 = .ok (.iload_n 3, 1) := by decide +kernel
theorem dX10_tickMain_73 : decode cX10_tickMain 73 = .ok (.ifCond .eq 8, 3) := by decide +kernel
theorem dX10_tickMain_76 : decode cX10_tickMain 76 = .ok (.aload_n 0, 1) := by decide +kernel
theorem dX10_tickMain_77 : decode cX10_tickMain 77 = .ok (.iload_n 1, 1) := by decide +kernel
theorem dX10_tickMain_78 : decode cX10_tickMain 78 = .ok (.invokevirtual 230, 3) := by decide +kernel
theorem dX10_tickMain_81 : decode cX10_tickMain 81 = .ok (.aload_n 0, 1) := by decide +kernel
theorem dX10_tickMain_82 : decode cX10_tickMain 82 = .ok (.getfield 44, 3) := by decide +kernel
theorem dX10_tickMain_85 : decode cX10_tickMain 85 = .ok (.iload_n 1, 1) := by decide +kernel
theorem dX10_tickMain_86 : decode cX10_tickMain 86 = .ok (.iaload, 1) := by decide +kernel
theorem dX10_tickMain_87 : decode cX10_tickMain 87 = .ok (.iconst 2, 1) := by decide +kernel
theorem dX10_tickMain_88 : decode cX10_tickMain 88 = .ok (.if_icmp .ne 18, 3) := by decide +kernel
theorem dX10_tickMain_91 : decode cX10_tickMain 91 = .ok (.aload_n 0, 1) := by decide +kernel
theorem dX10_tickMain_92 : decode cX10_tickMain 92 = .ok (.iload_n 1, 1) := by decide +kernel
theorem dX10_tickMain_93 : decode cX10_tickMain 93 = .ok (.invokevirtual 233, 3) := by decide +kernel
theorem dX10_tickMain_96 : decode cX10_tickMain 96 = .ok (.aload_n 0, 1) := by decide +kernel
theorem dX10_tickMain_97 : decode cX10_tickMain 97 = .ok (.iload_n 1, 1) := by decide +kernel
theorem dX10_tickMain_98 : decode cX10_tickMain 98 = .ok (.invokevirtual 236, 3) := by decide +kernel
theorem dX10_tickMain_101 : decode cX10_tickMain 101 = .ok (.aload_n 0, 1) := by decide +kernel
theorem dX10_tickMain_102 : decode cX10_tickMain 102 = .ok (.iload_n 1, 1) := by decide +kernel
theorem dX10_tickMain_103 : decode cX10_tickMain 103 = .ok (.invokevirtual 239, 3) := by decide +kernel
theorem dX10_tickMain_106 : decode cX10_tickMain 106 = .ok (.aload_n 0, 1) := by decide +kernel
theorem dX10_tickMain_107 : decode cX10_tickMain 107 = .ok (.iload_n 1, 1) := by decide +kernel
theorem dX10_tickMain_108 : decode cX10_tickMain 108 = .ok (.invokevirtual 203, 3) := by decide +kernel
theorem dX10_tickMain_111 : decode cX10_tickMain 111 = .ok (.return_, 1) := by decide +kernel
theorem dX10_tick_0 : decode cX10_tick 0 = .ok (.aload_n 0, 1) := by decide +kernel
theorem dX10_tick_1 : decode cX10_tick 1 = .ok (.iconst 0, 1) := by decide +kernel
theorem dX10_tick_2 : decode cX10_tick 2 = .ok (.putfield 127, 3) := by decide +kernel
theorem dX10_tick_5 : decode cX10_tick 5 = .ok (.iconst 0, 1) := by decide +kernel
theorem dX10_tick_6 : decode cX10_tick 6 = .ok (.istore_n 1, 1) := by decide +kernel
theorem dX10_tick_7 : decode cX10_tick 7 = .ok (.iload_n 1, 1) := by decide +kernel
theorem dX10_tick_8 : decode cX10_tick 8 = .ok (.aload_n 0, 1) := by decide +kernel
theorem dX10_tick_9 : decode cX10_tick 9 = .ok (.getfield 120, 3) := by decide +kernel
theorem dX10_tick_12 : decode cX10_tick 12 = .ok (.if_icmp .ge 23, 3) := by decide +kernel
theorem dX10_tick_15 : decode cX10_tick 15 = .ok (.aload_n 0, 1) := by decide +kernel
theorem dX10_tick_16 : decode cX10_tick 16 = .ok (.getfield 7, 3) := by decide +kernel
theorem dX10_tick_19 : decode cX10_tick 19 = .ok (.iload_n 1, 1) := by decide +kernel
theorem dX10_tick_20 : decode cX10_tick 20 = .ok (.baload, 1) := by decide +kernel
theorem dX10_tick_21 : decode cX10_tick 21 = .ok (.ifCond .ne 8, 3) := by decide +kernel
theorem dX10_tick_24 : decode cX10_tick 24 = .ok (.aload_n 0, 1) := by decide +kernel
theorem dX10_tick_25 : decode cX10_tick 25 = .ok (.iload_n 1, 1) := by decide +kernel
theorem dX10_tick_26 : decode cX10_tick 26 = .ok (.invokevirtual 242, 3) := by decide +kernel
theorem dX10_tick_29 : decode cX10_tick 29 = .ok (.iinc 1 1, 3) := by decide +kernel
theorem dX10_tick_32 : decode cX10_tick 32 = .ok (.goto (-25), 3) := by decide +kernel
theorem dX10_tick_35 : decode cX10_tick 35 = .ok (.return_, 1) := by decide +kernel
theorem dX10_run_0 : decode cX10_run 0 = .ok (.aload_n 0, 1) := by decide +kernel
theorem dX10_run_1 : decode cX10_run 1 = .ok (.iload_n 1, 1) := by decide +kernel
theorem dX10_run_2 : decode cX10_run 2 = .ok (.iconst 1, 1) := by decide +kernel
theorem dX10_run_3 : decode cX10_run 3 = .ok (.bipush 50, 2) := by decide +kernel
theorem dX10_run_5 : decode cX10_run 5 = .ok (.invokestatic 196, 3) := by decide +kernel
theorem dX10_run_8 : decode cX10_run 8 = .ok (.invokevirtual 212, 3) := by decide +kernel
theorem dX10_run_11 : decode cX10_run 11 = .ok (.ifCond .ne 5, 3) := by decide +kernel
theorem dX10_run_14 : decode cX10_run 14 = .ok (.iconst 0, 1) := by decide +kernel
theorem dX10_run_15 : decode cX10_run 15 = .ok (.ireturn, 1) := by decide +kernel
theorem dX10_run_16 : decode cX10_run 16 = .ok (.iconst 0, 1) := by decide +kernel
theorem dX10_run_17 : decode cX10_run 17 = .ok (.istore_n 2, 1) := by decide +kernel
theorem dX10_run_18 : decode cX10_run 18 = .ok (.iload_n 2, 1) := by decide +kernel
theorem dX10_run_19 : decode cX10_run 19 = .ok (.iload_n 1, 1) := by decide +kernel
theorem dX10_run_20 : decode cX10_run 20 = .ok (.if_icmp .ge 39, 3) := by decide +kernel
theorem dX10_run_23 : decode cX10_run 23 = .ok (.aload_n 0, 1) := by decide +kernel
theorem dX10_run_24 : decode cX10_run 24 = .ok (.getfield 142, 3) := by decide +kernel
theorem dX10_run_27 : decode cX10_run 27 = .ok (.istore_n 3, 1) := by decide +kernel
theorem dX10_run_28 : decode cX10_run 28 = .ok (.iconst 0, 1) := by decide +kernel
theorem dX10_run_29 : decode cX10_run 29 = .ok (.istore 4, 2) := by decide +kernel
theorem dX10_run_31 : decode cX10_run 31 = .ok (.iload 4, 2) := by decide +kernel
theorem dX10_run_33 : decode cX10_run 33 = .ok (.iload_n 3, 1) := by decide +kernel
theorem dX10_run_34 : decode cX10_run 34 = .ok (.if_icmp .ge 15, 3) := by decide +kernel
theorem dX10_run_37 : decode cX10_run 37 = .ok (.aload_n 0, 1) := by decide +kernel
theorem dX10_run_38 : decode cX10_run 38 = .ok (.iconst 0, 1) := by decide +kernel
theorem dX10_run_39 : decode cX10_run 39 = .ok (.invokevirtual 216, 3) := by decide +kernel
theorem dX10_run_42 : decode cX10_run 42 = .ok (.pop, 1) := by decide +kernel
theorem dX10_run_43 : decode cX10_run 43 = .ok (.iinc 4 1, 3) := by decide +kernel
theorem dX10_run_46 : decode cX10_run 46 = .ok (.goto (-15), 3) := by decide +kernel
theorem dX10_run_49 : decode cX10_run 49 = .ok (.aload_n 0, 1) := by decide +kernel
theorem dX10_run_50 : decode cX10_run 50 = .ok (.invokevirtual 245, 3) := by decide +kernel
theorem dX10_run_53 : decode cX10_run 53 = .ok (.iinc 2 1, 3) := by decide +kernel
theorem dX10_run_56 : decode cX10_run 56 = .ok (.goto (-38), 3) := by decide +kernel
theorem dX10_run_59 : decode cX10_run 59 = .ok (.aload_n 0, 1) := by decide +kernel
theorem dX10_run_60 : decode cX10_run 60 = .ok (.getfield 142, 3) := by decide +kernel
theorem dX10_run_63 : decode cX10_run 63 = .ok (.ireturn, 1) := by decide +kernel
theorem dX10_crash_0 : decode cX10_crash 0 = .ok (.aload_n 0, 1) := by decide +kernel
theorem dX10_crash_1 : decode cX10_crash 1 = .ok (.aload_n 0, 1) := by decide +kernel
theorem dX10_crash_2 : decode cX10_crash 2 = .ok (.iload_n 1, 1) := by decide +kernel
theorem dX10_crash_3 : decode cX10_crash 3 = .ok (.invokevirtual 248, 3) := by decide +kernel
theorem dX10_crash_6 : decode cX10_crash 6 = .ok (.invokevirtual 212, 3) := by decide +kernel
theorem dX10_crash_9 : decode cX10_crash 9 = .ok (.ifCond .ne 5, 3) := by decide +kernel
theorem dX10_crash_12 : decode cX10_crash 12 = .ok (.iconst 0, 1) := by decide +kernel
theorem dX10_crash_13 : decode cX10_crash 13 = .ok (.ireturn, 1) := by decide +kernel
theorem dX10_crash_14 : decode cX10_crash 14 = .ok (.aload_n 0, 1) := by decide +kernel
theorem dX10_crash_15 : decode cX10_crash 15 = .ok (.getfield 7, 3) := by decide +kernel
theorem dX10_crash_18 : decode cX10_crash 18 = .ok (.iload_n 1, 1) := by decide +kernel
theorem dX10_crash_19 : decode cX10_crash 19 = .ok (.baload, 1) := by decide +kernel
theorem dX10_crash_20 : decode cX10_crash 20 = .ok (.ifCond .eq 7, 3) := by decide +kernel
theorem dX10_crash_23 : decode cX10_crash 23 = .ok (.iconst 1, 1) := by decide +kernel
theorem dX10_crash_24 : decode cX10_crash 24 = .ok (.goto 4, 3) := by decide +kernel
theorem dX10_crash_27 : decode cX10_crash 27 = .ok (.iconst 0, 1) := by decide +kernel
theorem dX10_crash_28 : decode cX10_crash 28 = .ok (.istore_n 3, 1) := by decide +kernel
theorem dX10_crash_29 : decode cX10_crash 29 = .ok (.iload_n 2, 1) := by decide +kernel
theorem dX10_crash_30 : decode cX10_crash 30 = .ok (.ifCond .eq 16, 3) := by decide +kernel
theorem dX10_crash_33 : decode cX10_crash 33 = .ok (.iload_n 1, 1) := by decide +kernel
theorem dX10_crash_34 : decode cX10_crash 34 = .ok (.aload_n 0, 1) := by decide +kernel
theorem dX10_crash_35 : decode cX10_crash 35 = .ok (.getfield 120, 3) := by decide +kernel
theorem dX10_crash_38 : decode cX10_crash 38 = .ok (.if_icmp .ge 8, 3) := by decide +kernel
theorem dX10_crash_41 : decode cX10_crash 41 = .ok (.aload_n 0, 1) := by decide +kernel
theorem dX10_crash_42 : decode cX10_crash 42 = .ok (.iload_n 1, 1) := by decide +kernel
theorem dX10_crash_43 : decode cX10_crash 43 = .ok (.invokevirtual 138, 3) := by decide +kernel
theorem dX10_crash_46 : decode cX10_crash 46 = .ok (.aload_n 0, 1) := by decide +kernel
theorem dX10_crash_47 : decode cX10_crash 47 = .ok (.getfield 7, 3) := by decide +kernel
theorem dX10_crash_50 : decode cX10_crash 50 = .ok (.iload_n 1, 1) := by decide +kernel
theorem dX10_crash_51 : decode cX10_crash 51 = .ok (.iload_n 2, 1) := by decide +kernel
theorem dX10_crash_52 : decode cX10_crash 52 = .ok (.bastore, 1) := by decide +kernel
theorem dX10_crash_53 : decode cX10_crash 53 = .ok (.iload_n 3, 1) := by decide +kernel
theorem dX10_crash_54 : decode cX10_crash 54 = .ok (.ireturn, 1) := by decide +kernel
theorem dX10_way_0 : decode cX10_way 0 = .ok (.aload_n 0, 1) := by decide +kernel
theorem dX10_way_1 : decode cX10_way 1 = .ok (.iconst 0, 1) := by decide +kernel
theorem dX10_way_2 : decode cX10_way 2 = .ok (.putfield 127, 3) := by decide +kernel
theorem dX10_way_5 : decode cX10_way 5 = .ok (.aload_n 0, 1) := by decide +kernel
theorem dX10_way_6 : decode cX10_way 6 = .ok (.getfield 142, 3) := by decide +kernel
theorem dX10_way_9 : decode cX10_way 9 = .ok (.ireturn, 1) := by decide +kernel
theorem dX10_message_0 : decode cX10_message 0 = .ok (.aload_n 0, 1) := by decide +kernel
theorem dX10_message_1 : decode cX10_message 1 = .ok (.aload_n 0, 1) := by decide +kernel
theorem dX10_message_2 : decode cX10_message 2 = .ok (.iload_n 1, 1) := by decide +kernel
theorem dX10_message_3 : decode cX10_message 3 = .ok (.invokevirtual 209, 3) := by decide +kernel
theorem dX10_message_6 : decode cX10_message 6 = .ok (.ifCond .eq 16, 3) := by decide +kernel
theorem dX10_message_9 : decode cX10_message 9 = .ok (.iload_n 2, 1) := by decide +kernel
theorem dX10_message_10 : decode cX10_message 10 = .ok (.iconst 0, 1) := by decide +kernel
theorem dX10_message_11 : decode cX10_message 11 = .ok (.iconst 5, 1) := by decide +kernel
theorem dX10_message_12 : decode cX10_message 12 = .ok (.invokestatic 196, 3) := by decide +kernel
theorem dX10_message_15 : decode cX10_message 15 = .ok (.ifCond .eq 7, 3) := by decide +kernel
theorem dX10_message_18 : decode cX10_message 18 = .ok (.iconst 1, 1) := by decide +kernel
theorem dX10_message_19 : decode cX10_message 19 = .ok (.goto 4, 3) := by decide +kernel
theorem dX10_message_22 : decode cX10_message 22 = .ok (.iconst 0, 1) := by decide +kernel
theorem dX10_message_23 : decode cX10_message 23 = .ok (.invokevirtual 212, 3) := by decide +kernel
theorem dX10_message_26 : decode cX10_message 26 = .ok (.ifCond .ne 5, 3) := by decide +kernel
theorem dX10_message_29 : decode cX10_message 29 = .ok (.iconst 0, 1) := by decide +kernel
theorem dX10_message_30 : decode cX10_message 30 = .ok (.ireturn, 1) := by decide +kernel
theorem dX10_message_31 : decode cX10_message 31 = .ok (.aload_n 0, 1) := by decide +kernel
theorem dX10_message_32 : decode cX10_message 32 = .ok (.getfield 86, 3) := by decide +kernel
theorem dX10_message_35 : decode cX10_message 35 = .ok (.iload_n 1, 1) := by decide +kernel
theorem dX10_message_36 : decode cX10_message 36 = .ok (.iaload, 1) := by decide +kernel
theorem dX10_message_37 : decode cX10_message 37 = .ok (.istore_n 3, 1) := by decide +kernel
theorem dX10_message_38 : decode cX10_message 38 = .ok (.iload_n 2, 1) := by decide +kernel
theorem dX10_message_39 : decode cX10_message 39 = .ok (.tableswitch 68 0 4 #[33, 40, 47, 54, 61], 33) := by decide +kernel
theorem dX10_message_72 : decode cX10_message 72 = .ok (.aload_n 0, 1) := by decide +kernel
theorem dX10_message_73 : decode cX10_message 73 = .ok (.getfield 95, 3) := by decide +kernel
theorem dX10_message_76 : decode cX10_message 76 = .ok (.iload_n 3, 1) := by decide +kernel
theorem dX10_message_77 : decode cX10_message 77 = .ok (.iaload, 1) := by decide +kernel
theorem dX10_message_78 : decode cX10_message 78 = .ok (.ireturn, 1) := by decide +kernel
theorem dX10_message_79 : decode cX10_message 79 = .ok (.aload_n 0, 1) := by decide +kernel
theorem dX10_message_80 : decode cX10_message 80 = .ok (.getfield 98, 3) := by decide +kernel
theorem dX10_message_83 : decode cX10_message 83 = .ok (.iload_n 3, 1) := by decide +kernel
theorem dX10_message_84 : decode cX10_message 84 = .ok (.iaload, 1) := by decide +kernel
theorem dX10_message_85 : decode cX10_message 85 = .ok (.ireturn, 1) := by decide +kernel
theorem dX10_message_86 : decode cX10_message 86 = .ok (.aload_n 0, 1) := by decide +kernel
theorem dX10_message_87 : decode cX10_message 87 = .ok (.getfield 101, 3) := by decide +kernel
theorem dX10_message_90 : decode cX10_message 90 = .ok (.iload_n 3, 1) := by decide +kernel
theorem dX10_message_91 : decode cX10_message 91 = .ok (.iaload, 1) := by decide +kernel
theorem dX10_message_92 : decode cX10_message 92 = .ok (.ireturn, 1) := by decide +kernel
theorem dX10_message_93 : decode cX10_message 93 = .ok (.aload_n 0, 1) := by decide +kernel
theorem dX10_message_94 : decode cX10_message 94 = .ok (.getfield 104, 3) := by decide +kernel
theorem dX10_message_97 : decode cX10_message 97 = .ok (.iload_n 3, 1) := by decide +kernel
theorem dX10_message_98 : decode cX10_message 98 = .ok (.iaload, 1) := by decide +kernel
theorem dX10_message_99 : decode cX10_message 99 = .ok (.ireturn, 1) := by decide +kernel
theorem dX10_message_100 : decode cX10_message 100 = .ok (.aload_n 0, 1) := by decide +kernel
theorem dX10_message_101 : decode cX10_message 101 = .ok (.getfield 107, 3) := by decide +kernel
theorem dX10_message_104 : decode cX10_message 104 = .ok (.iload_n 3, 1) := by decide +kernel
theorem dX10_message_105 : decode cX10_message 105 = .ok (.iaload, 1) := by decide +kernel
theorem dX10_message_106 : decode cX10_message 106 = .ok (.ireturn, 1) := by decide +kernel
theorem dX10_message_107 : decode cX10_message 107 = .ok (.aload_n 0, 1) := by decide +kernel
theorem dX10_message_108 : decode cX10_message 108 = .ok (.getfield 110, 3) := by decide +kernel
theorem dX10_message_111 : decode cX10_message 111 = .ok (.iload_n 3, 1) := by decide +kernel
theorem dX10_message_112 : decode cX10_message 112 = .ok (.iaload, 1) := by decide +kernel
theorem dX10_message_113 : decode cX10_message 113 = .ok (.ireturn, 1) := by decide +kernel
theorem dX10_decided_0 : decode cX10_decided 0 = .ok (.aload_n 0, 1) := by decide +kernel
theorem dX10_decided_1 : decode cX10_decided 1 = .ok (.aload_n 0, 1) := by decide +kernel
theorem dX10_decided_2 : decode cX10_decided 2 = .ok (.iload_n 1, 1) := by decide +kernel
theorem dX10_decided_3 : decode cX10_decided 3 = .ok (.invokevirtual 199, 3) := by decide +kernel
theorem dX10_decided_6 : decode cX10_decided 6 = .ok (.ifCond .eq 31, 3) := by decide +kernel
theorem dX10_decided_9 : decode cX10_decided 9 = .ok (.iload_n 2, 1) := by decide +kernel
theorem dX10_decided_10 : decode cX10_decided 10 = .ok (.iconst 0, 1) := by decide +kernel
theorem dX10_decided_11 : decode cX10_decided 11 = .ok (.bipush 99, 2) := by decide +kernel
theorem dX10_decided_13 : decode cX10_decided 13 = .ok (.invokestatic 196, 3) := by decide +kernel
theorem dX10_decided_16 : decode cX10_decided 16 = .ok (.ifCond .eq 21, 3) := by decide +kernel
theorem dX10_decided_19 : decode cX10_decided 19 = .ok (.aload_n 0, 1) := by decide +kernel
theorem dX10_decided_20 : decode cX10_decided 20 = .ok (.getfield 26, 3) := by decide +kernel
theorem dX10_decided_23 : decode cX10_decided 23 = .ok (.bipush 100, 2) := by decide +kernel
theorem dX10_decided_25 : decode cX10_decided 25 = .ok (.iload_n 1, 1) := by decide +kernel
theorem dX10_decided_26 : decode cX10_decided 26 = .ok (.imul, 1) := by decide +kernel
theorem dX10_decided_27 : decode cX10_decided 27 = .ok (.iload_n 2, 1) := by decide +kernel
theorem dX10_decided_28 : decode cX10_decided 28 = .ok (.iadd, 1) := by decide +kernel
theorem dX10_decided_29 : decode cX10_decided 29 = .ok (.baload, 1) := by decide +kernel
theorem dX10_decided_30 : decode cX10_decided 30 = .ok (.ifCond .eq 7, 3) := by decide +kernel
theorem dX10_decided_33 : decode cX10_decided 33 = .ok (.iconst 1, 1) := by decide +kernel
theorem dX10_decided_34 : decode cX10_decided 34 = .ok (.goto 4, 3) := by decide +kernel
theorem dX10_decided_37 : decode cX10_decided 37 = .ok (.iconst 0, 1) := by decide +kernel
theorem dX10_decided_38 : decode cX10_decided 38 = .ok (.invokevirtual 212, 3) := by decide +kernel
theorem dX10_decided_41 : decode cX10_decided 41 = .ok (.ifCond .eq 17, 3) := by decide +kernel
theorem dX10_decided_44 : decode cX10_decided 44 = .ok (.aload_n 0, 1) := by decide +kernel
theorem dX10_decided_45 : decode cX10_decided 45 = .ok (.getfield 29, 3) := by decide +kernel
theorem dX10_decided_48 : decode cX10_decided 48 = .ok (.bipush 100, 2) := by decide +kernel
theorem dX10_decided_50 : decode cX10_decided 50 = .ok (.iload_n 1, 1) := by decide +kernel
theorem dX10_decided_51 : decode cX10_decided 51 = .ok (.imul, 1) := by decide +kernel
theorem dX10_decided_52 : decode cX10_decided 52 = .ok (.iload_n 2, 1) := by decide +kernel
theorem dX10_decided_53 : decode cX10_decided 53 = .ok (.iadd, 1) := by decide +kernel
theorem dX10_decided_54 : decode cX10_decided 54 = .ok (.iaload, 1) := by decide +kernel
theorem dX10_decided_55 : decode cX10_decided 55 = .ok (.goto 4, 3) := by decide +kernel
theorem dX10_decided_58 : decode cX10_decided 58 = .ok (.iconst 0, 1) := by decide +kernel
theorem dX10_decided_59 : decode cX10_decided 59 = .ok (.ireturn, 1) := by decide +kernel
theorem dX10_about_0 : decode cX10_about 0 = .ok (.aload_n 0, 1) := by decide +kernel
theorem dX10_about_1 : decode cX10_about 1 = .ok (.aload_n 0, 1) := by decide +kernel
theorem dX10_about_2 : decode cX10_about 2 = .ok (.iload_n 1, 1) := by decide +kernel
theorem dX10_about_3 : decode cX10_about 3 = .ok (.invokevirtual 248, 3) := by decide +kernel
theorem dX10_about_6 : decode cX10_about 6 = .ok (.ifCond .eq 17, 3) := by decide +kernel
theorem dX10_about_9 : decode cX10_about 9 = .ok (.iload_n 2, 1) := by decide +kernel
theorem dX10_about_10 : decode cX10_about 10 = .ok (.iconst 0, 1) := by decide +kernel
theorem dX10_about_11 : decode cX10_about 11 = .ok (.bipush 8, 2) := by decide +kernel
theorem dX10_about_13 : decode cX10_about 13 = .ok (.invokestatic 196, 3) := by decide +kernel
theorem dX10_about_16 : decode cX10_about 16 = .ok (.ifCond .eq 7, 3) := by decide +kernel
theorem dX10_about_19 : decode cX10_about 19 = .ok (.iconst 1, 1) := by decide +kernel
theorem dX10_about_20 : decode cX10_about 20 = .ok (.goto 4, 3) := by decide +kernel
theorem dX10_about_23 : decode cX10_about 23 = .ok (.iconst 0, 1) := by decide +kernel
theorem dX10_about_24 : decode cX10_about 24 = .ok (.invokevirtual 212, 3) := by decide +kernel
theorem dX10_about_27 : decode cX10_about 27 = .ok (.ifCond .ne 5, 3) := by decide +kernel
theorem dX10_about_30 : decode cX10_about 30 = .ok (.iconst 0, 1) := by decide +kernel
theorem dX10_about_31 : decode cX10_about 31 = .ok (.ireturn, 1) := by decide +kernel
theorem dX10_about_32 : decode cX10_about 32 = .ok (.iload_n 1, 1) := by decide +kernel
theorem dX10_about_33 : decode cX10_about 33 = .ok (.aload_n 0, 1) := by decide +kernel
theorem dX10_about_34 : decode cX10_about 34 = .ok (.getfield 120, 3) := by decide +kernel
theorem dX10_about_37 : decode cX10_about 37 = .ok (.if_icmp .ge 7, 3) := by decide +kernel
theorem dX10_about_40 : decode cX10_about 40 = .ok (.iconst 1, 1) := by decide +kernel
theorem dX10_about_41 : decode cX10_about 41 = .ok (.goto 4, 3) := by decide +kernel
theorem dX10_about_44 : decode cX10_about 44 = .ok (.iconst 0, 1) := by decide +kernel
theorem dX10_about_45 : decode cX10_about 45 = .ok (.istore_n 3, 1) := by decide +kernel
theorem dX10_about_46 : decode cX10_about 46 = .ok (.iconst 0, 1) := by decide +kernel
theorem dX10_about_47 : decode cX10_about 47 = .ok (.istore 4, 2) := by decide +kernel
theorem dX10_about_49 : decode cX10_about 49 = .ok (.iload_n 2, 1) := by decide +kernel
theorem dX10_about_50 : decode cX10_about 50 = .ok (.tableswitch 214 0 7 #[46, 61, 76, 91, 98, 105, 150, 165], 46) := by decide +kernel
theorem dX10_about_96 : decode cX10_about 96 = .ok (.iload_n 3, 1) := by decide +kernel
theorem dX10_about_97 : decode cX10_about 97 = .ok (.ifCond .eq 12, 3) := by decide +kernel
theorem dX10_about_100 : decode cX10_about 100 = .ok (.aload_n 0, 1) := by decide +kernel
theorem dX10_about_101 : decode cX10_about 101 = .ok (.getfield 32, 3) := by decide +kernel
theorem dX10_about_104 : decode cX10_about 104 = .ok (.iload_n 1, 1) := by decide +kernel
theorem dX10_about_105 : decode cX10_about 105 = .ok (.iaload, 1) := by decide +kernel
theorem dX10_about_106 : decode cX10_about 106 = .ok (.goto 4, 3) := by decide +kernel
theorem dX10_about_109 : decode cX10_about 109 = .ok (.iconst 0, 1) := by decide +kernel
theorem dX10_about_110 : decode cX10_about 110 = .ok (.ireturn, 1) := by decide +kernel
theorem dX10_about_111 : decode cX10_about 111 = .ok (.iload_n 3, 1) := by decide +kernel
theorem dX10_about_112 : decode cX10_about 112 = .ok (.ifCond .eq 12, 3) := by decide +kernel
theorem dX10_about_115 : decode cX10_about 115 = .ok (.aload_n 0, 1) := by decide +kernel
theorem dX10_about_116 : decode cX10_about 116 = .ok (.getfield 44, 3) := by decide +kernel
theorem dX10_about_119 : decode cX10_about 119 = .ok (.iload_n 1, 1) := by decide +kernel
theorem dX10_about_120 : decode cX10_about 120 = .ok (.iaload, 1) := by decide +kernel
theorem dX10_about_121 : decode cX10_about 121 = .ok (.goto 4, 3) := by decide +kernel
theorem dX10_about_124 : decode cX10_about 124 = .ok (.iconst 0, 1) := by decide +kernel
theorem dX10_about_125 : decode cX10_about 125 = .ok (.ireturn, 1) := by decide +kernel
theorem dX10_about_126 : decode cX10_about 126 = .ok (.iload_n 3, 1) := by decide +kernel
theorem dX10_about_127 : decode cX10_about 127 = .ok (.ifCond .eq 12, 3) := by decide +kernel
theorem dX10_about_130 : decode cX10_about 130 = .ok (.aload_n 0, 1) := by decide +kernel
theorem dX10_about_131 : decode cX10_about 131 = .ok (.getfield 47, 3) := by decide +kernel
theorem dX10_about_134 : decode cX10_about 134 = .ok (.iload_n 1, 1) := by decide +kernel
theorem dX10_about_135 : decode cX10_about 135 = .ok (.iaload, 1) := by decide +kernel
theorem dX10_about_136 : decode cX10_about 136 = .ok (.goto 4, 3) := by decide +kernel
theorem dX10_about_139 : decode cX10_about 139 = .ok (.iconst 0, 1) := by decide +kernel
theorem dX10_about_140 : decode cX10_about 140 = .ok (.ireturn, 1) := by decide +kernel
theorem dX10_about_141 : decode cX10_about 141 = .ok (.aload_n 0, 1) := by decide +kernel
theorem dX10_about_142 : decode cX10_about 142 = .ok (.getfield 13, 3) := by decide +kernel
theorem dX10_about_145 : decode cX10_about 145 = .ok (.iload_n 1, 1) := by decide +kernel
theorem dX10_about_146 : decode cX10_about 146 = .ok (.iaload, 1) := by decide +kernel
theorem dX10_about_147 : decode cX10_about 147 = .ok (.ireturn, 1) := by decide +kernel
theorem dX10_about_148 : decode cX10_about 148 = .ok (.aload_n 0, 1) := by decide +kernel
theorem dX10_about_149 : decode cX10_about 149 = .ok (.getfield 17, 3) := by decide +kernel
theorem dX10_about_152 : decode cX10_about 152 = .ok (.iload_n 1, 1) := by decide +kernel
theorem dX10_about_153 : decode cX10_about 153 = .ok (.iaload, 1) := by decide +kernel
theorem dX10_about_154 : decode cX10_about 154 = .ok (.ireturn, 1) := by decide +kernel
theorem dX10_about_155 : decode cX10_about 155 = .ok (.iconst 0, 1) := by decide +kernel
theorem dX10_about_156 : decode cX10_about 156 = .ok (.istore 5, 2) := by decide +kernel
theorem dX10_about_158 : decode cX10_about 158 = .ok (.iload 5, 2) := by decide +kernel
theorem dX10_about_160 : decode cX10_about 160 = .ok (.bipush 100, 2) := by decide +kernel
theorem dX10_about_162 : decode cX10_about 162 = .ok (.if_icmp .ge 35, 3) := by decide +kernel
theorem dX10_about_165 : decode cX10_about 165 = .ok (.aload_n 0, 1) := by decide +kernel
theorem dX10_about_166 : decode cX10_about 166 = .ok (.getfield 20, 3) := by decide +kernel
theorem dX10_about_169 : decode cX10_about 169 = .ok (.bipush 100, 2) := by decide +kernel
theorem dX10_about_171 : decode cX10_about 171 = .ok (.iload_n 1, 1) := by decide +kernel
theorem dX10_about_172 : decode cX10_about 172 = .ok (.imul, 1) := by decide +kernel
theorem dX10_about_173 : decode cX10_about 173 = .ok (.iload 5, 2) := by decide +kernel
theorem dX10_about_175 : decode cX10_about 175 = .ok (.iadd, 1) := by decide +kernel
theorem dX10_about_176 : decode cX10_about 176 = .ok (.iaload, 1) := by decide +kernel
theorem dX10_about_177 : decode cX10_about 177 = .ok (.ifCond .le 10, 3) := by decide +kernel
theorem dX10_about_180 : decode cX10_about 180 = .ok (.iload 4, 2) := by decide +kernel
theorem dX10_about_182 : decode cX10_about 182 = .ok (.iconst 1, 1) := by decide +kernel
theorem dX10_about_183 : decode cX10_about 183 = .ok (.iadd, 1) := by decide +kernel
theorem dX10_about_184 : decode cX10_about 184 = .ok (.goto 5, 3) := by decide +kernel
theorem dX10_about_187 : decode cX10_about 187 = .ok (.iload 4, 2) := by decide +kernel
theorem dX10_about_189 : decode cX10_about 189 = .ok (.istore 4, 2) := by decide +kernel
theorem dX10_about_191 : decode cX10_about 191 = .ok (.iinc 5 1, 3) := by decide +kernel
theorem dX10_about_194 : decode cX10_about 194 = .ok (.goto (-36), 3) := by decide +kernel
theorem dX10_about_197 : decode cX10_about 197 = .ok (.iload 4, 2) := by decide +kernel
theorem dX10_about_199 : decode cX10_about 199 = .ok (.ireturn, 1) := by decide +kernel
theorem dX10_about_200 : decode cX10_about 200 = .ok (.iload_n 3, 1) := by decide +kernel
theorem dX10_about_201 : decode cX10_about 201 = .ok (.ifCond .eq 12, 3) := by decide +kernel
theorem dX10_about_204 : decode cX10_about 204 = .ok (.aload_n 0, 1) := by decide +kernel
theorem dX10_about_205 : decode cX10_about 205 = .ok (.getfield 35, 3) := by decide +kernel
theorem dX10_about_208 : decode cX10_about 208 = .ok (.iload_n 1, 1) := by decide +kernel
theorem dX10_about_209 : decode cX10_about 209 = .ok (.iaload, 1) := by decide +kernel
theorem dX10_about_210 : decode cX10_about 210 = .ok (.goto 4, 3) := by decide +kernel
theorem dX10_about_213 : decode cX10_about 213 = .ok (.iconst 0, 1) := by decide +kernel
theorem dX10_about_214 : decode cX10_about 214 = .ok (.ireturn, 1) := by decide +kernel
theorem dX10_about_215 : decode cX10_about 215 = .ok (.iconst 0, 1) := by decide +kernel
theorem dX10_about_216 : decode cX10_about 216 = .ok (.istore 5, 2) := by decide +kernel
theorem dX10_about_218 : decode cX10_about 218 = .ok (.iload 5, 2) := by decide +kernel
theorem dX10_about_220 : decode cX10_about 220 = .ok (.bipush 100, 2) := by decide +kernel
theorem dX10_about_222 : decode cX10_about 222 = .ok (.if_icmp .ge 39, 3) := by decide +kernel
theorem dX10_about_225 : decode cX10_about 225 = .ok (.iload_n 3, 1) := by decide +kernel
theorem dX10_about_226 : decode cX10_about 226 = .ok (.ifCond .eq 35, 3) := by decide +kernel
theorem dX10_about_229 : decode cX10_about 229 = .ok (.aload_n 0, 1) := by decide +kernel
theorem dX10_about_230 : decode cX10_about 230 = .ok (.getfield 26, 3) := by decide +kernel
theorem dX10_about_233 : decode cX10_about 233 = .ok (.bipush 100, 2) := by decide +kernel
theorem dX10_about_235 : decode cX10_about 235 = .ok (.iload_n 1, 1) := by decide +kernel
theorem dX10_about_236 : decode cX10_about 236 = .ok (.imul, 1) := by decide +kernel
theorem dX10_about_237 : decode cX10_about 237 = .ok (.iload 5, 2) := by decide +kernel
theorem dX10_about_239 : decode cX10_about 239 = .ok (.iadd, 1) := by decide +kernel
theorem dX10_about_240 : decode cX10_about 240 = .ok (.baload, 1) := by decide +kernel
theorem dX10_about_241 : decode cX10_about 241 = .ok (.ifCond .eq 10, 3) := by decide +kernel
theorem dX10_about_244 : decode cX10_about 244 = .ok (.iload 4, 2) := by decide +kernel
theorem dX10_about_246 : decode cX10_about 246 = .ok (.iconst 1, 1) := by decide +kernel
theorem dX10_about_247 : decode cX10_about 247 = .ok (.iadd, 1) := by decide +kernel
theorem dX10_about_248 : decode cX10_about 248 = .ok (.goto 5, 3) := by decide +kernel
theorem dX10_about_251 : decode cX10_about 251 = .ok (.iload 4, 2) := by decide +kernel
theorem dX10_about_253 : decode cX10_about 253 = .ok (.istore 4, 2) := by decide +kernel
theorem dX10_about_255 : decode cX10_about 255 = .ok (.iinc 5 1, 3) := by decide +kernel
theorem dX10_about_258 : decode cX10_about 258 = .ok (.goto (-40), 3) := by decide +kernel
theorem dX10_about_261 : decode cX10_about 261 = .ok (.iload 4, 2) := by decide +kernel
theorem dX10_about_263 : decode cX10_about 263 = .ok (.ireturn, 1) := by decide +kernel
theorem dX10_about_264 : decode cX10_about 264 = .ok (.aload_n 0, 1) := by decide +kernel
theorem dX10_about_265 : decode cX10_about 265 = .ok (.getfield 41, 3) := by decide +kernel
theorem dX10_about_268 : decode cX10_about 268 = .ok (.iload_n 1, 1) := by decide +kernel
theorem dX10_about_269 : decode cX10_about 269 = .ok (.iaload, 1) := by decide +kernel
theorem dX10_about_270 : decode cX10_about 270 = .ok (.ireturn, 1) := by decide +kernel
theorem dX10_accepted_0 : decode cX10_accepted 0 = .ok (.aload_n 0, 1) := by decide +kernel
theorem dX10_accepted_1 : decode cX10_accepted 1 = .ok (.aload_n 0, 1) := by decide +kernel
theorem dX10_accepted_2 : decode cX10_accepted 2 = .ok (.iload_n 1, 1) := by decide +kernel
theorem dX10_accepted_3 : decode cX10_accepted 3 = .ok (.invokevirtual 248, 3) := by decide +kernel
theorem dX10_accepted_6 : decode cX10_accepted 6 = .ok (.ifCond .eq 26, 3) := by decide +kernel
theorem dX10_accepted_9 : decode cX10_accepted 9 = .ok (.iload_n 2, 1) := by decide +kernel
theorem dX10_accepted_10 : decode cX10_accepted 10 = .ok (.iconst 0, 1) := by decide +kernel
theorem dX10_accepted_11 : decode cX10_accepted 11 = .ok (.bipush 99, 2) := by decide +kernel
theorem dX10_accepted_13 : decode cX10_accepted 13 = .ok (.invokestatic 196, 3) := by decide +kernel
theorem dX10_accepted_16 : decode cX10_accepted 16 = .ok (.ifCond .eq 16, 3) := by decide +kernel
theorem dX10_accepted_19 : decode cX10_accepted 19 = .ok (.iload_n 3, 1) := by decide +kernel
theorem dX10_accepted_20 : decode cX10_accepted 20 = .ok (.iconst 0, 1) := by decide +kernel
theorem dX10_accepted_21 : decode cX10_accepted 21 = .ok (.iconst 1, 1) := by decide +kernel
theorem dX10_accepted_22 : decode cX10_accepted 22 = .ok (.invokestatic 196, 3) := by decide +kernel
theorem dX10_accepted_25 : decode cX10_accepted 25 = .ok (.ifCond .eq 7, 3) := by decide +kernel
theorem dX10_accepted_28 : decode cX10_accepted 28 = .ok (.iconst 1, 1) := by decide +kernel
theorem dX10_accepted_29 : decode cX10_accepted 29 = .ok (.goto 4, 3) := by decide +kernel
theorem dX10_accepted_32 : decode cX10_accepted 32 = .ok (.iconst 0, 1) := by decide +kernel
theorem dX10_accepted_33 : decode cX10_accepted 33 = .ok (.invokevirtual 212, 3) := by decide +kernel
theorem dX10_accepted_36 : decode cX10_accepted 36 = .ok (.ifCond .ne 5, 3) := by decide +kernel
theorem dX10_accepted_39 : decode cX10_accepted 39 = .ok (.iconst 0, 1) := by decide +kernel
theorem dX10_accepted_40 : decode cX10_accepted 40 = .ok (.ireturn, 1) := by decide +kernel
theorem dX10_accepted_41 : decode cX10_accepted 41 = .ok (.iload_n 3, 1) := by decide +kernel
theorem dX10_accepted_42 : decode cX10_accepted 42 = .ok (.ifCond .ne 17, 3) := by decide +kernel
theorem dX10_accepted_45 : decode cX10_accepted 45 = .ok (.aload_n 0, 1) := by decide +kernel
theorem dX10_accepted_46 : decode cX10_accepted 46 = .ok (.getfield 20, 3) := by decide +kernel
theorem dX10_accepted_49 : decode cX10_accepted 49 = .ok (.bipush 100, 2) := by decide +kernel
theorem dX10_accepted_51 : decode cX10_accepted 51 = .ok (.iload_n 1, 1) := by decide +kernel
theorem dX10_accepted_52 : decode cX10_accepted 52 = .ok (.imul, 1) := by decide +kernel
theorem dX10_accepted_53 : decode cX10_accepted 53 = .ok (.iload_n 2, 1) := by decide +kernel
theorem dX10_accepted_54 : decode cX10_accepted 54 = .ok (.iadd, 1) := by decide +kernel
theorem dX10_accepted_55 : decode cX10_accepted 55 = .ok (.iaload, 1) := by decide +kernel
theorem dX10_accepted_56 : decode cX10_accepted 56 = .ok (.goto 14, 3) := by decide +kernel
theorem dX10_accepted_59 : decode cX10_accepted 59 = .ok (.aload_n 0, 1) := by decide +kernel
theorem dX10_accepted_60 : decode cX10_accepted 60 = .ok (.getfield 23, 3) := by decide +kernel
theorem dX10_accepted_63 : decode cX10_accepted 63 = .ok (.bipush 100, 2) := by decide +kernel
theorem dX10_accepted_65 : decode cX10_accepted 65 = .ok (.iload_n 1, 1) := by decide +kernel
theorem dX10_accepted_66 : decode cX10_accepted 66 = .ok (.imul, 1) := by decide +kernel
theorem dX10_accepted_67 : decode cX10_accepted 67 = .ok (.iload_n 2, 1) := by decide +kernel
theorem dX10_accepted_68 : decode cX10_accepted 68 = .ok (.iadd, 1) := by decide +kernel
theorem dX10_accepted_69 : decode cX10_accepted 69 = .ok (.iaload, 1) := by decide +kernel
theorem dX10_accepted_70 : decode cX10_accepted 70 = .ok (.ireturn, 1) := by decide +kernel
theorem dX10_members_0 : decode cX10_members 0 = .ok (.aload_n 0, 1) := by decide +kernel
theorem dX10_members_1 : decode cX10_members 1 = .ok (.aload_n 0, 1) := by decide +kernel
theorem dX10_members_2 : decode cX10_members 2 = .ok (.iload_n 1, 1) := by decide +kernel
theorem dX10_members_3 : decode cX10_members 3 = .ok (.invokevirtual 199, 3) := by decide +kernel
theorem dX10_members_6 : decode cX10_members 6 = .ok (.ifCond .eq 23, 3) := by decide +kernel
theorem dX10_members_9 : decode cX10_members 9 = .ok (.iload_n 2, 1) := by decide +kernel
theorem dX10_members_10 : decode cX10_members 10 = .ok (.iconst 0, 1) := by decide +kernel
theorem dX10_members_11 : decode cX10_members 11 = .ok (.aload_n 0, 1) := by decide +kernel
theorem dX10_members_12 : decode cX10_members 12 = .ok (.getfield 32, 3) := by decide +kernel
theorem dX10_members_15 : decode cX10_members 15 = .ok (.iload_n 1, 1) := by decide +kernel
theorem dX10_members_16 : decode cX10_members 16 = .ok (.iaload, 1) := by decide +kernel
theorem dX10_members_17 : decode cX10_members 17 = .ok (.iconst 3, 1) := by decide +kernel
theorem dX10_members_18 : decode cX10_members 18 = .ok (.iadd, 1) := by decide +kernel
theorem dX10_members_19 : decode cX10_members 19 = .ok (.invokestatic 196, 3) := by decide +kernel
theorem dX10_members_22 : decode cX10_members 22 = .ok (.ifCond .eq 7, 3) := by decide +kernel
theorem dX10_members_25 : decode cX10_members 25 = .ok (.iconst 1, 1) := by decide +kernel
theorem dX10_members_26 : decode cX10_members 26 = .ok (.goto 4, 3) := by decide +kernel
theorem dX10_members_29 : decode cX10_members 29 = .ok (.iconst 0, 1) := by decide +kernel
theorem dX10_members_30 : decode cX10_members 30 = .ok (.invokevirtual 212, 3) := by decide +kernel
theorem dX10_members_33 : decode cX10_members 33 = .ok (.ifCond .eq 12, 3) := by decide +kernel
theorem dX10_members_36 : decode cX10_members 36 = .ok (.aload_n 0, 1) := by decide +kernel
theorem dX10_members_37 : decode cX10_members 37 = .ok (.iload_n 1, 1) := by decide +kernel
theorem dX10_members_38 : decode cX10_members 38 = .ok (.iload_n 2, 1) := by decide +kernel
theorem dX10_members_39 : decode cX10_members 39 = .ok (.invokevirtual 130, 3) := by decide +kernel
theorem dX10_members_42 : decode cX10_members 42 = .ok (.goto 4, 3) := by decide +kernel
theorem dX10_members_45 : decode cX10_members 45 = .ok (.iconst 0, 1) := by decide +kernel
theorem dX10_members_46 : decode cX10_members 46 = .ok (.ireturn, 1) := by decide +kernel
theorem dX10_lost_0 : decode cX10_lost 0 = .ok (.aload_n 0, 1) := by decide +kernel
theorem dX10_lost_1 : decode cX10_lost 1 = .ok (.iconst 0, 1) := by decide +kernel
theorem dX10_lost_2 : decode cX10_lost 2 = .ok (.putfield 127, 3) := by decide +kernel
theorem dX10_lost_5 : decode cX10_lost 5 = .ok (.aload_n 0, 1) := by decide +kernel
theorem dX10_lost_6 : decode cX10_lost 6 = .ok (.getfield 145, 3) := by decide +kernel
theorem dX10_lost_9 : decode cX10_lost 9 = .ok (.ireturn, 1) := by decide +kernel
