theorem dX7_init_0 : decode cX7_init 0 = .ok (.aload_n 0, 1) := by decide +kernel
theorem dX7_init_1 : decode cX7_init 1 = .ok (.invokespecial 1, 3) := by decide +kernel
theorem dX7_init_4 : decode cX7_init 4 = .ok (.aload_n 0, 1) := by decide +kernel
theorem dX7_init_5 : decode cX7_init 5 = .ok (.bipush 8, 2) := by decide +kernel
theorem dX7_init_7 : decode cX7_init 7 = .ok (.newarray .int, 2) := by decide +kernel
theorem dX7_init_9 : decode cX7_init 9 = .ok (.dup, 1) := by decide +kernel
theorem dX7_init_10 : decode cX7_init 10 = .ok (.iconst 0, 1) := by decide +kernel
theorem dX7_init_11 : decode cX7_init 11 = .ok (.iconst 5, 1) := by decide +kernel
theorem dX7_init_12 : decode cX7_init 12 = .ok (.iastore, 1) := by decide +kernel
theorem dX7_init_13 : decode cX7_init 13 = .ok (.dup, 1) := by decide +kernel
theorem dX7_init_14 : decode cX7_init 14 = .ok (.iconst 1, 1) := by decide +kernel
theorem dX7_init_15 : decode cX7_init 15 = .ok (.iconst 5, 1) := by decide +kernel
theorem dX7_init_16 : decode cX7_init 16 = .ok (.iastore, 1) := by decide +kernel
theorem dX7_init_17 : decode cX7_init 17 = .ok (.dup, 1) := by decide +kernel
theorem dX7_init_18 : decode cX7_init 18 = .ok (.iconst 2, 1) := by decide +kernel
theorem dX7_init_19 : decode cX7_init 19 = .ok (.iconst 5, 1) := by decide +kernel
theorem dX7_init_20 : decode cX7_init 20 = .ok (.iastore, 1) := by decide +kernel
theorem dX7_init_21 : decode cX7_init 21 = .ok (.dup, 1) := by decide +kernel
theorem dX7_init_22 : decode cX7_init 22 = .ok (.iconst 3, 1) := by decide +kernel
theorem dX7_init_23 : decode cX7_init 23 = .ok (.iconst 5, 1) := by decide +kernel
theorem dX7_init_24 : decode cX7_init 24 = .ok (.iastore, 1) := by decide +kernel
theorem dX7_init_25 : decode cX7_init 25 = .ok (.dup, 1) := by decide +kernel
theorem dX7_init_26 : decode cX7_init 26 = .ok (.iconst 4, 1) := by decide +kernel
theorem dX7_init_27 : decode cX7_init 27 = .ok (.iconst 5, 1) := by decide +kernel
theorem dX7_init_28 : decode cX7_init 28 = .ok (.iastore, 1) := by decide +kernel
theorem dX7_init_29 : decode cX7_init 29 = .ok (.dup, 1) := by decide +kernel
theorem dX7_init_30 : decode cX7_init 30 = .ok (.iconst 5, 1) := by decide +kernel
theorem dX7_init_31 : decode cX7_init 31 = .ok (.iconst 5, 1) := by decide +kernel
theorem dX7_init_32 : decode cX7_init 32 = .ok (.iastore, 1) := by decide +kernel
theorem dX7_init_33 : decode cX7_init 33 = .ok (.dup, 1) := by decide +kernel
theorem dX7_init_34 : decode cX7_init 34 = .ok (.bipush 6, 2) := by decide +kernel
theorem dX7_init_36 : decode cX7_init 36 = .ok (.iconst 5, 1) := by decide +kernel
theorem dX7_init_37 : decode cX7_init 37 = .ok (.iastore, 1) := by decide +kernel
theorem dX7_init_38 : decode cX7_init 38 = .ok (.dup, 1) := by decide +kernel
theorem dX7_init_39 : decode cX7_init 39 = .ok (.bipush 7, 2) := by decide +kernel
theorem dX7_init_41 : decode cX7_init 41 = .ok (.iconst 5, 1) := by decide +kernel
theorem dX7_init_42 : decode cX7_init 42 = .ok (.iastore, 1) := by decide +kernel
theorem dX7_init_43 : decode cX7_init 43 = .ok (.putfield 7, 3) := by decide +kernel
theorem dX7_init_46 : decode cX7_init 46 = .ok (.aload_n 0, 1) := by decide +kernel
theorem dX7_init_47 : decode cX7_init 47 = .ok (.bipush 17, 2) := by decide +kernel
theorem dX7_init_49 : decode cX7_init 49 = .ok (.newarray .int, 2) := by decide +kernel
theorem dX7_init_51 : decode cX7_init 51 = .ok (.putfield 13, 3) := by decide +kernel
theorem dX7_init_54 : decode cX7_init 54 = .ok (.aload_n 0, 1) := by decide +kernel
theorem dX7_init_55 : decode cX7_init 55 = .ok (.iconst 2, 1) := by decide +kernel
theorem dX7_init_56 : decode cX7_init 56 = .ok (.newarray .int, 2) := by decide +kernel
theorem dX7_init_58 : decode cX7_init 58 = .ok (.dup, 1) := by decide +kernel
theorem dX7_init_59 : decode cX7_init 59 = .ok (.iconst 0, 1) := by decide +kernel
theorem dX7_init_60 : decode cX7_init 60 = .ok (.iconst 1, 1) := by decide +kernel
theorem dX7_init_61 : decode cX7_init 61 = .ok (.iastore, 1) := by decide +kernel
theorem dX7_init_62 : decode cX7_init 62 = .ok (.dup, 1) := by decide +kernel
theorem dX7_init_63 : decode cX7_init 63 = .ok (.iconst 1, 1) := by decide +kernel
theorem dX7_init_64 : decode cX7_init 64 = .ok (.iconst 1, 1) := by decide +kernel
theorem dX7_init_65 : decode cX7_init 65 = .ok (.iastore, 1) := by decide +kernel
theorem dX7_init_66 : decode cX7_init 66 = .ok (.putfield 16, 3) := by decide +kernel
theorem dX7_init_69 : decode cX7_init 69 = .ok (.aload_n 0, 1) := by decide +kernel
theorem dX7_init_70 : decode cX7_init 70 = .ok (.bipush 90, 2) := by decide +kernel
theorem dX7_init_72 : decode cX7_init 72 = .ok (.newarray .int, 2) := by decide +kernel
theorem dX7_init_74 : decode cX7_init 74 = .ok (.putfield 19, 3) := by decide +kernel
theorem dX7_init_77 : decode cX7_init 77 = .ok (.aload_n 0, 1) := by decide +kernel
theorem dX7_init_78 : decode cX7_init 78 = .ok (.bipush 90, 2) := by decide +kernel
theorem dX7_init_80 : decode cX7_init 80 = .ok (.newarray .int, 2) := by decide +kernel
theorem dX7_init_82 : decode cX7_init 82 = .ok (.putfield 22, 3) := by decide +kernel
theorem dX7_init_85 : decode cX7_init 85 = .ok (.aload_n 0, 1) := by decide +kernel
theorem dX7_init_86 : decode cX7_init 86 = .ok (.bipush 90, 2) := by decide +kernel
theorem dX7_init_88 : decode cX7_init 88 = .ok (.newarray .int, 2) := by decide +kernel
theorem dX7_init_90 : decode cX7_init 90 = .ok (.putfield 25, 3) := by decide +kernel
theorem dX7_init_93 : decode cX7_init 93 = .ok (.aload_n 0, 1) := by decide +kernel
theorem dX7_init_94 : decode cX7_init 94 = .ok (.bipush 7, 2) := by decide +kernel
theorem dX7_init_96 : decode cX7_init 96 = .ok (.newarray .int, 2) := by decide +kernel
theorem dX7_init_98 : decode cX7_init 98 = .ok (.putfield 28, 3) := by decide +kernel
theorem dX7_init_101 : decode cX7_init 101 = .ok (.aload_n 0, 1) := by decide +kernel
theorem dX7_init_102 : decode cX7_init 102 = .ok (.bipush 92, 2) := by decide +kernel
theorem dX7_init_104 : decode cX7_init 104 = .ok (.newarray .int, 2) := by decide +kernel
theorem dX7_init_106 : decode cX7_init 106 = .ok (.putfield 31, 3) := by decide +kernel
theorem dX7_init_109 : decode cX7_init 109 = .ok (.aload_n 0, 1) := by decide +kernel
theorem dX7_init_110 : decode cX7_init 110 = .ok (.sipush 256, 3) := by decide +kernel
theorem dX7_init_113 : decode cX7_init 113 = .ok (.newarray .int, 2) := by decide +kernel
theorem dX7_init_115 : decode cX7_init 115 = .ok (.putfield 34, 3) := by decide +kernel
theorem dX7_init_118 : decode cX7_init 118 = .ok (.aload_n 0, 1) := by decide +kernel
theorem dX7_init_119 : decode cX7_init 119 = .ok (.sipush 1840, 3) := by decide +kernel
theorem dX7_init_122 : decode cX7_init 122 = .ok (.newarray .boolean, 2) := by decide +kernel
theorem dX7_init_124 : decode cX7_init 124 = .ok (.putfield 37, 3) := by decide +kernel
theorem dX7_init_127 : decode cX7_init 127 = .ok (.aload_n 0, 1) := by decide +kernel
theorem dX7_init_128 : decode cX7_init 128 = .ok (.bipush 30, 2) := by decide +kernel
theorem dX7_init_130 : decode cX7_init 130 = .ok (.newarray .int, 2) := by decide +kernel
theorem dX7_init_132 : decode cX7_init 132 = .ok (.putfield 41, 3) := by decide +kernel
theorem dX7_init_135 : decode cX7_init 135 = .ok (.aload_n 0, 1) := by decide +kernel
theorem dX7_init_136 : decode cX7_init 136 = .ok (.bipush 8, 2) := by decide +kernel
theorem dX7_init_138 : decode cX7_init 138 = .ok (.newarray .int, 2) := by decide +kernel
theorem dX7_init_140 : decode cX7_init 140 = .ok (.putfield 44, 3) := by decide +kernel
theorem dX7_init_143 : decode cX7_init 143 = .ok (.aload_n 0, 1) := by decide +kernel
theorem dX7_init_144 : decode cX7_init 144 = .ok (.sipush 1840, 3) := by decide +kernel
theorem dX7_init_147 : decode cX7_init 147 = .ok (.newarray .int, 2) := by decide +kernel
theorem dX7_init_149 : decode cX7_init 149 = .ok (.putfield 47, 3) := by decide +kernel
theorem dX7_init_152 : decode cX7_init 152 = .ok (.aload_n 0, 1) := by decide +kernel
theorem dX7_init_153 : decode cX7_init 153 = .ok (.sipush 1840, 3) := by decide +kernel
theorem dX7_init_156 : decode cX7_init 156 = .ok (.newarray .int, 2) := by decide +kernel
theorem dX7_init_158 : decode cX7_init 158 = .ok (.putfield 50, 3) := by decide +kernel
theorem dX7_init_161 : decode cX7_init 161 = .ok (.aload_n 0, 1) := by decide +kernel
theorem dX7_init_162 : decode cX7_init 162 = .ok (.sipush 1840, 3) := by decide +kernel
theorem dX7_init_165 : decode cX7_init 165 = .ok (.newarray .boolean, 2) := by decide +kernel
theorem dX7_init_167 : decode cX7_init 167 = .ok (.putfield 53, 3) := by decide +kernel
theorem dX7_init_170 : decode cX7_init 170 = .ok (.aload_n 0, 1) := by decide +kernel
theorem dX7_init_171 : decode cX7_init 171 = .ok (.bipush 120, 2) := by decide +kernel
theorem dX7_init_173 : decode cX7_init 173 = .ok (.newarray .int, 2) := by decide +kernel
theorem dX7_init_175 : decode cX7_init 175 = .ok (.putfield 56, 3) := by decide +kernel
theorem dX7_init_178 : decode cX7_init 178 = .ok (.aload_n 0, 1) := by decide +kernel
theorem dX7_init_179 : decode cX7_init 179 = .ok (.iconst 4, 1) := by decide +kernel
theorem dX7_init_180 : decode cX7_init 180 = .ok (.newarray .int, 2) := by decide +kernel
theorem dX7_init_182 : decode cX7_init 182 = .ok (.putfield 59, 3) := by decide +kernel
theorem dX7_init_185 : decode cX7_init 185 = .ok (.aload_n 0, 1) := by decide +kernel
theorem dX7_init_186 : decode cX7_init 186 = .ok (.iconst 4, 1) := by decide +kernel
theorem dX7_init_187 : decode cX7_init 187 = .ok (.newarray .int, 2) := by decide +kernel
theorem dX7_init_189 : decode cX7_init 189 = .ok (.putfield 62, 3) := by decide +kernel
theorem dX7_init_192 : decode cX7_init 192 = .ok (.aload_n 0, 1) := by decide +kernel
theorem dX7_init_193 : decode cX7_init 193 = .ok (.sipush 160, 3) := by decide +kernel
theorem dX7_init_196 : decode cX7_init 196 = .ok (.newarray .long, 2) := by decide +kernel
theorem dX7_init_198 : decode cX7_init 198 = .ok (.putfield 65, 3) := by decide +kernel
theorem dX7_init_201 : decode cX7_init 201 = .ok (.aload_n 0, 1) := by decide +kernel
theorem dX7_init_202 : decode cX7_init 202 = .ok (.bipush 40, 2) := by decide +kernel
theorem dX7_init_204 : decode cX7_init 204 = .ok (.newarray .long, 2) := by decide +kernel
theorem dX7_init_206 : decode cX7_init 206 = .ok (.putfield 69, 3) := by decide +kernel
theorem dX7_init_209 : decode cX7_init 209 = .ok (.aload_n 0, 1) := by decide +kernel
theorem dX7_init_210 : decode cX7_init 210 = .ok (.sipush 130, 3) := by decide +kernel
theorem dX7_init_213 : decode cX7_init 213 = .ok (.newarray .int, 2) := by decide +kernel
theorem dX7_init_215 : decode cX7_init 215 = .ok (.putfield 72, 3) := by decide +kernel
theorem dX7_init_218 : decode cX7_init 218 = .ok (.aload_n 0, 1) := by decide +kernel
theorem dX7_init_219 : decode cX7_init 219 = .ok (.sipush 130, 3) := by decide +kernel
theorem dX7_init_222 : decode cX7_init 222 = .ok (.newarray .int, 2) := by decide +kernel
theorem dX7_init_224 : decode cX7_init 224 = .ok (.putfield 75, 3) := by decide +kernel
theorem dX7_init_227 : decode cX7_init 227 = .ok (.aload_n 0, 1) := by decide +kernel
theorem dX7_init_228 : decode cX7_init 228 = .ok (.iconst 2, 1) := by decide +kernel
theorem dX7_init_229 : decode cX7_init 229 = .ok (.newarray .int, 2) := by decide +kernel
theorem dX7_init_231 : decode cX7_init 231 = .ok (.putfield 78, 3) := by decide +kernel
theorem dX7_init_234 : decode cX7_init 234 = .ok (.iconst 0, 1) := by decide +kernel
theorem dX7_init_235 : decode cX7_init 235 = .ok (.istore_n 1, 1) := by decide +kernel
theorem dX7_init_236 : decode cX7_init 236 = .ok (.iconst 0, 1) := by decide +kernel
theorem dX7_init_237 : decode cX7_init 237 = .ok (.istore_n 2, 1) := by decide +kernel
theorem dX7_init_238 : decode cX7_init 238 = .ok (.iload_n 2, 1) := by decide +kernel
theorem dX7_init_239 : decode cX7_init 239 = .ok (.sipush 256, 3) := by decide +kernel
theorem dX7_init_242 : decode cX7_init 242 = .ok (.if_icmp .ge 56, 3) := by decide +kernel
theorem dX7_init_245 : decode cX7_init 245 = .ok (.iload_n 2, 1) := by decide +kernel
theorem dX7_init_246 : decode cX7_init 246 = .ok (.ifCond .le 15, 3) := by decide +kernel
theorem dX7_init_249 : decode cX7_init 249 = .ok (.iload_n 2, 1) := by decide +kernel
theorem dX7_init_250 : decode cX7_init 250 = .ok (.invokestatic 81, 3) := by decide +kernel
theorem dX7_init_253 : decode cX7_init 253 = .ok (.iconst 3, 1) := by decide +kernel
theorem dX7_init_254 : decode cX7_init 254 = .ok (.if_icmp .gt 7, 3) := by decide +kernel
theorem dX7_init_257 : decode cX7_init 257 = .ok (.iconst 1, 1) := by decide +kernel
theorem dX7_init_258 : decode cX7_init 258 = .ok (.goto 4, 3) := by decide +kernel
theorem dX7_init_261 : decode cX7_init 261 = .ok (.iconst 0, 1) := by decide +kernel
theorem dX7_init_262 : decode cX7_init 262 = .ok (.istore_n 3, 1) := by decide +kernel
theorem dX7_init_263 : decode cX7_init 263 = .ok (.aload_n 0, 1) := by decide +kernel
theorem dX7_init_264 : decode cX7_init 264 = .ok (.getfield 34, 3) := by decide +kernel
theorem dX7_init_267 : decode cX7_init 267 = .ok (.iload_n 2, 1) := by decide +kernel
theorem dX7_init_268 : decode cX7_init 268 = .ok (.iload_n 3, 1) := by decide +kernel
theorem dX7_init_269 : decode cX7_init 269 = .ok (.ifCond .eq 7, 3) := by decide +kernel
theorem dX7_init_272 : decode cX7_init 272 = .ok (.iload_n 1, 1) := by decide +kernel
theorem dX7_init_273 : decode cX7_init 273 = .ok (.goto 4, 3) := by decide +kernel
theorem dX7_init_276 : decode cX7_init 276 = .ok (.iconst (-1), 1) := by decide +kernel
theorem dX7_init_277 : decode cX7_init 277 = .ok (.iastore, 1) := by decide +kernel
theorem dX7_init_278 : decode cX7_init 278 = .ok (.iload_n 3, 1) := by decide +kernel
theorem dX7_init_279 : decode cX7_init 279 = .ok (.ifCond .eq 13, 3) := by decide +kernel
theorem dX7_init_282 : decode cX7_init 282 = .ok (.aload_n 0, 1) := by decide +kernel
theorem dX7_init_283 : decode cX7_init 283 = .ok (.getfield 31, 3) := by decide +kernel
theorem dX7_init_286 : decode cX7_init 286 = .ok (.iload_n 1, 1) := by decide +kernel
theorem dX7_init_287 : decode cX7_init 287 = .ok (.iload_n 2, 1) := by decide +kernel
theorem dX7_init_288 : decode cX7_init 288 = .ok (.iastore, 1) := by decide +kernel
theorem dX7_init_289 : decode cX7_init 289 = .ok (.iinc 1 1, 3) := by decide +kernel
theorem dX7_init_292 : decode cX7_init 292 = .ok (.iinc 2 1, 3) := by decide +kernel
theorem dX7_init_295 : decode cX7_init 295 = .ok (.goto (-57), 3) := by decide +kernel
theorem dX7_init_298 : decode cX7_init 298 = .ok (.return_, 1) := by decide +kernel
theorem dX7_in_0 : decode cX7_in 0 = .ok (.iload_n 0, 1) := by decide +kernel
theorem dX7_in_1 : decode cX7_in 1 = .ok (.iload_n 1, 1) := by decide +kernel
theorem dX7_in_2 : decode cX7_in 2 = .ok (.if_icmp .lt 12, 3) := by decide +kernel
theorem dX7_in_5 : decode cX7_in 5 = .ok (.iload_n 0, 1) := by decide +kernel
theorem dX7_in_6 : decode cX7_in 6 = .ok (.iload_n 2, 1) := by decide +kernel
theorem dX7_in_7 : decode cX7_in 7 = .ok (.if_icmp .gt 7, 3) := by decide +kernel
theorem dX7_in_10 : decode cX7_in 10 = .ok (.iconst 1, 1) := by decide +kernel
theorem dX7_in_11 : decode cX7_in 11 = .ok (.goto 4, 3) := by decide +kernel
theorem dX7_in_14 : decode cX7_in 14 = .ok (.iconst 0, 1) := by decide +kernel
theorem dX7_in_15 : decode cX7_in 15 = .ok (.ireturn, 1) := by decide +kernel
theorem dX7_finds_0 : decode cX7_finds 0 = .ok (.aload_n 0, 1) := by decide +kernel
theorem dX7_finds_1 : decode cX7_finds 1 = .ok (.getfield 28, 3) := by decide +kernel
theorem dX7_finds_4 : decode cX7_finds 4 = .ok (.ldc 85, 2) := by decide +kernel
theorem dX7_finds_6 : decode cX7_finds 6 = .ok (.iload_n 1, 1) := by decide +kernel
theorem dX7_finds_7 : decode cX7_finds 7 = .ok (.isub, 1) := by decide +kernel
theorem dX7_finds_8 : decode cX7_finds 8 = .ok (.dup2, 1) := by decide +kernel
theorem dX7_finds_9 : decode cX7_finds 9 = .ok (.iaload, 1) := by decide +kernel
theorem dX7_finds_10 : decode cX7_finds 10 = .ok (.iconst 1, 1) := by decide +kernel
theorem dX7_finds_11 : decode cX7_finds 11 = .ok (.iadd, 1) := by decide +kernel
theorem dX7_finds_12 : decode cX7_finds 12 = .ok (.iastore, 1) := by decide +kernel
theorem dX7_finds_13 : decode cX7_finds 13 = .ok (.iload_n 1, 1) := by decide +kernel
theorem dX7_finds_14 : decode cX7_finds 14 = .ok (.ireturn, 1) := by decide +kernel
theorem dX7_ones_0 : decode cX7_ones 0 = .ok (.iconst 0, 1) := by decide +kernel
theorem dX7_ones_1 : decode cX7_ones 1 = .ok (.istore_n 1, 1) := by decide +kernel
theorem dX7_ones_2 : decode cX7_ones 2 = .ok (.iload_n 0, 1) := by decide +kernel
theorem dX7_ones_3 : decode cX7_ones 3 = .ok (.istore_n 2, 1) := by decide +kernel
theorem dX7_ones_4 : decode cX7_ones 4 = .ok (.iload_n 2, 1) := by decide +kernel
theorem dX7_ones_5 : decode cX7_ones 5 = .ok (.ifCond .eq 15, 3) := by decide +kernel
theorem dX7_ones_8 : decode cX7_ones 8 = .ok (.iinc 1 1, 3) := by decide +kernel
theorem dX7_ones_11 : decode cX7_ones 11 = .ok (.iload_n 2, 1) := by decide +kernel
theorem dX7_ones_12 : decode cX7_ones 12 = .ok (.iload_n 2, 1) := by decide +kernel
theorem dX7_ones_13 : decode cX7_ones 13 = .ok (.iconst 1, 1) := by decide +kernel
theorem dX7_ones_14 : decode cX7_ones 14 = .ok (.isub, 1) := by decide +kernel
theorem dX7_ones_15 : decode cX7_ones 15 = .ok (.iand, 1) := by decide +kernel
theorem dX7_ones_16 : decode cX7_ones 16 = .ok (.istore_n 2, 1) := by decide +kernel
theorem dX7_ones_17 : decode cX7_ones 17 = .ok (.goto (-13), 3) := by decide +kernel
theorem dX7_ones_20 : decode cX7_ones 20 = .ok (.iload_n 1, 1) := by decide +kernel
theorem dX7_ones_21 : decode cX7_ones 21 = .ok (.ireturn, 1) := by decide +kernel
theorem dX7_has_0 : decode cX7_has 0 = .ok (.iload_n 0, 1) := by decide +kernel
theorem dX7_has_1 : decode cX7_has 1 = .ok (.iload_n 1, 1) := by decide +kernel
theorem dX7_has_2 : decode cX7_has 2 = .ok (.ishr, 1) := by decide +kernel
theorem dX7_has_3 : decode cX7_has 3 = .ok (.iconst 1, 1) := by decide +kernel
theorem dX7_has_4 : decode cX7_has 4 = .ok (.iand, 1) := by decide +kernel
theorem dX7_has_5 : decode cX7_has 5 = .ok (.iconst 1, 1) := by decide +kernel
theorem dX7_has_6 : decode cX7_has 6 = .ok (.if_icmp .ne 7, 3) := by decide +kernel
theorem dX7_has_9 : decode cX7_has 9 = .ok (.iconst 1, 1) := by decide +kernel
theorem dX7_has_10 : decode cX7_has 10 = .ok (.goto 4, 3) := by decide +kernel
theorem dX7_has_13 : decode cX7_has 13 = .ok (.iconst 0, 1) := by decide +kernel
theorem dX7_has_14 : decode cX7_has 14 = .ok (.ireturn, 1) := by decide +kernel
theorem dX7_isThing_0 : decode cX7_isThing 0 = .ok (.iload_n 0, 1) := by decide +kernel
theorem dX7_isThing_1 : decode cX7_isThing 1 = .ok (.iconst 0, 1) := by decide +kernel
theorem dX7_isThing_2 : decode cX7_isThing 2 = .ok (.bipush 7, 2) := by decide +kernel
theorem dX7_isThing_4 : decode cX7_isThing 4 = .ok (.invokestatic 86, 3) := by decide +kernel
theorem dX7_isThing_7 : decode cX7_isThing 7 = .ok (.ireturn, 1) := by decide +kernel
theorem dX7_isStore_0 : decode cX7_isStore 0 = .ok (.iload_n 0, 1) := by decide +kernel
theorem dX7_isStore_1 : decode cX7_isStore 1 = .ok (.iconst 0, 1) := by decide +kernel
theorem dX7_isStore_2 : decode cX7_isStore 2 = .ok (.bipush 99, 2) := by decide +kernel
theorem dX7_isStore_4 : decode cX7_isStore 4 = .ok (.invokestatic 86, 3) := by decide +kernel
theorem dX7_isStore_7 : decode cX7_isStore 7 = .ok (.ireturn, 1) := by decide +kernel
theorem dX7_isDish_0 : decode cX7_isDish 0 = .ok (.iload_n 1, 1) := by decide +kernel
theorem dX7_isDish_1 : decode cX7_isDish 1 = .ok (.iconst 0, 1) := by decide +kernel
theorem dX7_isDish_2 : decode cX7_isDish 2 = .ok (.sipush 5119, 3) := by decide +kernel
theorem dX7_isDish_5 : decode cX7_isDish 5 = .ok (.invokestatic 86, 3) := by decide +kernel
theorem dX7_isDish_8 : decode cX7_isDish 8 = .ok (.ifCond .eq 34, 3) := by decide +kernel
theorem dX7_isDish_11 : decode cX7_isDish 11 = .ok (.aload_n 0, 1) := by decide +kernel
theorem dX7_isDish_12 : decode cX7_isDish 12 = .ok (.getfield 34, 3) := by decide +kernel
theorem dX7_isDish_15 : decode cX7_isDish 15 = .ok (.iload_n 1, 1) := by decide +kernel
theorem dX7_isDish_16 : decode cX7_isDish 16 = .ok (.iconst 0, 1) := by decide +kernel
theorem dX7_isDish_17 : decode cX7_isDish 17 = .ok (.sipush 5119, 3) := by decide +kernel
theorem dX7_isDish_20 : decode cX7_isDish 20 = .ok (.invokestatic 86, 3) := by decide +kernel
theorem dX7_isDish_23 : decode cX7_isDish 23 = .ok (.ifCond .eq 10, 3) := by decide +kernel
theorem dX7_isDish_26 : decode cX7_isDish 26 = .ok (.iload_n 1, 1) := by decide +kernel
theorem dX7_isDish_27 : decode cX7_isDish 27 = .ok (.bipush 20, 2) := by decide +kernel
theorem dX7_isDish_29 : decode cX7_isDish 29 = .ok (.idiv, 1) := by decide +kernel
theorem dX7_isDish_30 : decode cX7_isDish 30 = .ok (.goto 4, 3) := by decide +kernel
theorem dX7_isDish_33 : decode cX7_isDish 33 = .ok (.iconst 0, 1) := by decide +kernel
theorem dX7_isDish_34 : decode cX7_isDish 34 = .ok (.iaload, 1) := by decide +kernel
theorem dX7_isDish_35 : decode cX7_isDish 35 = .ok (.ifCond .lt 7, 3) := by decide +kernel
theorem dX7_isDish_38 : decode cX7_isDish 38 = .ok (.iconst 1, 1) := by decide +kernel
theorem dX7_isDish_39 : decode cX7_isDish 39 = .ok (.goto 4, 3) := by decide +kernel
theorem dX7_isDish_42 : decode cX7_isDish 42 = .ok (.iconst 0, 1) := by decide +kernel
theorem dX7_isDish_43 : decode cX7_isDish 43 = .ok (.ireturn, 1) := by decide +kernel
theorem dX7_setOf_0 : decode cX7_setOf 0 = .ok (.iload_n 0, 1) := by decide +kernel
theorem dX7_setOf_1 : decode cX7_setOf 1 = .ok (.bipush 20, 2) := by decide +kernel
theorem dX7_setOf_3 : decode cX7_setOf 3 = .ok (.idiv, 1) := by decide +kernel
theorem dX7_setOf_4 : decode cX7_setOf 4 = .ok (.ireturn, 1) := by decide +kernel
theorem dX7_wayOf_0 : decode cX7_wayOf 0 = .ok (.iload_n 0, 1) := by decide +kernel
theorem dX7_wayOf_1 : decode cX7_wayOf 1 = .ok (.bipush 20, 2) := by decide +kernel
theorem dX7_wayOf_3 : decode cX7_wayOf 3 = .ok (.irem, 1) := by decide +kernel
theorem dX7_wayOf_4 : decode cX7_wayOf 4 = .ok (.iconst 4, 1) := by decide +kernel
theorem dX7_wayOf_5 : decode cX7_wayOf 5 = .ok (.idiv, 1) := by decide +kernel
theorem dX7_wayOf_6 : decode cX7_wayOf 6 = .ok (.ireturn, 1) := by decide +kernel
theorem dX7_sauceOf_0 : decode cX7_sauceOf 0 = .ok (.iload_n 0, 1) := by decide +kernel
theorem dX7_sauceOf_1 : decode cX7_sauceOf 1 = .ok (.iconst 4, 1) := by decide +kernel
theorem dX7_sauceOf_2 : decode cX7_sauceOf 2 = .ok (.irem, 1) := by decide +kernel
theorem dX7_sauceOf_3 : decode cX7_sauceOf 3 = .ok (.ireturn, 1) := by decide +kernel
theorem dX7_placeOf_0 : decode cX7_placeOf 0 = .ok (.bipush 20, 2) := by decide +kernel
theorem dX7_placeOf_2 : decode cX7_placeOf 2 = .ok (.aload_n 0, 1) := by decide +kernel
theorem dX7_placeOf_3 : decode cX7_placeOf 3 = .ok (.getfield 34, 3) := by decide +kernel
theorem dX7_placeOf_6 : decode cX7_placeOf 6 = .ok (.iload_n 1, 1) := by decide +kernel
theorem dX7_placeOf_7 : decode cX7_placeOf 7 = .ok (.invokestatic 90, 3) := by decide +kernel
theorem dX7_placeOf_10 : decode cX7_placeOf 10 = .ok (.iaload, 1) := by decide +kernel
theorem dX7_placeOf_11 : decode cX7_placeOf 11 = .ok (.imul, 1) := by decide +kernel
theorem dX7_placeOf_12 : decode cX7_placeOf 12 = .ok (.iload_n 1, 1) := by decide +kernel
theorem dX7_placeOf_13 : decode cX7_placeOf 13 = .ok (.bipush 20, 2) := by decide +kernel
theorem dX7_placeOf_15 : decode cX7_placeOf 15 = .ok (.irem, 1) := by decide +kernel
theorem dX7_placeOf_16 : decode cX7_placeOf 16 = .ok (.iadd, 1) := by decide +kernel
theorem dX7_placeOf_17 : decode cX7_placeOf 17 = .ok (.ireturn, 1) := by decide +kernel
theorem dX7_dishAt_0 : decode cX7_dishAt 0 = .ok (.bipush 20, 2) := by decide +kernel
theorem dX7_dishAt_2 : decode cX7_dishAt 2 = .ok (.aload_n 0, 1) := by decide +kernel
theorem dX7_dishAt_3 : decode cX7_dishAt 3 = .ok (.getfield 31, 3) := by decide +kernel
theorem dX7_dishAt_6 : decode cX7_dishAt 6 = .ok (.iload_n 1, 1) := by decide +kernel
theorem dX7_dishAt_7 : decode cX7_dishAt 7 = .ok (.bipush 20, 2) := by decide +kernel
theorem dX7_dishAt_9 : decode cX7_dishAt 9 = .ok (.idiv, 1) := by decide +kernel
theorem dX7_dishAt_10 : decode cX7_dishAt 10 = .ok (.iaload, 1) := by decide +kernel
theorem dX7_dishAt_11 : decode cX7_dishAt 11 = .ok (.imul, 1) := by decide +kernel
theorem dX7_dishAt_12 : decode cX7_dishAt 12 = .ok (.iload_n 1, 1) := by decide +kernel
theorem dX7_dishAt_13 : decode cX7_dishAt 13 = .ok (.bipush 20, 2) := by decide +kernel
theorem dX7_dishAt_15 : decode cX7_dishAt 15 = .ok (.irem, 1) := by decide +kernel
theorem dX7_dishAt_16 : decode cX7_dishAt 16 = .ok (.iadd, 1) := by decide +kernel
theorem dX7_dishAt_17 : decode cX7_dishAt 17 = .ok (.ireturn, 1) := by decide +kernel
theorem dX7_isKind_0 : decode cX7_isKind 0 = .ok (.iload_n 0, 1) := by decide +kernel
theorem dX7_isKind_1 : decode cX7_isKind 1 = .ok (.iconst 0, 1) := by decide +kernel
theorem dX7_isKind_2 : decode cX7_isKind 2 = .ok (.iconst 5, 1) := by decide +kernel
theorem dX7_isKind_3 : decode cX7_isKind 3 = .ok (.invokestatic 86, 3) := by decide +kernel
theorem dX7_isKind_6 : decode cX7_isKind 6 = .ok (.ireturn, 1) := by decide +kernel
theorem dX7_isEntry_0 : decode cX7_isEntry 0 = .ok (.iload_n 1, 1) := by decide +kernel
theorem dX7_isEntry_1 : decode cX7_isEntry 1 = .ok (.iconst 0, 1) := by decide +kernel
theorem dX7_isEntry_2 : decode cX7_isEntry 2 = .ok (.aload_n 0, 1) := by decide +kernel
theorem dX7_isEntry_3 : decode cX7_isEntry 3 = .ok (.getfield 93, 3) := by decide +kernel
theorem dX7_isEntry_6 : decode cX7_isEntry 6 = .ok (.iconst 1, 1) := by decide +kernel
theorem dX7_isEntry_7 : decode cX7_isEntry 7 = .ok (.isub, 1) := by decide +kernel
theorem dX7_isEntry_8 : decode cX7_isEntry 8 = .ok (.invokestatic 86, 3) := by decide +kernel
theorem dX7_isEntry_11 : decode cX7_isEntry 11 = .ok (.ireturn, 1) := by decide +kernel
theorem dX7_store_0 : decode cX7_store 0 = .ok (.iload_n 1, 1) := by decide +kernel
theorem dX7_store_1 : decode cX7_store 1 = .ok (.invokestatic 97, 3) := by decide +kernel
theorem dX7_store_4 : decode cX7_store 4 = .ok (.ifCond .eq 10, 3) := by decide +kernel
theorem dX7_store_7 : decode cX7_store 7 = .ok (.iload_n 2, 1) := by decide +kernel
theorem dX7_store_8 : decode cX7_store 8 = .ok (.invokestatic 101, 3) := by decide +kernel
theorem dX7_store_11 : decode cX7_store 11 = .ok (.ifCond .ne 10, 3) := by decide +kernel
theorem dX7_store_14 : decode cX7_store 14 = .ok (.aload_n 0, 1) := by decide +kernel
theorem dX7_store_15 : decode cX7_store 15 = .ok (.ldc 85, 2) := by decide +kernel
theorem dX7_store_17 : decode cX7_store 17 = .ok (.invokevirtual 104, 3) := by decide +kernel
theorem dX7_store_20 : decode cX7_store 20 = .ok (.ireturn, 1) := by decide +kernel
theorem dX7_store_21 : decode cX7_store 21 = .ok (.aload_n 0, 1) := by decide +kernel
theorem dX7_store_22 : decode cX7_store 22 = .ok (.getfield 7, 3) := by decide +kernel
theorem dX7_store_25 : decode cX7_store 25 = .ok (.iload_n 1, 1) := by decide +kernel
theorem dX7_store_26 : decode cX7_store 26 = .ok (.iaload, 1) := by decide +kernel
theorem dX7_store_27 : decode cX7_store 27 = .ok (.istore_n 3, 1) := by decide +kernel
theorem dX7_store_28 : decode cX7_store 28 = .ok (.aload_n 0, 1) := by decide +kernel
theorem dX7_store_29 : decode cX7_store 29 = .ok (.getfield 7, 3) := by decide +kernel
theorem dX7_store_32 : decode cX7_store 32 = .ok (.iload_n 1, 1) := by decide +kernel
theorem dX7_store_33 : decode cX7_store 33 = .ok (.iload_n 2, 1) := by decide +kernel
theorem dX7_store_34 : decode cX7_store 34 = .ok (.iastore, 1) := by decide +kernel
theorem dX7_store_35 : decode cX7_store 35 = .ok (.iload_n 3, 1) := by decide +kernel
theorem dX7_store_36 : decode cX7_store 36 = .ok (.ireturn, 1) := by decide +kernel
theorem dX7_storeOf_0 : decode cX7_storeOf 0 = .ok (.iload_n 1, 1) := by decide +kernel
theorem dX7_storeOf_1 : decode cX7_storeOf 1 = .ok (.invokestatic 97, 3) := by decide +kernel
theorem dX7_storeOf_4 : decode cX7_storeOf 4 = .ok (.ifCond .eq 12, 3) := by decide +kernel
theorem dX7_storeOf_7 : decode cX7_storeOf 7 = .ok (.aload_n 0, 1) := by decide +kernel
theorem dX7_storeOf_8 : decode cX7_storeOf 8 = .ok (.getfield 7, 3) := by decide +kernel
theorem dX7_storeOf_11 : decode cX7_storeOf 11 = .ok (.iload_n 1, 1) := by decide +kernel
theorem dX7_storeOf_12 : decode cX7_storeOf 12 = .ok (.iaload, 1) := by decide +kernel
theorem dX7_storeOf_13 : decode cX7_storeOf 13 = .ok (.goto 9, 3) := by decide +kernel
theorem dX7_storeOf_16 : decode cX7_storeOf 16 = .ok (.aload_n 0, 1) := by decide +kernel
theorem dX7_storeOf_17 : decode cX7_storeOf 17 = .ok (.ldc 85, 2) := by decide +kernel
theorem dX7_storeOf_19 : decode cX7_storeOf 19 = .ok (.invokevirtual 104, 3) := by decide +kernel
theorem dX7_storeOf_22 : decode cX7_storeOf 22 = .ok (.ireturn, 1) := by decide +kernel
theorem dX7_mostOf_0 : decode cX7_mostOf 0 = .ok (.iload_n 0, 1) := by decide +kernel
theorem dX7_mostOf_1 : decode cX7_mostOf 1 = .ok (.ifCond .ne 8, 3) := by decide +kernel
theorem dX7_mostOf_4 : decode cX7_mostOf 4 = .ok (.bipush 7, 2) := by decide +kernel
theorem dX7_mostOf_6 : decode cX7_mostOf 6 = .ok (.goto 13, 3) := by decide +kernel
theorem dX7_mostOf_9 : decode cX7_mostOf 9 = .ok (.iload_n 0, 1) := by decide +kernel
theorem dX7_mostOf_10 : decode cX7_mostOf 10 = .ok (.iconst 1, 1) := by decide +kernel
theorem dX7_mostOf_11 : decode cX7_mostOf 11 = .ok (.if_icmp .ne 7, 3) := by decide +kernel
theorem dX7_mostOf_14 : decode cX7_mostOf 14 = .ok (.iconst 4, 1) := by decide +kernel
theorem dX7_mostOf_15 : decode cX7_mostOf 15 = .ok (.goto 4, 3) := by decide +kernel
theorem dX7_mostOf_18 : decode cX7_mostOf 18 = .ok (.iconst 3, 1) := by decide +kernel
theorem dX7_mostOf_19 : decode cX7_mostOf 19 = .ok (.ireturn, 1) := by decide +kernel
theorem dX7_likedAt_0 : decode cX7_likedAt 0 = .ok (.iload_n 0, 1) := by decide +kernel
theorem dX7_likedAt_1 : decode cX7_likedAt 1 = .ok (.ifCond .ne 7, 3) := by decide +kernel
theorem dX7_likedAt_4 : decode cX7_likedAt 4 = .ok (.iload_n 1, 1) := by decide +kernel
theorem dX7_likedAt_5 : decode cX7_likedAt 5 = .ok (.goto 19, 3) := by decide +kernel
theorem dX7_likedAt_8 : decode cX7_likedAt 8 = .ok (.iload_n 0, 1) := by decide +kernel
theorem dX7_likedAt_9 : decode cX7_likedAt 9 = .ok (.iconst 1, 1) := by decide +kernel
theorem dX7_likedAt_10 : decode cX7_likedAt 10 = .ok (.if_icmp .ne 10, 3) := by decide +kernel
theorem dX7_likedAt_13 : decode cX7_likedAt 13 = .ok (.bipush 8, 2) := by decide +kernel
theorem dX7_likedAt_15 : decode cX7_likedAt 15 = .ok (.iload_n 1, 1) := by decide +kernel
theorem dX7_likedAt_16 : decode cX7_likedAt 16 = .ok (.iadd, 1) := by decide +kernel
theorem dX7_likedAt_17 : decode cX7_likedAt 17 = .ok (.goto 7, 3) := by decide +kernel
theorem dX7_likedAt_20 : decode cX7_likedAt 20 = .ok (.bipush 13, 2) := by decide +kernel
theorem dX7_likedAt_22 : decode cX7_likedAt 22 = .ok (.iload_n 1, 1) := by decide +kernel
theorem dX7_likedAt_23 : decode cX7_likedAt 23 = .ok (.iadd, 1) := by decide +kernel
theorem dX7_likedAt_24 : decode cX7_likedAt 24 = .ok (.ireturn, 1) := by decide +kernel
theorem dX7_like_0 : decode cX7_like 0 = .ok (.iload_n 1, 1) := by decide +kernel
theorem dX7_like_1 : decode cX7_like 1 = .ok (.iconst 0, 1) := by decide +kernel
theorem dX7_like_2 : decode cX7_like 2 = .ok (.iconst 2, 1) := by decide +kernel
theorem dX7_like_3 : decode cX7_like 3 = .ok (.invokestatic 86, 3) := by decide +kernel
theorem dX7_like_6 : decode cX7_like 6 = .ok (.ifCond .eq 26, 3) := by decide +kernel
theorem dX7_like_9 : decode cX7_like 9 = .ok (.iload_n 2, 1) := by decide +kernel
theorem dX7_like_10 : decode cX7_like 10 = .ok (.iconst 0, 1) := by decide +kernel
theorem dX7_like_11 : decode cX7_like 11 = .ok (.iload_n 1, 1) := by decide +kernel
theorem dX7_like_12 : decode cX7_like 12 = .ok (.invokestatic 107, 3) := by decide +kernel
theorem dX7_like_15 : decode cX7_like 15 = .ok (.invokestatic 86, 3) := by decide +kernel
theorem dX7_like_18 : decode cX7_like 18 = .ok (.ifCond .eq 14, 3) := by decide +kernel
theorem dX7_like_21 : decode cX7_like 21 = .ok (.iload_n 3, 1) := by decide +kernel
theorem dX7_like_22 : decode cX7_like 22 = .ok (.bipush (-9), 2) := by decide +kernel
theorem dX7_like_24 : decode cX7_like 24 = .ok (.bipush 9, 2) := by decide +kernel
theorem dX7_like_26 : decode cX7_like 26 = .ok (.invokestatic 86, 3) := by decide +kernel
theorem dX7_like_29 : decode cX7_like 29 = .ok (.ifCond .ne 10, 3) := by decide +kernel
theorem dX7_like_32 : decode cX7_like 32 = .ok (.aload_n 0, 1) := by decide +kernel
theorem dX7_like_33 : decode cX7_like 33 = .ok (.ldc 85, 2) := by decide +kernel
theorem dX7_like_35 : decode cX7_like 35 = .ok (.invokevirtual 104, 3) := by decide +kernel
theorem dX7_like_38 : decode cX7_like 38 = .ok (.ireturn, 1) := by decide +kernel
theorem dX7_like_39 : decode cX7_like 39 = .ok (.iload_n 1, 1) := by decide +kernel
theorem dX7_like_40 : decode cX7_like 40 = .ok (.iload_n 2, 1) := by decide +kernel
theorem dX7_like_41 : decode cX7_like 41 = .ok (.invokestatic 110, 3) := by decide +kernel
theorem dX7_like_44 : decode cX7_like 44 = .ok (.istore 4, 2) := by decide +kernel
theorem dX7_like_46 : decode cX7_like 46 = .ok (.aload_n 0, 1) := by decide +kernel
theorem dX7_like_47 : decode cX7_like 47 = .ok (.getfield 13, 3) := by decide +kernel
theorem dX7_like_50 : decode cX7_like 50 = .ok (.iload 4, 2) := by decide +kernel
theorem dX7_like_52 : decode cX7_like 52 = .ok (.iaload, 1) := by decide +kernel
theorem dX7_like_53 : decode cX7_like 53 = .ok (.istore 5, 2) := by decide +kernel
theorem dX7_like_55 : decode cX7_like 55 = .ok (.aload_n 0, 1) := by decide +kernel
theorem dX7_like_56 : decode cX7_like 56 = .ok (.getfield 13, 3) := by decide +kernel
theorem dX7_like_59 : decode cX7_like 59 = .ok (.iload 4, 2) := by decide +kernel
theorem dX7_like_61 : decode cX7_like 61 = .ok (.iload_n 3, 1) := by decide +kernel
theorem dX7_like_62 : decode cX7_like 62 = .ok (.iastore, 1) := by decide +kernel
theorem dX7_like_63 : decode cX7_like 63 = .ok (.iload 5, 2) := by decide +kernel
theorem dX7_like_65 : decode cX7_like 65 = .ok (.ireturn, 1) := by decide +kernel
theorem dX7_edict_0 : decode cX7_edict 0 = .ok (.iload_n 1, 1) := by decide +kernel
theorem dX7_edict_1 : decode cX7_edict 1 = .ok (.iconst 0, 1) := by decide +kernel
theorem dX7_edict_2 : decode cX7_edict 2 = .ok (.iconst 1, 1) := by decide +kernel
theorem dX7_edict_3 : decode cX7_edict 3 = .ok (.invokestatic 86, 3) := by decide +kernel
theorem dX7_edict_6 : decode cX7_edict 6 = .ok (.ifCond .ne 10, 3) := by decide +kernel
theorem dX7_edict_9 : decode cX7_edict 9 = .ok (.aload_n 0, 1) := by decide +kernel
theorem dX7_edict_10 : decode cX7_edict 10 = .ok (.ldc 85, 2) := by decide +kernel
theorem dX7_edict_12 : decode cX7_edict 12 = .ok (.invokevirtual 104, 3) := by decide +kernel
theorem dX7_edict_15 : decode cX7_edict 15 = .ok (.ireturn, 1) := by decide +kernel
theorem dX7_edict_16 : decode cX7_edict 16 = .ok (.iload_n 2, 1) := by decide +kernel
theorem dX7_edict_17 : decode cX7_edict 17 = .ok (.ifCond .eq 7, 3) := by decide +kernel
theorem dX7_edict_20 : decode cX7_edict 20 = .ok (.iconst 1, 1) := by decide +kernel
theorem dX7_edict_21 : decode cX7_edict 21 = .ok (.goto 4, 3) := by decide +kernel
theorem dX7_edict_24 : decode cX7_edict 24 = .ok (.iconst 0, 1) := by decide +kernel
theorem dX7_edict_25 : decode cX7_edict 25 = .ok (.istore_n 3, 1) := by decide +kernel
theorem dX7_edict_26 : decode cX7_edict 26 = .ok (.aload_n 0, 1) := by decide +kernel
theorem dX7_edict_27 : decode cX7_edict 27 = .ok (.getfield 16, 3) := by decide +kernel
theorem dX7_edict_30 : decode cX7_edict 30 = .ok (.iload_n 1, 1) := by decide +kernel
theorem dX7_edict_31 : decode cX7_edict 31 = .ok (.iaload, 1) := by decide +kernel
theorem dX7_edict_32 : decode cX7_edict 32 = .ok (.iload_n 3, 1) := by decide +kernel
theorem dX7_edict_33 : decode cX7_edict 33 = .ok (.if_icmp .ne 5, 3) := by decide +kernel
theorem dX7_edict_36 : decode cX7_edict 36 = .ok (.iconst 0, 1) := by decide +kernel
theorem dX7_edict_37 : decode cX7_edict 37 = .ok (.ireturn, 1) := by decide +kernel
theorem dX7_edict_38 : decode cX7_edict 38 = .ok (.aload_n 0, 1) := by decide +kernel
theorem dX7_edict_39 : decode cX7_edict 39 = .ok (.getfield 16, 3) := by decide +kernel
theorem dX7_edict_42 : decode cX7_edict 42 = .ok (.iload_n 1, 1) := by decide +kernel
theorem dX7_edict_43 : decode cX7_edict 43 = .ok (.iload_n 3, 1) := by decide +kernel
theorem dX7_edict_44 : decode cX7_edict 44 = .ok (.iastore, 1) := by decide +kernel
theorem dX7_edict_45 : decode cX7_edict 45 = .ok (.iconst 1, 1) := by decide +kernel
theorem dX7_edict_46 : decode cX7_edict 46 = .ok (.ireturn, 1) := by decide +kernel
theorem dX7_dish_0 : decode cX7_dish 0 = .ok (.iload_n 1, 1) := by decide +kernel
theorem dX7_dish_1 : decode cX7_dish 1 = .ok (.iconst 1, 1) := by decide +kernel
theorem dX7_dish_2 : decode cX7_dish 2 = .ok (.sipush 255, 3) := by decide +kernel
theorem dX7_dish_5 : decode cX7_dish 5 = .ok (.invokestatic 86, 3) := by decide +kernel
theorem dX7_dish_8 : decode cX7_dish 8 = .ok (.ifCond .eq 25, 3) := by decide +kernel
theorem dX7_dish_11 : decode cX7_dish 11 = .ok (.iload_n 2, 1) := by decide +kernel
theorem dX7_dish_12 : decode cX7_dish 12 = .ok (.iconst 0, 1) := by decide +kernel
theorem dX7_dish_13 : decode cX7_dish 13 = .ok (.iconst 4, 1) := by decide +kernel
theorem dX7_dish_14 : decode cX7_dish 14 = .ok (.invokestatic 86, 3) := by decide +kernel
theorem dX7_dish_17 : decode cX7_dish 17 = .ok (.ifCond .eq 16, 3) := by decide +kernel
theorem dX7_dish_20 : decode cX7_dish 20 = .ok (.iload_n 3, 1) := by decide +kernel
theorem dX7_dish_21 : decode cX7_dish 21 = .ok (.iconst 0, 1) := by decide +kernel
theorem dX7_dish_22 : decode cX7_dish 22 = .ok (.iconst 3, 1) := by decide +kernel
theorem dX7_dish_23 : decode cX7_dish 23 = .ok (.invokestatic 86, 3) := by decide +kernel
theorem dX7_dish_26 : decode cX7_dish 26 = .ok (.ifCond .eq 7, 3) := by decide +kernel
theorem dX7_dish_29 : decode cX7_dish 29 = .ok (.iconst 1, 1) := by decide +kernel
theorem dX7_dish_30 : decode cX7_dish 30 = .ok (.goto 4, 3) := by decide +kernel
theorem dX7_dish_33 : decode cX7_dish 33 = .ok (.iconst 0, 1) := by decide +kernel
theorem dX7_dish_34 : decode cX7_dish 34 = .ok (.istore 4, 2) := by decide +kernel
theorem dX7_dish_36 : decode cX7_dish 36 = .ok (.iload 4, 2) := by decide +kernel
theorem dX7_dish_38 : decode cX7_dish 38 = .ok (.ifCond .eq 11, 3) := by decide +kernel
theorem dX7_dish_41 : decode cX7_dish 41 = .ok (.iload_n 1, 1) := by decide +kernel
theorem dX7_dish_42 : decode cX7_dish 42 = .ok (.invokestatic 81, 3) := by decide +kernel
theorem dX7_dish_45 : decode cX7_dish 45 = .ok (.iconst 3, 1) := by decide +kernel
theorem dX7_dish_46 : decode cX7_dish 46 = .ok (.if_icmp .le 10, 3) := by decide +kernel
theorem dX7_dish_49 : decode cX7_dish 49 = .ok (.aload_n 0, 1) := by decide +kernel
theorem dX7_dish_50 : decode cX7_dish 50 = .ok (.ldc 85, 2) := by decide +kernel
theorem dX7_dish_52 : decode cX7_dish 52 = .ok (.invokevirtual 104, 3) := by decide +kernel
theorem dX7_dish_55 : decode cX7_dish 55 = .ok (.ireturn, 1) := by decide +kernel
theorem dX7_dish_56 : decode cX7_dish 56 = .ok (.bipush 20, 2) := by decide +kernel
theorem dX7_dish_58 : decode cX7_dish 58 = .ok (.iload_n 1, 1) := by decide +kernel
theorem dX7_dish_59 : decode cX7_dish 59 = .ok (.imul, 1) := by decide +kernel
theorem dX7_dish_60 : decode cX7_dish 60 = .ok (.iconst 4, 1) := by decide +kernel
theorem dX7_dish_61 : decode cX7_dish 61 = .ok (.iload_n 2, 1) := by decide +kernel
theorem dX7_dish_62 : decode cX7_dish 62 = .ok (.imul, 1) := by decide +kernel
theorem dX7_dish_63 : decode cX7_dish 63 = .ok (.iadd, 1) := by decide +kernel
theorem dX7_dish_64 : decode cX7_dish 64 = .ok (.iload_n 3, 1) := by decide +kernel
theorem dX7_dish_65 : decode cX7_dish 65 = .ok (.iadd, 1) := by decide +kernel
theorem dX7_dish_66 : decode cX7_dish 66 = .ok (.ireturn, 1) := by decide +kernel
theorem dX7_likingOf_0 : decode cX7_likingOf 0 = .ok (.aload_n 0, 1) := by decide +kernel
theorem dX7_likingOf_1 : decode cX7_likingOf 1 = .ok (.getfield 13, 3) := by decide +kernel
theorem dX7_likingOf_4 : decode cX7_likingOf 4 = .ok (.bipush 8, 2) := by decide +kernel
theorem dX7_likingOf_6 : decode cX7_likingOf 6 = .ok (.iload_n 1, 1) := by decide +kernel
theorem dX7_likingOf_7 : decode cX7_likingOf 7 = .ok (.invokestatic 114, 3) := by decide +kernel
theorem dX7_likingOf_10 : decode cX7_likingOf 10 = .ok (.iadd, 1) := by decide +kernel
theorem dX7_likingOf_11 : decode cX7_likingOf 11 = .ok (.iaload, 1) := by decide +kernel
theorem dX7_likingOf_12 : decode cX7_likingOf 12 = .ok (.aload_n 0, 1) := by decide +kernel
theorem dX7_likingOf_13 : decode cX7_likingOf 13 = .ok (.getfield 13, 3) := by decide +kernel
theorem dX7_likingOf_16 : decode cX7_likingOf 16 = .ok (.bipush 13, 2) := by decide +kernel
theorem dX7_likingOf_18 : decode cX7_likingOf 18 = .ok (.iload_n 1, 1) := by decide +kernel
theorem dX7_likingOf_19 : decode cX7_likingOf 19 = .ok (.invokestatic 117, 3) := by decide +kernel
theorem dX7_likingOf_22 : decode cX7_likingOf 22 = .ok (.iadd, 1) := by decide +kernel
theorem dX7_likingOf_23 : decode cX7_likingOf 23 = .ok (.iaload, 1) := by decide +kernel
theorem dX7_likingOf_24 : decode cX7_likingOf 24 = .ok (.iadd, 1) := by decide +kernel
theorem dX7_likingOf_25 : decode cX7_likingOf 25 = .ok (.istore_n 2, 1) := by decide +kernel
theorem dX7_likingOf_26 : decode cX7_likingOf 26 = .ok (.iconst 0, 1) := by decide +kernel
theorem dX7_likingOf_27 : decode cX7_likingOf 27 = .ok (.istore_n 3, 1) := by decide +kernel
theorem dX7_likingOf_28 : decode cX7_likingOf 28 = .ok (.iload_n 3, 1) := by decide +kernel
theorem dX7_likingOf_29 : decode cX7_likingOf 29 = .ok (.bipush 8, 2) := by decide +kernel
theorem dX7_likingOf_31 : decode cX7_likingOf 31 = .ok (.if_icmp .ge 33, 3) := by decide +kernel
theorem dX7_likingOf_34 : decode cX7_likingOf 34 = .ok (.iload_n 2, 1) := by decide +kernel
theorem dX7_likingOf_35 : decode cX7_likingOf 35 = .ok (.iload_n 1, 1) := by decide +kernel
theorem dX7_likingOf_36 : decode cX7_likingOf 36 = .ok (.invokestatic 90, 3) := by decide +kernel
theorem dX7_likingOf_39 : decode cX7_likingOf 39 = .ok (.iload_n 3, 1) := by decide +kernel
theorem dX7_likingOf_40 : decode cX7_likingOf 40 = .ok (.invokestatic 120, 3) := by decide +kernel
theorem dX7_likingOf_43 : decode cX7_likingOf 43 = .ok (.ifCond .eq 12, 3) := by decide +kernel
theorem dX7_likingOf_46 : decode cX7_likingOf 46 = .ok (.aload_n 0, 1) := by decide +kernel
theorem dX7_likingOf_47 : decode cX7_likingOf 47 = .ok (.getfield 13, 3) := by decide +kernel
theorem dX7_likingOf_50 : decode cX7_likingOf 50 = .ok (.iload_n 3, 1) := by decide +kernel
theorem dX7_likingOf_51 : decode cX7_likingOf 51 = .ok (.iaload, 1) := by decide +kernel
theorem dX7_likingOf_52 : decode cX7_likingOf 52 = .ok (.goto 4, 3) := by decide +kernel
theorem dX7_likingOf_55 : decode cX7_likingOf 55 = .ok (.iconst 0, 1) := by decide +kernel
theorem dX7_likingOf_56 : decode cX7_likingOf 56 = .ok (.iadd, 1) := by decide +kernel
theorem dX7_likingOf_57 : decode cX7_likingOf 57 = .ok (.istore_n 2, 1) := by decide +kernel
theorem dX7_likingOf_58 : decode cX7_likingOf 58 = .ok (.iinc 3 1, 3) := by decide +kernel
theorem dX7_likingOf_61 : decode cX7_likingOf 61 = .ok (.goto (-33), 3) := by decide +kernel
theorem dX7_likingOf_64 : decode cX7_likingOf 64 = .ok (.iload_n 2, 1) := by decide +kernel
theorem dX7_likingOf_65 : decode cX7_likingOf 65 = .ok (.ireturn, 1) := by decide +kernel
theorem dX7_canBe_0 : decode cX7_canBe 0 = .ok (.iconst 1, 1) := by decide +kernel
theorem dX7_canBe_1 : decode cX7_canBe 1 = .ok (.istore_n 2, 1) := by decide +kernel
theorem dX7_canBe_2 : decode cX7_canBe 2 = .ok (.iconst 0, 1) := by decide +kernel
theorem dX7_canBe_3 : decode cX7_canBe 3 = .ok (.istore_n 3, 1) := by decide +kernel
theorem dX7_canBe_4 : decode cX7_canBe 4 = .ok (.iload_n 3, 1) := by decide +kernel
theorem dX7_canBe_5 : decode cX7_canBe 5 = .ok (.bipush 8, 2) := by decide +kernel
theorem dX7_canBe_7 : decode cX7_canBe 7 = .ok (.if_icmp .ge 39, 3) := by decide +kernel
theorem dX7_canBe_10 : decode cX7_canBe 10 = .ok (.iload_n 2, 1) := by decide +kernel
theorem dX7_canBe_11 : decode cX7_canBe 11 = .ok (.ifCond .eq 27, 3) := by decide +kernel
theorem dX7_canBe_14 : decode cX7_canBe 14 = .ok (.iload_n 1, 1) := by decide +kernel
theorem dX7_canBe_15 : decode cX7_canBe 15 = .ok (.invokestatic 90, 3) := by decide +kernel
theorem dX7_canBe_18 : decode cX7_canBe 18 = .ok (.iload_n 3, 1) := by decide +kernel
theorem dX7_canBe_19 : decode cX7_canBe 19 = .ok (.invokestatic 120, 3) := by decide +kernel
theorem dX7_canBe_22 : decode cX7_canBe 22 = .ok (.ifCond .eq 12, 3) := by decide +kernel
theorem dX7_canBe_25 : decode cX7_canBe 25 = .ok (.aload_n 0, 1) := by decide +kernel
theorem dX7_canBe_26 : decode cX7_canBe 26 = .ok (.getfield 7, 3) := by decide +kernel
theorem dX7_canBe_29 : decode cX7_canBe 29 = .ok (.iload_n 3, 1) := by decide +kernel
theorem dX7_canBe_30 : decode cX7_canBe 30 = .ok (.iaload, 1) := by decide +kernel
theorem dX7_canBe_31 : decode cX7_canBe 31 = .ok (.ifCond .le 7, 3) := by decide +kernel
theorem dX7_canBe_34 : decode cX7_canBe 34 = .ok (.iconst 1, 1) := by decide +kernel
theorem dX7_canBe_35 : decode cX7_canBe 35 = .ok (.goto 4, 3) := by decide +kernel
theorem dX7_canBe_38 : decode cX7_canBe 38 = .ok (.iconst 0, 1) := by decide +kernel
theorem dX7_canBe_39 : decode cX7_canBe 39 = .ok (.istore_n 2, 1) := by decide +kernel
theorem dX7_canBe_40 : decode cX7_canBe 40 = .ok (.iinc 3 1, 3) := by decide +kernel
theorem dX7_canBe_43 : decode cX7_canBe 43 = .ok (.goto (-39), 3) := by decide +kernel
theorem dX7_canBe_46 : decode cX7_canBe 46 = .ok (.iload_n 2, 1) := by decide +kernel
theorem dX7_canBe_47 : decode cX7_canBe 47 = .ok (.ireturn, 1) := by decide +kernel
theorem dX7_barsIt_0 : decode cX7_barsIt 0 = .ok (.aload_n 0, 1) := by decide +kernel
theorem dX7_barsIt_1 : decode cX7_barsIt 1 = .ok (.getfield 22, 3) := by decide +kernel
theorem dX7_barsIt_4 : decode cX7_barsIt 4 = .ok (.iload_n 1, 1) := by decide +kernel
theorem dX7_barsIt_5 : decode cX7_barsIt 5 = .ok (.iaload, 1) := by decide +kernel
theorem dX7_barsIt_6 : decode cX7_barsIt 6 = .ok (.istore_n 3, 1) := by decide +kernel
theorem dX7_barsIt_7 : decode cX7_barsIt 7 = .ok (.iload_n 3, 1) := by decide +kernel
theorem dX7_barsIt_8 : decode cX7_barsIt 8 = .ok (.invokestatic 90, 3) := by decide +kernel
theorem dX7_barsIt_11 : decode cX7_barsIt 11 = .ok (.iload_n 2, 1) := by decide +kernel
theorem dX7_barsIt_12 : decode cX7_barsIt 12 = .ok (.invokestatic 90, 3) := by decide +kernel
theorem dX7_barsIt_15 : decode cX7_barsIt 15 = .ok (.if_icmp .ne 7, 3) := by decide +kernel
theorem dX7_barsIt_18 : decode cX7_barsIt 18 = .ok (.iconst 1, 1) := by decide +kernel
theorem dX7_barsIt_19 : decode cX7_barsIt 19 = .ok (.goto 4, 3) := by decide +kernel
theorem dX7_barsIt_22 : decode cX7_barsIt 22 = .ok (.iconst 0, 1) := by decide +kernel
theorem dX7_barsIt_23 : decode cX7_barsIt 23 = .ok (.istore 4, 2) := by decide +kernel
theorem dX7_barsIt_25 : decode cX7_barsIt 25 = .ok (.iload_n 3, 1) := by decide +kernel
theorem dX7_barsIt_26 : decode cX7_barsIt 26 = .ok (.invokestatic 90, 3) := by decide +kernel
theorem dX7_barsIt_29 : decode cX7_barsIt 29 = .ok (.iload_n 2, 1) := by decide +kernel
theorem dX7_barsIt_30 : decode cX7_barsIt 30 = .ok (.invokestatic 90, 3) := by decide +kernel
theorem dX7_barsIt_33 : decode cX7_barsIt 33 = .ok (.iand, 1) := by decide +kernel
theorem dX7_barsIt_34 : decode cX7_barsIt 34 = .ok (.iload_n 3, 1) := by decide +kernel
theorem dX7_barsIt_35 : decode cX7_barsIt 35 = .ok (.invokestatic 90, 3) := by decide +kernel
theorem dX7_barsIt_38 : decode cX7_barsIt 38 = .ok (.if_icmp .eq 19, 3) := by decide +kernel
theorem dX7_barsIt_41 : decode cX7_barsIt 41 = .ok (.iload_n 3, 1) := by decide +kernel
theorem dX7_barsIt_42 : decode cX7_barsIt 42 = .ok (.invokestatic 90, 3) := by decide +kernel
theorem dX7_barsIt_45 : decode cX7_barsIt 45 = .ok (.iload_n 2, 1) := by decide +kernel
theorem dX7_barsIt_46 : decode cX7_barsIt 46 = .ok (.invokestatic 90, 3) := by decide +kernel
theorem dX7_barsIt_49 : decode cX7_barsIt 49 = .ok (.iand, 1) := by decide +kernel
theorem dX7_barsIt_50 : decode cX7_barsIt 50 = .ok (.iload_n 2, 1) := by decide +kernel
theorem dX7_barsIt_51 : decode cX7_barsIt 51 = .ok (.invokestatic 90, 3) := by decide +kernel
theorem dX7_barsIt_54 : decode cX7_barsIt 54 = .ok (.if_icmp .ne 7, 3) := by decide +kernel
theorem dX7_barsIt_57 : decode cX7_barsIt 57 = .ok (.iconst 1, 1) := by decide +kernel
theorem dX7_barsIt_58 : decode cX7_barsIt 58 = .ok (.goto 4, 3) := by decide +kernel
theorem dX7_barsIt_61 : decode cX7_barsIt 61 = .ok (.iconst 0, 1) := by decide +kernel
theorem dX7_barsIt_62 : decode cX7_barsIt 62 = .ok (.istore 5, 2) := by decide +kernel
theorem dX7_barsIt_64 : decode cX7_barsIt 64 = .ok (.iload_n 3, 1) := by decide +kernel
theorem dX7_barsIt_65 : decode cX7_barsIt 65 = .ok (.invokestatic 114, 3) := by decide +kernel
theorem dX7_barsIt_68 : decode cX7_barsIt 68 = .ok (.iload_n 2, 1) := by decide +kernel
theorem dX7_barsIt_69 : decode cX7_barsIt 69 = .ok (.invokestatic 114, 3) := by decide +kernel
theorem dX7_barsIt_72 : decode cX7_barsIt 72 = .ok (.if_icmp .ne 7, 3) := by decide +kernel
theorem dX7_barsIt_75 : decode cX7_barsIt 75 = .ok (.iconst 1, 1) := by decide +kernel
theorem dX7_barsIt_76 : decode cX7_barsIt 76 = .ok (.goto 4, 3) := by decide +kernel
theorem dX7_barsIt_79 : decode cX7_barsIt 79 = .ok (.iconst 0, 1) := by decide +kernel
theorem dX7_barsIt_80 : decode cX7_barsIt 80 = .ok (.istore 6, 2) := by decide +kernel
theorem dX7_barsIt_82 : decode cX7_barsIt 82 = .ok (.iload_n 3, 1) := by decide +kernel
theorem dX7_barsIt_83 : decode cX7_barsIt 83 = .ok (.invokestatic 117, 3) := by decide +kernel
theorem dX7_barsIt_86 : decode cX7_barsIt 86 = .ok (.iload_n 2, 1) := by decide +kernel
theorem dX7_barsIt_87 : decode cX7_barsIt 87 = .ok (.invokestatic 117, 3) := by decide +kernel
theorem dX7_barsIt_90 : decode cX7_barsIt 90 = .ok (.if_icmp .ne 7, 3) := by decide +kernel
theorem dX7_barsIt_93 : decode cX7_barsIt 93 = .ok (.iconst 1, 1) := by decide +kernel
theorem dX7_barsIt_94 : decode cX7_barsIt 94 = .ok (.goto 4, 3) := by decide +kernel
theorem dX7_barsIt_97 : decode cX7_barsIt 97 = .ok (.iconst 0, 1) := by decide +kernel
theorem dX7_barsIt_98 : decode cX7_barsIt 98 = .ok (.istore 7, 2) := by decide +kernel
theorem dX7_barsIt_100 : decode cX7_barsIt 100 = .ok (.iload 6, 2) := by decide +kernel
theorem dX7_barsIt_102 : decode cX7_barsIt 102 = .ok (.ifCond .ne 12, 3) := by decide +kernel
theorem dX7_barsIt_105 : decode cX7_barsIt 105 = .ok (.aload_n 0, 1) := by decide +kernel
theorem dX7_barsIt_106 : decode cX7_barsIt 106 = .ok (.getfield 16, 3) := by decide +kernel
theorem dX7_barsIt_109 : decode cX7_barsIt 109 = .ok (.iconst 1, 1) := by decide +kernel
theorem dX7_barsIt_110 : decode cX7_barsIt 110 = .ok (.iaload, 1) := by decide +kernel
theorem dX7_barsIt_111 : decode cX7_barsIt 111 = .ok (.ifCond .ne 21, 3) := by decide +kernel
theorem dX7_barsIt_114 : decode cX7_barsIt 114 = .ok (.iload 7, 2) := by decide +kernel
theorem dX7_barsIt_116 : decode cX7_barsIt 116 = .ok (.ifCond .ne 12, 3) := by decide +kernel
theorem dX7_barsIt_119 : decode cX7_barsIt 119 = .ok (.aload_n 0, 1) := by decide +kernel
theorem dX7_barsIt_120 : decode cX7_barsIt 120 = .ok (.getfield 16, 3) := by decide +kernel
theorem dX7_barsIt_123 : decode cX7_barsIt 123 = .ok (.iconst 0, 1) := by decide +kernel
theorem dX7_barsIt_124 : decode cX7_barsIt 124 = .ok (.iaload, 1) := by decide +kernel
theorem dX7_barsIt_125 : decode cX7_barsIt 125 = .ok (.ifCond .ne 7, 3) := by decide +kernel
theorem dX7_barsIt_128 : decode cX7_barsIt 128 = .ok (.iconst 1, 1) := by decide +kernel
theorem dX7_barsIt_129 : decode cX7_barsIt 129 = .ok (.goto 4, 3) := by decide +kernel
theorem dX7_barsIt_132 : decode cX7_barsIt 132 = .ok (.iconst 0, 1) := by decide +kernel
theorem dX7_barsIt_133 : decode cX7_barsIt 133 = .ok (.istore 8, 2) := by decide +kernel
theorem dX7_barsIt_135 : decode cX7_barsIt 135 = .ok (.aload_n 0, 1) := by decide +kernel
theorem dX7_barsIt_136 : decode cX7_barsIt 136 = .ok (.getfield 19, 3) := by decide +kernel
theorem dX7_barsIt_139 : decode cX7_barsIt 139 = .ok (.iload_n 1, 1) := by decide +kernel
theorem dX7_barsIt_140 : decode cX7_barsIt 140 = .ok (.iaload, 1) := by decide +kernel
theorem dX7_barsIt_141 : decode cX7_barsIt 141 = .ok (.tableswitch 93 1 5 #[35, 51, 53, 74, 77], 35) := by decide +kernel
theorem dX7_barsIt_176 : decode cX7_barsIt 176 = .ok (.iload 5, 2) := by decide +kernel
theorem dX7_barsIt_178 : decode cX7_barsIt 178 = .ok (.ifCond .eq 12, 3) := by decide +kernel
theorem dX7_barsIt_181 : decode cX7_barsIt 181 = .ok (.iload 8, 2) := by decide +kernel
theorem dX7_barsIt_183 : decode cX7_barsIt 183 = .ok (.ifCond .eq 7, 3) := by decide +kernel
theorem dX7_barsIt_186 : decode cX7_barsIt 186 = .ok (.iconst 1, 1) := by decide +kernel
theorem dX7_barsIt_187 : decode cX7_barsIt 187 = .ok (.goto 4, 3) := by decide +kernel
theorem dX7_barsIt_190 : decode cX7_barsIt 190 = .ok (.iconst 0, 1) := by decide +kernel
theorem dX7_barsIt_191 : decode cX7_barsIt 191 = .ok (.ireturn, 1) := by decide +kernel
theorem dX7_barsIt_192 : decode cX7_barsIt 192 = .ok (.iconst 0, 1) := by decide +kernel
theorem dX7_barsIt_193 : decode cX7_barsIt 193 = .ok (.ireturn, 1) := by decide +kernel
theorem dX7_barsIt_194 : decode cX7_barsIt 194 = .ok (.iload 4, 2) := by decide +kernel
theorem dX7_barsIt_196 : decode cX7_barsIt 196 = .ok (.ifCond .eq 17, 3) := by decide +kernel
theorem dX7_barsIt_199 : decode cX7_barsIt 199 = .ok (.iload 6, 2) := by decide +kernel
theorem dX7_barsIt_201 : decode cX7_barsIt 201 = .ok (.ifCond .eq 12, 3) := by decide +kernel
theorem dX7_barsIt_204 : decode cX7_barsIt 204 = .ok (.iload 7, 2) := by decide +kernel
theorem dX7_barsIt_206 : decode cX7_barsIt 206 = .ok (.ifCond .eq 7, 3) := by decide +kernel
theorem dX7_barsIt_209 : decode cX7_barsIt 209 = .ok (.iconst 1, 1) := by decide +kernel
theorem dX7_barsIt_210 : decode cX7_barsIt 210 = .ok (.goto 4, 3) := by decide +kernel
theorem dX7_barsIt_213 : decode cX7_barsIt 213 = .ok (.iconst 0, 1) := by decide +kernel
theorem dX7_barsIt_214 : decode cX7_barsIt 214 = .ok (.ireturn, 1) := by decide +kernel
theorem dX7_barsIt_215 : decode cX7_barsIt 215 = .ok (.iload 5, 2) := by decide +kernel
theorem dX7_barsIt_217 : decode cX7_barsIt 217 = .ok (.ireturn, 1) := by decide +kernel
theorem dX7_barsIt_218 : decode cX7_barsIt 218 = .ok (.iload 4, 2) := by decide +kernel
theorem dX7_barsIt_220 : decode cX7_barsIt 220 = .ok (.ifCond .eq 12, 3) := by decide +kernel
theorem dX7_barsIt_223 : decode cX7_barsIt 223 = .ok (.iload 6, 2) := by decide +kernel
theorem dX7_barsIt_225 : decode cX7_barsIt 225 = .ok (.ifCond .eq 7, 3) := by decide +kernel
theorem dX7_barsIt_228 : decode cX7_barsIt 228 = .ok (.iconst 1, 1) := by decide +kernel
theorem dX7_barsIt_229 : decode cX7_barsIt 229 = .ok (.goto 4, 3) := by decide +kernel
theorem dX7_barsIt_232 : decode cX7_barsIt 232 = .ok (.iconst 0, 1) := by decide +kernel
theorem dX7_barsIt_233 : decode cX7_barsIt 233 = .ok (.ireturn, 1) := by decide +kernel
theorem dX7_barsIt_234 : decode cX7_barsIt 234 = .ok (.iload 4, 2) := by decide +kernel
theorem dX7_barsIt_236 : decode cX7_barsIt 236 = .ok (.ifCond .eq 12, 3) := by decide +kernel
theorem dX7_barsIt_239 : decode cX7_barsIt 239 = .ok (.iload 8, 2) := by decide +kernel
theorem dX7_barsIt_241 : decode cX7_barsIt 241 = .ok (.ifCond .eq 7, 3) := by decide +kernel
theorem dX7_barsIt_244 : decode cX7_barsIt 244 = .ok (.iconst 1, 1) := by decide +kernel
theorem dX7_barsIt_245 : decode cX7_barsIt 245 = .ok (.goto 4, 3) := by decide +kernel
theorem dX7_barsIt_248 : decode cX7_barsIt 248 = .ok (.iconst 0, 1) := by decide +kernel
theorem dX7_barsIt_249 : decode cX7_barsIt 249 = .ok (.ireturn, 1) := by decide +kernel
theorem dX7_firstBy_0 : decode cX7_firstBy 0 = .ok (.iconst 0, 1) := by decide +kernel
theorem dX7_firstBy_1 : decode cX7_firstBy 1 = .ok (.istore_n 2, 1) := by decide +kernel
theorem dX7_firstBy_2 : decode cX7_firstBy 2 = .ok (.iload_n 2, 1) := by decide +kernel
theorem dX7_firstBy_3 : decode cX7_firstBy 3 = .ok (.aload_n 0, 1) := by decide +kernel
theorem dX7_firstBy_4 : decode cX7_firstBy 4 = .ok (.getfield 93, 3) := by decide +kernel
theorem dX7_firstBy_7 : decode cX7_firstBy 7 = .ok (.if_icmp .ge 20, 3) := by decide +kernel
theorem dX7_firstBy_10 : decode cX7_firstBy 10 = .ok (.aload_n 0, 1) := by decide +kernel
theorem dX7_firstBy_11 : decode cX7_firstBy 11 = .ok (.iload_n 2, 1) := by decide +kernel
theorem dX7_firstBy_12 : decode cX7_firstBy 12 = .ok (.iload_n 1, 1) := by decide +kernel
theorem dX7_firstBy_13 : decode cX7_firstBy 13 = .ok (.invokevirtual 124, 3) := by decide +kernel
theorem dX7_firstBy_16 : decode cX7_firstBy 16 = .ok (.ifCond .eq 5, 3) := by decide +kernel
theorem dX7_firstBy_19 : decode cX7_firstBy 19 = .ok (.iload_n 2, 1) := by decide +kernel
theorem dX7_firstBy_20 : decode cX7_firstBy 20 = .ok (.ireturn, 1) := by decide +kernel
theorem dX7_firstBy_21 : decode cX7_firstBy 21 = .ok (.iinc 2 1, 3) := by decide +kernel
theorem dX7_firstBy_24 : decode cX7_firstBy 24 = .ok (.goto (-22), 3) := by decide +kernel
theorem dX7_firstBy_27 : decode cX7_firstBy 27 = .ok (.ldc 127, 2) := by decide +kernel
theorem dX7_firstBy_29 : decode cX7_firstBy 29 = .ok (.ireturn, 1) := by decide +kernel
theorem dX7_isNew_0 : decode cX7_isNew 0 = .ok (.aload_n 0, 1) := by decide +kernel
theorem dX7_isNew_1 : decode cX7_isNew 1 = .ok (.iload_n 1, 1) := by decide +kernel
theorem dX7_isNew_2 : decode cX7_isNew 2 = .ok (.invokevirtual 128, 3) := by decide +kernel
theorem dX7_isNew_5 : decode cX7_isNew 5 = .ok (.ifCond .ge 7, 3) := by decide +kernel
theorem dX7_isNew_8 : decode cX7_isNew 8 = .ok (.iconst 1, 1) := by decide +kernel
theorem dX7_isNew_9 : decode cX7_isNew 9 = .ok (.goto 4, 3) := by decide +kernel
theorem dX7_isNew_12 : decode cX7_isNew 12 = .ok (.iconst 0, 1) := by decide +kernel
theorem dX7_isNew_13 : decode cX7_isNew 13 = .ok (.ireturn, 1) := by decide +kernel
theorem dX7_of_0 : decode cX7_of 0 = .ok (.aload_n 0, 1) := by decide +kernel
theorem dX7_of_1 : decode cX7_of 1 = .ok (.iload_n 1, 1) := by decide +kernel
theorem dX7_of_2 : decode cX7_of 2 = .ok (.invokevirtual 131, 3) := by decide +kernel
theorem dX7_of_5 : decode cX7_of 5 = .ok (.ifCond .eq 12, 3) := by decide +kernel
theorem dX7_of_8 : decode cX7_of 8 = .ok (.iload_n 2, 1) := by decide +kernel
theorem dX7_of_9 : decode cX7_of 9 = .ok (.iconst 0, 1) := by decide +kernel
theorem dX7_of_10 : decode cX7_of 10 = .ok (.iconst 5, 1) := by decide +kernel
theorem dX7_of_11 : decode cX7_of 11 = .ok (.invokestatic 86, 3) := by decide +kernel
theorem dX7_of_14 : decode cX7_of 14 = .ok (.ifCond .ne 10, 3) := by decide +kernel
theorem dX7_of_17 : decode cX7_of 17 = .ok (.aload_n 0, 1) := by decide +kernel
theorem dX7_of_18 : decode cX7_of 18 = .ok (.ldc 85, 2) := by decide +kernel
theorem dX7_of_20 : decode cX7_of 20 = .ok (.invokevirtual 104, 3) := by decide +kernel
theorem dX7_of_23 : decode cX7_of 23 = .ok (.ireturn, 1) := by decide +kernel
theorem dX7_of_24 : decode cX7_of 24 = .ok (.iload_n 2, 1) := by decide +kernel
theorem dX7_of_25 : decode cX7_of 25 = .ok (.tableswitch 70 0 4 #[35, 40, 45, 50, 56], 35) := by decide +kernel
theorem dX7_of_60 : decode cX7_of 60 = .ok (.iload_n 1, 1) := by decide +kernel
theorem dX7_of_61 : decode cX7_of 61 = .ok (.invokestatic 90, 3) := by decide +kernel
theorem dX7_of_64 : decode cX7_of 64 = .ok (.ireturn, 1) := by decide +kernel
theorem dX7_of_65 : decode cX7_of 65 = .ok (.iload_n 1, 1) := by decide +kernel
theorem dX7_of_66 : decode cX7_of 66 = .ok (.invokestatic 114, 3) := by decide +kernel
theorem dX7_of_69 : decode cX7_of 69 = .ok (.ireturn, 1) := by decide +kernel
theorem dX7_of_70 : decode cX7_of 70 = .ok (.iload_n 1, 1) := by decide +kernel
theorem dX7_of_71 : decode cX7_of 71 = .ok (.invokestatic 117, 3) := by decide +kernel
theorem dX7_of_74 : decode cX7_of 74 = .ok (.ireturn, 1) := by decide +kernel
theorem dX7_of_75 : decode cX7_of 75 = .ok (.aload_n 0, 1) := by decide +kernel
theorem dX7_of_76 : decode cX7_of 76 = .ok (.iload_n 1, 1) := by decide +kernel
theorem dX7_of_77 : decode cX7_of 77 = .ok (.invokevirtual 134, 3) := by decide +kernel
theorem dX7_of_80 : decode cX7_of 80 = .ok (.ireturn, 1) := by decide +kernel
theorem dX7_of_81 : decode cX7_of 81 = .ok (.aload_n 0, 1) := by decide +kernel
theorem dX7_of_82 : decode cX7_of 82 = .ok (.iload_n 1, 1) := by decide +kernel
theorem dX7_of_83 : decode cX7_of 83 = .ok (.invokevirtual 137, 3) := by decide +kernel
theorem dX7_of_86 : decode cX7_of 86 = .ok (.ifCond .eq 7, 3) := by decide +kernel
theorem dX7_of_89 : decode cX7_of 89 = .ok (.iconst 1, 1) := by decide +kernel
theorem dX7_of_90 : decode cX7_of 90 = .ok (.goto 4, 3) := by decide +kernel
theorem dX7_of_93 : decode cX7_of 93 = .ok (.iconst 0, 1) := by decide +kernel
theorem dX7_of_94 : decode cX7_of 94 = .ok (.ireturn, 1) := by decide +kernel
theorem dX7_of_95 : decode cX7_of 95 = .ok (.aload_n 0, 1) := by decide +kernel
theorem dX7_of_96 : decode cX7_of 96 = .ok (.iload_n 1, 1) := by decide +kernel
theorem dX7_of_97 : decode cX7_of 97 = .ok (.invokevirtual 140, 3) := by decide +kernel
theorem dX7_of_100 : decode cX7_of 100 = .ok (.ifCond .eq 7, 3) := by decide +kernel
theorem dX7_of_103 : decode cX7_of 103 = .ok (.iconst 1, 1) := by decide +kernel
theorem dX7_of_104 : decode cX7_of 104 = .ok (.goto 4, 3) := by decide +kernel
theorem dX7_of_107 : decode cX7_of 107 = .ok (.iconst 0, 1) := by decide +kernel
theorem dX7_of_108 : decode cX7_of 108 = .ok (.ireturn, 1) := by decide +kernel
theorem dX7_nearOf_0 : decode cX7_nearOf 0 = .ok (.iload_n 0, 1) := by decide +kernel
theorem dX7_nearOf_1 : decode cX7_nearOf 1 = .ok (.invokestatic 90, 3) := by decide +kernel
theorem dX7_nearOf_4 : decode cX7_nearOf 4 = .ok (.iload_n 1, 1) := by decide +kernel
theorem dX7_nearOf_5 : decode cX7_nearOf 5 = .ok (.invokestatic 90, 3) := by decide +kernel
theorem dX7_nearOf_8 : decode cX7_nearOf 8 = .ok (.ixor, 1) := by decide +kernel
theorem dX7_nearOf_9 : decode cX7_nearOf 9 = .ok (.invokestatic 81, 3) := by decide +kernel
theorem dX7_nearOf_12 : decode cX7_nearOf 12 = .ok (.iload_n 0, 1) := by decide +kernel
theorem dX7_nearOf_13 : decode cX7_nearOf 13 = .ok (.invokestatic 114, 3) := by decide +kernel
theorem dX7_nearOf_16 : decode cX7_nearOf 16 = .ok (.iload_n 1, 1) := by decide +kernel
theorem dX7_nearOf_17 : decode cX7_nearOf 17 = .ok (.invokestatic 114, 3) := by decide +kernel
theorem dX7_nearOf_20 : decode cX7_nearOf 20 = .ok (.if_icmp .eq 7, 3) := by decide +kernel
theorem dX7_nearOf_23 : decode cX7_nearOf 23 = .ok (.iconst 1, 1) := by decide +kernel
theorem dX7_nearOf_24 : decode cX7_nearOf 24 = .ok (.goto 4, 3) := by decide +kernel
theorem dX7_nearOf_27 : decode cX7_nearOf 27 = .ok (.iconst 0, 1) := by decide +kernel
theorem dX7_nearOf_28 : decode cX7_nearOf 28 = .ok (.iadd, 1) := by decide +kernel
theorem dX7_nearOf_29 : decode cX7_nearOf 29 = .ok (.iload_n 0, 1) := by decide +kernel
theorem dX7_nearOf_30 : decode cX7_nearOf 30 = .ok (.invokestatic 117, 3) := by decide +kernel
theorem dX7_nearOf_33 : decode cX7_nearOf 33 = .ok (.iload_n 1, 1) := by decide +kernel
theorem dX7_nearOf_34 : decode cX7_nearOf 34 = .ok (.invokestatic 117, 3) := by decide +kernel
theorem dX7_nearOf_37 : decode cX7_nearOf 37 = .ok (.if_icmp .eq 7, 3) := by decide +kernel
theorem dX7_nearOf_40 : decode cX7_nearOf 40 = .ok (.iconst 1, 1) := by decide +kernel
theorem dX7_nearOf_41 : decode cX7_nearOf 41 = .ok (.goto 4, 3) := by decide +kernel
theorem dX7_nearOf_44 : decode cX7_nearOf 44 = .ok (.iconst 0, 1) := by decide +kernel
theorem dX7_nearOf_45 : decode cX7_nearOf 45 = .ok (.iadd, 1) := by decide +kernel
theorem dX7_nearOf_46 : decode cX7_nearOf 46 = .ok (.ireturn, 1) := by decide +kernel
theorem dX7_near_0 : decode cX7_near 0 = .ok (.aload_n 0, 1) := by decide +kernel
theorem dX7_near_1 : decode cX7_near 1 = .ok (.iload_n 1, 1) := by decide +kernel
theorem dX7_near_2 : decode cX7_near 2 = .ok (.invokevirtual 131, 3) := by decide +kernel
theorem dX7_near_5 : decode cX7_near 5 = .ok (.ifCond .eq 19, 3) := by decide +kernel
theorem dX7_near_8 : decode cX7_near 8 = .ok (.aload_n 0, 1) := by decide +kernel
theorem dX7_near_9 : decode cX7_near 9 = .ok (.iload_n 2, 1) := by decide +kernel
theorem dX7_near_10 : decode cX7_near 10 = .ok (.invokevirtual 131, 3) := by decide +kernel
theorem dX7_near_13 : decode cX7_near 13 = .ok (.ifCond .eq 11, 3) := by decide +kernel
theorem dX7_near_16 : decode cX7_near 16 = .ok (.iload_n 1, 1) := by decide +kernel
theorem dX7_near_17 : decode cX7_near 17 = .ok (.iload_n 2, 1) := by decide +kernel
theorem dX7_near_18 : decode cX7_near 18 = .ok (.invokestatic 143, 3) := by decide +kernel
theorem dX7_near_21 : decode cX7_near 21 = .ok (.goto 9, 3) := by decide +kernel
theorem dX7_near_24 : decode cX7_near 24 = .ok (.aload_n 0, 1) := by decide +kernel
theorem dX7_near_25 : decode cX7_near 25 = .ok (.ldc 85, 2) := by decide +kernel
theorem dX7_near_27 : decode cX7_near 27 = .ok (.invokevirtual 104, 3) := by decide +kernel
theorem dX7_near_30 : decode cX7_near 30 = .ok (.ireturn, 1) := by decide +kernel
theorem dX7_nearHad_0 : decode cX7_nearHad 0 = .ok (.aload_n 0, 1) := by decide +kernel
theorem dX7_nearHad_1 : decode cX7_nearHad 1 = .ok (.iload_n 1, 1) := by decide +kernel
theorem dX7_nearHad_2 : decode cX7_nearHad 2 = .ok (.invokevirtual 131, 3) := by decide +kernel
theorem dX7_nearHad_5 : decode cX7_nearHad 5 = .ok (.ifCond .eq 13, 3) := by decide +kernel
theorem dX7_nearHad_8 : decode cX7_nearHad 8 = .ok (.iload_n 2, 1) := by decide +kernel
theorem dX7_nearHad_9 : decode cX7_nearHad 9 = .ok (.iconst 0, 1) := by decide +kernel
theorem dX7_nearHad_10 : decode cX7_nearHad 10 = .ok (.bipush 8, 2) := by decide +kernel
theorem dX7_nearHad_12 : decode cX7_nearHad 12 = .ok (.invokestatic 86, 3) := by decide +kernel
theorem dX7_nearHad_15 : decode cX7_nearHad 15 = .ok (.ifCond .ne 10, 3) := by decide +kernel
theorem dX7_nearHad_18 : decode cX7_nearHad 18 = .ok (.aload_n 0, 1) := by decide +kernel
theorem dX7_nearHad_19 : decode cX7_nearHad 19 = .ok (.ldc 85, 2) := by decide +kernel
theorem dX7_nearHad_21 : decode cX7_nearHad 21 = .ok (.invokevirtual 104, 3) := by decide +kernel
theorem dX7_nearHad_24 : decode cX7_nearHad 24 = .ok (.ireturn, 1) := by decide +kernel
theorem dX7_nearHad_25 : decode cX7_nearHad 25 = .ok (.iconst 0, 1) := by decide +kernel
theorem dX7_nearHad_26 : decode cX7_nearHad 26 = .ok (.istore_n 3, 1) := by decide +kernel
theorem dX7_nearHad_27 : decode cX7_nearHad 27 = .ok (.iconst 0, 1) := by decide +kernel
theorem dX7_nearHad_28 : decode cX7_nearHad 28 = .ok (.istore 4, 2) := by decide +kernel
theorem dX7_nearHad_30 : decode cX7_nearHad 30 = .ok (.iload 4, 2) := by decide +kernel
theorem dX7_nearHad_32 : decode cX7_nearHad 32 = .ok (.aload_n 0, 1) := by decide +kernel
theorem dX7_nearHad_33 : decode cX7_nearHad 33 = .ok (.getfield 93, 3) := by decide +kernel
theorem dX7_nearHad_36 : decode cX7_nearHad 36 = .ok (.if_icmp .ge 43, 3) := by decide +kernel
theorem dX7_nearHad_39 : decode cX7_nearHad 39 = .ok (.iload_n 3, 1) := by decide +kernel
theorem dX7_nearHad_40 : decode cX7_nearHad 40 = .ok (.aload_n 0, 1) := by decide +kernel
theorem dX7_nearHad_41 : decode cX7_nearHad 41 = .ok (.getfield 19, 3) := by decide +kernel
theorem dX7_nearHad_44 : decode cX7_nearHad 44 = .ok (.iload 4, 2) := by decide +kernel
theorem dX7_nearHad_46 : decode cX7_nearHad 46 = .ok (.iaload, 1) := by decide +kernel
theorem dX7_nearHad_47 : decode cX7_nearHad 47 = .ok (.iconst 2, 1) := by decide +kernel
theorem dX7_nearHad_48 : decode cX7_nearHad 48 = .ok (.if_icmp .eq 22, 3) := by decide +kernel
theorem dX7_nearHad_51 : decode cX7_nearHad 51 = .ok (.aload_n 0, 1) := by decide +kernel
theorem dX7_nearHad_52 : decode cX7_nearHad 52 = .ok (.getfield 22, 3) := by decide +kernel
theorem dX7_nearHad_55 : decode cX7_nearHad 55 = .ok (.iload 4, 2) := by decide +kernel
theorem dX7_nearHad_57 : decode cX7_nearHad 57 = .ok (.iaload, 1) := by decide +kernel
theorem dX7_nearHad_58 : decode cX7_nearHad 58 = .ok (.iload_n 1, 1) := by decide +kernel
theorem dX7_nearHad_59 : decode cX7_nearHad 59 = .ok (.invokestatic 143, 3) := by decide +kernel
theorem dX7_nearHad_62 : decode cX7_nearHad 62 = .ok (.iload_n 2, 1) := by decide +kernel
theorem dX7_nearHad_63 : decode cX7_nearHad 63 = .ok (.if_icmp .gt 7, 3) := by decide +kernel
theorem dX7_nearHad_66 : decode cX7_nearHad 66 = .ok (.iconst 1, 1) := by decide +kernel
theorem dX7_nearHad_67 : decode cX7_nearHad 67 = .ok (.goto 4, 3) := by decide +kernel
theorem dX7_nearHad_70 : decode cX7_nearHad 70 = .ok (.iconst 0, 1) := by decide +kernel
theorem dX7_nearHad_71 : decode cX7_nearHad 71 = .ok (.iadd, 1) := by decide +kernel
theorem dX7_nearHad_72 : decode cX7_nearHad 72 = .ok (.istore_n 3, 1) := by decide +kernel
theorem dX7_nearHad_73 : decode cX7_nearHad 73 = .ok (.iinc 4 1, 3) := by decide +kernel
theorem dX7_nearHad_76 : decode cX7_nearHad 76 = .ok (.goto (-46), 3) := by decide +kernel
theorem dX7_nearHad_79 : decode cX7_nearHad 79 = .ok (.iload_n 3, 1) := by decide +kernel
theorem dX7_nearHad_80 : decode cX7_nearHad 80 = .ok (.ireturn, 1) := by decide +kernel
theorem dX7_marks_0 : decode cX7_marks 0 = .ok (.iconst 0, 1) := by decide +kernel
theorem dX7_marks_1 : decode cX7_marks 1 = .ok (.istore_n 1, 1) := by decide +kernel
theorem dX7_marks_2 : decode cX7_marks 2 = .ok (.iload_n 1, 1) := by decide +kernel
theorem dX7_marks_3 : decode cX7_marks 3 = .ok (.sipush 1840, 3) := by decide +kernel
theorem dX7_marks_6 : decode cX7_marks 6 = .ok (.if_icmp .ge 16, 3) := by decide +kernel
theorem dX7_marks_9 : decode cX7_marks 9 = .ok (.aload_n 0, 1) := by decide +kernel
theorem dX7_marks_10 : decode cX7_marks 10 = .ok (.getfield 37, 3) := by decide +kernel
theorem dX7_marks_13 : decode cX7_marks 13 = .ok (.iload_n 1, 1) := by decide +kernel
theorem dX7_marks_14 : decode cX7_marks 14 = .ok (.iconst 0, 1) := by decide +kernel
theorem dX7_marks_15 : decode cX7_marks 15 = .ok (.bastore, 1) := by decide +kernel
theorem dX7_marks_16 : decode cX7_marks 16 = .ok (.iinc 1 1, 3) := by decide +kernel
theorem dX7_marks_19 : decode cX7_marks 19 = .ok (.goto (-17), 3) := by decide +kernel
theorem dX7_marks_22 : decode cX7_marks 22 = .ok (.iconst 0, 1) := by decide +kernel
theorem dX7_marks_23 : decode cX7_marks 23 = .ok (.istore_n 1, 1) := by decide +kernel
theorem dX7_marks_24 : decode cX7_marks 24 = .ok (.iload_n 1, 1) := by decide +kernel
theorem dX7_marks_25 : decode cX7_marks 25 = .ok (.aload_n 0, 1) := by decide +kernel
theorem dX7_marks_26 : decode cX7_marks 26 = .ok (.getfield 93, 3) := by decide +kernel
theorem dX7_marks_29 : decode cX7_marks 29 = .ok (.if_icmp .ge 14, 3) := by decide +kernel
theorem dX7_marks_32 : decode cX7_marks 32 = .ok (.aload_n 0, 1) := by decide +kernel
theorem dX7_marks_33 : decode cX7_marks 33 = .ok (.iload_n 1, 1) := by decide +kernel
theorem dX7_marks_34 : decode cX7_marks 34 = .ok (.invokevirtual 146, 3) := by decide +kernel
theorem dX7_marks_37 : decode cX7_marks 37 = .ok (.iinc 1 1, 3) := by decide +kernel
theorem dX7_marks_40 : decode cX7_marks 40 = .ok (.goto (-16), 3) := by decide +kernel
theorem dX7_marks_43 : decode cX7_marks 43 = .ok (.return_, 1) := by decide +kernel
theorem dX7_marksBy_0 : decode cX7_marksBy 0 = .ok (.aload_n 0, 1) := by decide +kernel
theorem dX7_marksBy_1 : decode cX7_marksBy 1 = .ok (.getfield 22, 3) := by decide +kernel
theorem dX7_marksBy_4 : decode cX7_marksBy 4 = .ok (.iload_n 1, 1) := by decide +kernel
theorem dX7_marksBy_5 : decode cX7_marksBy 5 = .ok (.iaload, 1) := by decide +kernel
theorem dX7_marksBy_6 : decode cX7_marksBy 6 = .ok (.invokestatic 90, 3) := by decide +kernel
theorem dX7_marksBy_9 : decode cX7_marksBy 9 = .ok (.istore_n 2, 1) := by decide +kernel
theorem dX7_marksBy_10 : decode cX7_marksBy 10 = .ok (.iconst 0, 1) := by decide +kernel
theorem dX7_marksBy_11 : decode cX7_marksBy 11 = .ok (.istore_n 3, 1) := by decide +kernel
theorem dX7_marksBy_12 : decode cX7_marksBy 12 = .ok (.iload_n 3, 1) := by decide +kernel
theorem dX7_marksBy_13 : decode cX7_marksBy 13 = .ok (.bipush 92, 2) := by decide +kernel
theorem dX7_marksBy_15 : decode cX7_marksBy 15 = .ok (.if_icmp .ge 96, 3) := by decide +kernel
theorem dX7_marksBy_18 : decode cX7_marksBy 18 = .ok (.aload_n 0, 1) := by decide +kernel
theorem dX7_marksBy_19 : decode cX7_marksBy 19 = .ok (.getfield 31, 3) := by decide +kernel
theorem dX7_marksBy_22 : decode cX7_marksBy 22 = .ok (.iload_n 3, 1) := by decide +kernel
theorem dX7_marksBy_23 : decode cX7_marksBy 23 = .ok (.iaload, 1) := by decide +kernel
theorem dX7_marksBy_24 : decode cX7_marksBy 24 = .ok (.iload_n 2, 1) := by decide +kernel
theorem dX7_marksBy_25 : decode cX7_marksBy 25 = .ok (.iand, 1) := by decide +kernel
theorem dX7_marksBy_26 : decode cX7_marksBy 26 = .ok (.istore 4, 2) := by decide +kernel
theorem dX7_marksBy_28 : decode cX7_marksBy 28 = .ok (.bipush 20, 2) := by decide +kernel
theorem dX7_marksBy_30 : decode cX7_marksBy 30 = .ok (.iload_n 3, 1) := by decide +kernel
theorem dX7_marksBy_31 : decode cX7_marksBy 31 = .ok (.imul, 1) := by decide +kernel
theorem dX7_marksBy_32 : decode cX7_marksBy 32 = .ok (.istore 5, 2) := by decide +kernel
theorem dX7_marksBy_34 : decode cX7_marksBy 34 = .ok (.iload 5, 2) := by decide +kernel
theorem dX7_marksBy_36 : decode cX7_marksBy 36 = .ok (.bipush 20, 2) := by decide +kernel
theorem dX7_marksBy_38 : decode cX7_marksBy 38 = .ok (.iload_n 3, 1) := by decide +kernel
theorem dX7_marksBy_39 : decode cX7_marksBy 39 = .ok (.imul, 1) := by decide +kernel
theorem dX7_marksBy_40 : decode cX7_marksBy 40 = .ok (.bipush 20, 2) := by decide +kernel
theorem dX7_marksBy_42 : decode cX7_marksBy 42 = .ok (.iadd, 1) := by decide +kernel
theorem dX7_marksBy_43 : decode cX7_marksBy 43 = .ok (.if_icmp .ge 62, 3) := by decide +kernel
theorem dX7_marksBy_46 : decode cX7_marksBy 46 = .ok (.iload 4, 2) := by decide +kernel
theorem dX7_marksBy_48 : decode cX7_marksBy 48 = .ok (.iload_n 2, 1) := by decide +kernel
theorem dX7_marksBy_49 : decode cX7_marksBy 49 = .ok (.if_icmp .eq 14, 3) := by decide +kernel
theorem dX7_marksBy_52 : decode cX7_marksBy 52 = .ok (.iload 4, 2) := by decide +kernel
theorem dX7_marksBy_54 : decode cX7_marksBy 54 = .ok (.aload_n 0, 1) := by decide +kernel
theorem dX7_marksBy_55 : decode cX7_marksBy 55 = .ok (.getfield 31, 3) := by decide +kernel
theorem dX7_marksBy_58 : decode cX7_marksBy 58 = .ok (.iload_n 3, 1) := by decide +kernel
theorem dX7_marksBy_59 : decode cX7_marksBy 59 = .ok (.iaload, 1) := by decide +kernel
theorem dX7_marksBy_60 : decode cX7_marksBy 60 = .ok (.if_icmp .ne 45, 3) := by decide +kernel
theorem dX7_marksBy_63 : decode cX7_marksBy 63 = .ok (.aload_n 0, 1) := by decide +kernel
theorem dX7_marksBy_64 : decode cX7_marksBy 64 = .ok (.getfield 37, 3) := by decide +kernel
theorem dX7_marksBy_67 : decode cX7_marksBy 67 = .ok (.iload 5, 2) := by decide +kernel
theorem dX7_marksBy_69 : decode cX7_marksBy 69 = .ok (.aload_n 0, 1) := by decide +kernel
theorem dX7_marksBy_70 : decode cX7_marksBy 70 = .ok (.getfield 37, 3) := by decide +kernel
theorem dX7_marksBy_73 : decode cX7_marksBy 73 = .ok (.iload 5, 2) := by decide +kernel
theorem dX7_marksBy_75 : decode cX7_marksBy 75 = .ok (.baload, 1) := by decide +kernel
theorem dX7_marksBy_76 : decode cX7_marksBy 76 = .ok (.ifCond .ne 17, 3) := by decide +kernel
theorem dX7_marksBy_79 : decode cX7_marksBy 79 = .ok (.aload_n 0, 1) := by decide +kernel
theorem dX7_marksBy_80 : decode cX7_marksBy 80 = .ok (.iload_n 1, 1) := by decide +kernel
theorem dX7_marksBy_81 : decode cX7_marksBy 81 = .ok (.aload_n 0, 1) := by decide +kernel
theorem dX7_marksBy_82 : decode cX7_marksBy 82 = .ok (.iload 5, 2) := by decide +kernel
theorem dX7_marksBy_84 : decode cX7_marksBy 84 = .ok (.invokevirtual 150, 3) := by decide +kernel
theorem dX7_marksBy_87 : decode cX7_marksBy 87 = .ok (.invokevirtual 124, 3) := by decide +kernel
theorem dX7_marksBy_90 : decode cX7_marksBy 90 = .ok (.ifCond .eq 7, 3) := by decide +kernel
theorem dX7_marksBy_93 : decode cX7_marksBy 93 = .ok (.iconst 1, 1) := by decide +kernel
theorem dX7_marksBy_94 : decode cX7_marksBy 94 = .ok (.goto 4, 3) := by decide +kernel
theorem dX7_marksBy_97 : decode cX7_marksBy 97 = .ok (.iconst 0, 1) := by decide +kernel
theorem dX7_marksBy_98 : decode cX7_marksBy 98 = .ok (.bastore, 1) := by decide +kernel
theorem dX7_marksBy_99 : decode cX7_marksBy 99 = .ok (.iinc 5 1, 3) := by decide +kernel
theorem dX7_marksBy_102 : decode cX7_marksBy 102 = .ok (.goto (-68), 3) := by decide +kernel
theorem dX7_marksBy_105 : decode cX7_marksBy 105 = .ok (.iinc 3 1, 3) := by decide +kernel
theorem dX7_marksBy_108 : decode cX7_marksBy 108 = .ok (.goto (-96), 3) := by decide +kernel
theorem dX7_marksBy_111 : decode cX7_marksBy 111 = .ok (.return_, 1) := by decide +kernel
theorem dX7_isGood_0 : decode cX7_isGood 0 = .ok (.aload_n 0, 1) := by decide +kernel
theorem dX7_isGood_1 : decode cX7_isGood 1 = .ok (.getfield 37, 3) := by decide +kernel
theorem dX7_isGood_4 : decode cX7_isGood 4 = .ok (.iload_n 1, 1) := by decide +kernel
theorem dX7_isGood_5 : decode cX7_isGood 5 = .ok (.baload, 1) := by decide +kernel
theorem dX7_isGood_6 : decode cX7_isGood 6 = .ok (.ifCond .ne 19, 3) := by decide +kernel
theorem dX7_isGood_9 : decode cX7_isGood 9 = .ok (.aload_n 0, 1) := by decide +kernel
theorem dX7_isGood_10 : decode cX7_isGood 10 = .ok (.aload_n 0, 1) := by decide +kernel
theorem dX7_isGood_11 : decode cX7_isGood 11 = .ok (.iload_n 1, 1) := by decide +kernel
theorem dX7_isGood_12 : decode cX7_isGood 12 = .ok (.invokevirtual 150, 3) := by decide +kernel
theorem dX7_isGood_15 : decode cX7_isGood 15 = .ok (.invokevirtual 137, 3) := by decide +kernel
theorem dX7_isGood_18 : decode cX7_isGood 18 = .ok (.ifCond .eq 7, 3) := by decide +kernel
theorem dX7_isGood_21 : decode cX7_isGood 21 = .ok (.iconst 1, 1) := by decide +kernel
theorem dX7_isGood_22 : decode cX7_isGood 22 = .ok (.goto 4, 3) := by decide +kernel
theorem dX7_isGood_25 : decode cX7_isGood 25 = .ok (.iconst 0, 1) := by decide +kernel
theorem dX7_isGood_26 : decode cX7_isGood 26 = .ok (.ireturn, 1) := by decide +kernel
theorem dX7_newMany_0 : decode cX7_newMany 0 = .ok (.aload_n 0, 1) := by decide +kernel
theorem dX7_newMany_1 : decode cX7_newMany 1 = .ok (.invokevirtual 153, 3) := by decide +kernel
theorem dX7_newMany_4 : decode cX7_newMany 4 = .ok (.iconst 0, 1) := by decide +kernel
theorem dX7_newMany_5 : decode cX7_newMany 5 = .ok (.istore_n 1, 1) := by decide +kernel
theorem dX7_newMany_6 : decode cX7_newMany 6 = .ok (.iconst 0, 1) := by decide +kernel
theorem dX7_newMany_7 : decode cX7_newMany 7 = .ok (.istore_n 2, 1) := by decide +kernel
theorem dX7_newMany_8 : decode cX7_newMany 8 = .ok (.iload_n 2, 1) := by decide +kernel
theorem dX7_newMany_9 : decode cX7_newMany 9 = .ok (.sipush 1840, 3) := by decide +kernel
theorem dX7_newMany_12 : decode cX7_newMany 12 = .ok (.if_icmp .ge 26, 3) := by decide +kernel
theorem dX7_newMany_15 : decode cX7_newMany 15 = .ok (.iload_n 1, 1) := by decide +kernel
theorem dX7_newMany_16 : decode cX7_newMany 16 = .ok (.aload_n 0, 1) := by decide +kernel
theorem dX7_newMany_17 : decode cX7_newMany 17 = .ok (.getfield 37, 3) := by decide +kernel
theorem dX7_newMany_20 : decode cX7_newMany 20 = .ok (.iload_n 2, 1) := by decide +kernel
theorem dX7_newMany_21 : decode cX7_newMany 21 = .ok (.baload, 1) := by decide +kernel
theorem dX7_newMany_22 : decode cX7_newMany 22 = .ok (.ifCond .eq 7, 3) := by decide +kernel
theorem dX7_newMany_25 : decode cX7_newMany 25 = .ok (.iconst 0, 1) := by decide +kernel
theorem dX7_newMany_26 : decode cX7_newMany 26 = .ok (.goto 4, 3) := by decide +kernel
theorem dX7_newMany_29 : decode cX7_newMany 29 = .ok (.iconst 1, 1) := by decide +kernel
theorem dX7_newMany_30 : decode cX7_newMany 30 = .ok (.iadd, 1) := by decide +kernel
theorem dX7_newMany_31 : decode cX7_newMany 31 = .ok (.istore_n 1, 1) := by decide +kernel
theorem dX7_newMany_32 : decode cX7_newMany 32 = .ok (.iinc 2 1, 3) := by decide +kernel
theorem dX7_newMany_35 : decode cX7_newMany 35 = .ok (.goto (-27), 3) := by decide +kernel
theorem dX7_newMany_38 : decode cX7_newMany 38 = .ok (.iload_n 1, 1) := by decide +kernel
theorem dX7_newMany_39 : decode cX7_newMany 39 = .ok (.ireturn, 1) := by decide +kernel
theorem dX7_many_0 : decode cX7_many 0 = .ok (.iload_n 1, 1) := by decide +kernel
theorem dX7_many_1 : decode cX7_many 1 = .ok (.iconst 0, 1) := by decide +kernel
theorem dX7_many_2 : decode cX7_many 2 = .ok (.iconst 3, 1) := by decide +kernel
theorem dX7_many_3 : decode cX7_many 3 = .ok (.invokestatic 86, 3) := by decide +kernel
theorem dX7_many_6 : decode cX7_many 6 = .ok (.ifCond .ne 10, 3) := by decide +kernel
theorem dX7_many_9 : decode cX7_many 9 = .ok (.aload_n 0, 1) := by decide +kernel
theorem dX7_many_10 : decode cX7_many 10 = .ok (.ldc 85, 2) := by decide +kernel
theorem dX7_many_12 : decode cX7_many 12 = .ok (.invokevirtual 104, 3) := by decide +kernel
theorem dX7_many_15 : decode cX7_many 15 = .ok (.ireturn, 1) := by decide +kernel
theorem dX7_many_16 : decode cX7_many 16 = .ok (.aload_n 0, 1) := by decide +kernel
theorem dX7_many_17 : decode cX7_many 17 = .ok (.invokevirtual 153, 3) := by decide +kernel
theorem dX7_many_20 : decode cX7_many 20 = .ok (.iconst 0, 1) := by decide +kernel
theorem dX7_many_21 : decode cX7_many 21 = .ok (.istore_n 2, 1) := by decide +kernel
theorem dX7_many_22 : decode cX7_many 22 = .ok (.iconst 0, 1) := by decide +kernel
theorem dX7_many_23 : decode cX7_many 23 = .ok (.istore_n 3, 1) := by decide +kernel
theorem dX7_many_24 : decode cX7_many 24 = .ok (.iload_n 3, 1) := by decide +kernel
theorem dX7_many_25 : decode cX7_many 25 = .ok (.sipush 1840, 3) := by decide +kernel
theorem dX7_many_28 : decode cX7_many 28 = .ok (.if_icmp .ge 112, 3) := by decide +kernel
theorem dX7_many_31 : decode cX7_many 31 = .ok (.aload_n 0, 1) := by decide +kernel
theorem dX7_many_32 : decode cX7_many 32 = .ok (.aload_n 0, 1) := by decide +kernel
theorem dX7_many_33 : decode cX7_many 33 = .ok (.iload_n 3, 1) := by decide +kernel
theorem dX7_many_34 : decode cX7_many 34 = .ok (.invokevirtual 150, 3) := by decide +kernel
theorem dX7_many_37 : decode cX7_many 37 = .ok (.invokevirtual 137, 3) := by decide +kernel
theorem dX7_many_40 : decode cX7_many 40 = .ok (.istore 4, 2) := by decide +kernel
theorem dX7_many_42 : decode cX7_many 42 = .ok (.iload_n 1, 1) := by decide +kernel
theorem dX7_many_43 : decode cX7_many 43 = .ok (.ifCond .ne 8, 3) := by decide +kernel
theorem dX7_many_46 : decode cX7_many 46 = .ok (.iload 4, 2) := by decide +kernel
theorem dX7_many_48 : decode cX7_many 48 = .ok (.goto 71, 3) := by decide +kernel
theorem dX7_many_51 : decode cX7_many 51 = .ok (.iload_n 1, 1) := by decide +kernel
theorem dX7_many_52 : decode cX7_many 52 = .ok (.iconst 1, 1) := by decide +kernel
theorem dX7_many_53 : decode cX7_many 53 = .ok (.if_icmp .ne 20, 3) := by decide +kernel
theorem dX7_many_56 : decode cX7_many 56 = .ok (.aload_n 0, 1) := by decide +kernel
theorem dX7_many_57 : decode cX7_many 57 = .ok (.getfield 37, 3) := by decide +kernel
theorem dX7_many_60 : decode cX7_many 60 = .ok (.iload_n 3, 1) := by decide +kernel
theorem dX7_many_61 : decode cX7_many 61 = .ok (.baload, 1) := by decide +kernel
theorem dX7_many_62 : decode cX7_many 62 = .ok (.ifCond .ne 7, 3) := by decide +kernel
theorem dX7_many_65 : decode cX7_many 65 = .ok (.iconst 1, 1) := by decide +kernel
theorem dX7_many_66 : decode cX7_many 66 = .ok (.goto 53, 3) := by decide +kernel
theorem dX7_many_69 : decode cX7_many 69 = .ok (.iconst 0, 1) := by decide +kernel
theorem dX7_many_70 : decode cX7_many 70 = .ok (.goto 49, 3) := by decide +kernel
theorem dX7_many_73 : decode cX7_many 73 = .ok (.iload_n 1, 1) := by decide +kernel
theorem dX7_many_74 : decode cX7_many 74 = .ok (.iconst 2, 1) := by decide +kernel
theorem dX7_many_75 : decode cX7_many 75 = .ok (.if_icmp .ne 25, 3) := by decide +kernel
theorem dX7_many_78 : decode cX7_many 78 = .ok (.iload 4, 2) := by decide +kernel
theorem dX7_many_80 : decode cX7_many 80 = .ok (.ifCond .eq 16, 3) := by decide +kernel
theorem dX7_many_83 : decode cX7_many 83 = .ok (.aload_n 0, 1) := by decide +kernel
theorem dX7_many_84 : decode cX7_many 84 = .ok (.getfield 37, 3) := by decide +kernel
theorem dX7_many_87 : decode cX7_many 87 = .ok (.iload_n 3, 1) := by decide +kernel
theorem dX7_many_88 : decode cX7_many 88 = .ok (.baload, 1) := by decide +kernel
theorem dX7_many_89 : decode cX7_many 89 = .ok (.ifCond .ne 7, 3) := by decide +kernel
theorem dX7_many_92 : decode cX7_many 92 = .ok (.iconst 1, 1) := by decide +kernel
theorem dX7_many_93 : decode cX7_many 93 = .ok (.goto 26, 3) := by decide +kernel
theorem dX7_many_96 : decode cX7_many 96 = .ok (.iconst 0, 1) := by decide +kernel
theorem dX7_many_97 : decode cX7_many 97 = .ok (.goto 22, 3) := by decide +kernel
theorem dX7_many_100 : decode cX7_many 100 = .ok (.iload 4, 2) := by decide +kernel
theorem dX7_many_102 : decode cX7_many 102 = .ok (.ifCond .ne 16, 3) := by decide +kernel
theorem dX7_many_105 : decode cX7_many 105 = .ok (.aload_n 0, 1) := by decide +kernel
theorem dX7_many_106 : decode cX7_many 106 = .ok (.getfield 37, 3) := by decide +kernel
theorem dX7_many_109 : decode cX7_many 109 = .ok (.iload_n 3, 1) := by decide +kernel
theorem dX7_many_110 : decode cX7_many 110 = .ok (.baload, 1) := by decide +kernel
theorem dX7_many_111 : decode cX7_many 111 = .ok (.ifCond .eq 7, 3) := by decide +kernel
theorem dX7_many_114 : decode cX7_many 114 = .ok (.iconst 1, 1) := by decide +kernel
theorem dX7_many_115 : decode cX7_many 115 = .ok (.goto 4, 3) := by decide +kernel
theorem dX7_many_118 : decode cX7_many 118 = .ok (.iconst 0, 1) := by decide +kernel
theorem dX7_many_119 : decode cX7_many 119 = .ok (.istore 5, 2) := by decide +kernel
theorem dX7_many_121 : decode cX7_many 121 = .ok (.iload_n 2, 1) := by decide +kernel
theorem dX7_many_122 : decode cX7_many 122 = .ok (.iload 5, 2) := by decide +kernel
theorem dX7_many_124 : decode cX7_many 124 = .ok (.ifCond .eq 7, 3) := by decide +kernel
theorem dX7_many_127 : decode cX7_many 127 = .ok (.iconst 1, 1) := by decide +kernel
theorem dX7_many_128 : decode cX7_many 128 = .ok (.goto 4, 3) := by decide +kernel
theorem dX7_many_131 : decode cX7_many 131 = .ok (.iconst 0, 1) := by decide +kernel
theorem dX7_many_132 : decode cX7_many 132 = .ok (.iadd, 1) := by decide +kernel
theorem dX7_many_133 : decode cX7_many 133 = .ok (.istore_n 2, 1) := by decide +kernel
theorem dX7_many_134 : decode cX7_many 134 = .ok (.iinc 3 1, 3) := by decide +kernel
theorem dX7_many_137 : decode cX7_many 137 = .ok (.goto (-113), 3) := by decide +kernel
theorem dX7_many_140 : decode cX7_many 140 = .ok (.iload_n 2, 1) := by decide +kernel
theorem dX7_many_141 : decode cX7_many 141 = .ok (.ireturn, 1) := by decide +kernel
theorem dX7_next_0 : decode cX7_next 0 = .ok (.iload_n 1, 1) := by decide +kernel
theorem dX7_next_1 : decode cX7_next 1 = .ok (.ifCond .ge 10, 3) := by decide +kernel
theorem dX7_next_4 : decode cX7_next 4 = .ok (.aload_n 0, 1) := by decide +kernel
theorem dX7_next_5 : decode cX7_next 5 = .ok (.ldc 85, 2) := by decide +kernel
theorem dX7_next_7 : decode cX7_next 7 = .ok (.invokevirtual 104, 3) := by decide +kernel
theorem dX7_next_10 : decode cX7_next 10 = .ok (.ireturn, 1) := by decide +kernel
theorem dX7_next_11 : decode cX7_next 11 = .ok (.aload_n 0, 1) := by decide +kernel
theorem dX7_next_12 : decode cX7_next 12 = .ok (.invokevirtual 153, 3) := by decide +kernel
theorem dX7_next_15 : decode cX7_next 15 = .ok (.iconst 0, 1) := by decide +kernel
theorem dX7_next_16 : decode cX7_next 16 = .ok (.istore_n 2, 1) := by decide +kernel
theorem dX7_next_17 : decode cX7_next 17 = .ok (.iload_n 2, 1) := by decide +kernel
theorem dX7_next_18 : decode cX7_next 18 = .ok (.sipush 1840, 3) := by decide +kernel
theorem dX7_next_21 : decode cX7_next 21 = .ok (.if_icmp .ge 32, 3) := by decide +kernel
theorem dX7_next_24 : decode cX7_next 24 = .ok (.aload_n 0, 1) := by decide +kernel
theorem dX7_next_25 : decode cX7_next 25 = .ok (.iload_n 2, 1) := by decide +kernel
theorem dX7_next_26 : decode cX7_next 26 = .ok (.invokevirtual 150, 3) := by decide +kernel
theorem dX7_next_29 : decode cX7_next 29 = .ok (.iload_n 1, 1) := by decide +kernel
theorem dX7_next_30 : decode cX7_next 30 = .ok (.if_icmp .lt 17, 3) := by decide +kernel
theorem dX7_next_33 : decode cX7_next 33 = .ok (.aload_n 0, 1) := by decide +kernel
theorem dX7_next_34 : decode cX7_next 34 = .ok (.iload_n 2, 1) := by decide +kernel
theorem dX7_next_35 : decode cX7_next 35 = .ok (.invokevirtual 156, 3) := by decide +kernel
theorem dX7_next_38 : decode cX7_next 38 = .ok (.ifCond .eq 9, 3) := by decide +kernel
theorem dX7_next_41 : decode cX7_next 41 = .ok (.aload_n 0, 1) := by decide +kernel
theorem dX7_next_42 : decode cX7_next 42 = .ok (.iload_n 2, 1) := by decide +kernel
theorem dX7_next_43 : decode cX7_next 43 = .ok (.invokevirtual 150, 3) := by decide +kernel
theorem dX7_next_46 : decode cX7_next 46 = .ok (.ireturn, 1) := by decide +kernel
theorem dX7_next_47 : decode cX7_next 47 = .ok (.iinc 2 1, 3) := by decide +kernel
theorem dX7_next_50 : decode cX7_next 50 = .ok (.goto (-33), 3) := by decide +kernel
theorem dX7_next_53 : decode cX7_next 53 = .ok (.aload_n 0, 1) := by decide +kernel
theorem dX7_next_54 : decode cX7_next 54 = .ok (.ldc 127, 2) := by decide +kernel
theorem dX7_next_56 : decode cX7_next 56 = .ok (.invokevirtual 104, 3) := by decide +kernel
theorem dX7_next_59 : decode cX7_next 59 = .ok (.ireturn, 1) := by decide +kernel
theorem dX7_addEntry_0 : decode cX7_addEntry 0 = .ok (.aload_n 0, 1) := by decide +kernel
theorem dX7_addEntry_1 : decode cX7_addEntry 1 = .ok (.getfield 19, 3) := by decide +kernel
theorem dX7_addEntry_4 : decode cX7_addEntry 4 = .ok (.aload_n 0, 1) := by decide +kernel
theorem dX7_addEntry_5 : decode cX7_addEntry 5 = .ok (.getfield 93, 3) := by decide +kernel
theorem dX7_addEntry_8 : decode cX7_addEntry 8 = .ok (.iload_n 1, 1) := by decide +kernel
theorem dX7_addEntry_9 : decode cX7_addEntry 9 = .ok (.iastore, 1) := by decide +kernel
theorem dX7_addEntry_10 : decode cX7_addEntry 10 = .ok (.aload_n 0, 1) := by decide +kernel
theorem dX7_addEntry_11 : decode cX7_addEntry 11 = .ok (.getfield 22, 3) := by decide +kernel
theorem dX7_addEntry_14 : decode cX7_addEntry 14 = .ok (.aload_n 0, 1) := by decide +kernel
theorem dX7_addEntry_15 : decode cX7_addEntry 15 = .ok (.getfield 93, 3) := by decide +kernel
theorem dX7_addEntry_18 : decode cX7_addEntry 18 = .ok (.iload_n 2, 1) := by decide +kernel
theorem dX7_addEntry_19 : decode cX7_addEntry 19 = .ok (.iastore, 1) := by decide +kernel
theorem dX7_addEntry_20 : decode cX7_addEntry 20 = .ok (.aload_n 0, 1) := by decide +kernel
theorem dX7_addEntry_21 : decode cX7_addEntry 21 = .ok (.getfield 25, 3) := by decide +kernel
theorem dX7_addEntry_24 : decode cX7_addEntry 24 = .ok (.aload_n 0, 1) := by decide +kernel
theorem dX7_addEntry_25 : decode cX7_addEntry 25 = .ok (.getfield 93, 3) := by decide +kernel
theorem dX7_addEntry_28 : decode cX7_addEntry 28 = .ok (.iload_n 3, 1) := by decide +kernel
theorem dX7_addEntry_29 : decode cX7_addEntry 29 = .ok (.iastore, 1) := by decide +kernel
theorem dX7_addEntry_30 : decode cX7_addEntry 30 = .ok (.aload_n 0, 1) := by decide +kernel
theorem dX7_addEntry_31 : decode cX7_addEntry 31 = .ok (.dup, 1) := by decide +kernel
theorem dX7_addEntry_32 : decode cX7_addEntry 32 = .ok (.getfield 93, 3) := by decide +kernel
theorem dX7_addEntry_35 : decode cX7_addEntry 35 = .ok (.iconst 1, 1) := by decide +kernel
theorem dX7_addEntry_36 : decode cX7_addEntry 36 = .ok (.iadd, 1) := by decide +kernel
theorem dX7_addEntry_37 : decode cX7_addEntry 37 = .ok (.putfield 93, 3) := by decide +kernel
theorem dX7_addEntry_40 : decode cX7_addEntry 40 = .ok (.return_, 1) := by decide +kernel
theorem dX7_enter_0 : decode cX7_enter 0 = .ok (.iload_n 1, 1) := by decide +kernel
theorem dX7_enter_1 : decode cX7_enter 1 = .ok (.invokestatic 159, 3) := by decide +kernel
theorem dX7_enter_4 : decode cX7_enter 4 = .ok (.ifCond .eq 11, 3) := by decide +kernel
theorem dX7_enter_7 : decode cX7_enter 7 = .ok (.aload_n 0, 1) := by decide +kernel
theorem dX7_enter_8 : decode cX7_enter 8 = .ok (.iload_n 2, 1) := by decide +kernel
theorem dX7_enter_9 : decode cX7_enter 9 = .ok (.invokevirtual 131, 3) := by decide +kernel
theorem dX7_enter_12 : decode cX7_enter 12 = .ok (.ifCond .ne 10, 3) := by decide +kernel
theorem dX7_enter_15 : decode cX7_enter 15 = .ok (.aload_n 0, 1) := by decide +kernel
theorem dX7_enter_16 : decode cX7_enter 16 = .ok (.ldc 85, 2) := by decide +kernel
theorem dX7_enter_18 : decode cX7_enter 18 = .ok (.invokevirtual 104, 3) := by decide +kernel
theorem dX7_enter_21 : decode cX7_enter 21 = .ok (.ireturn, 1) := by decide +kernel
theorem dX7_enter_22 : decode cX7_enter 22 = .ok (.aload_n 0, 1) := by decide +kernel
theorem dX7_enter_23 : decode cX7_enter 23 = .ok (.getfield 93, 3) := by decide +kernel
theorem dX7_enter_26 : decode cX7_enter 26 = .ok (.bipush 30, 2) := by decide +kernel
theorem dX7_enter_28 : decode cX7_enter 28 = .ok (.if_icmp .ne 10, 3) := by decide +kernel
theorem dX7_enter_31 : decode cX7_enter 31 = .ok (.aload_n 0, 1) := by decide +kernel
theorem dX7_enter_32 : decode cX7_enter 32 = .ok (.ldc 162, 2) := by decide +kernel
theorem dX7_enter_34 : decode cX7_enter 34 = .ok (.invokevirtual 104, 3) := by decide +kernel
theorem dX7_enter_37 : decode cX7_enter 37 = .ok (.ireturn, 1) := by decide +kernel
theorem dX7_enter_38 : decode cX7_enter 38 = .ok (.aload_n 0, 1) := by decide +kernel
theorem dX7_enter_39 : decode cX7_enter 39 = .ok (.iload_n 1, 1) := by decide +kernel
theorem dX7_enter_40 : decode cX7_enter 40 = .ok (.iload_n 2, 1) := by decide +kernel
theorem dX7_enter_41 : decode cX7_enter 41 = .ok (.aload_n 0, 1) := by decide +kernel
theorem dX7_enter_42 : decode cX7_enter 42 = .ok (.getfield 163, 3) := by decide +kernel
theorem dX7_enter_45 : decode cX7_enter 45 = .ok (.invokevirtual 166, 3) := by decide +kernel
theorem dX7_enter_48 : decode cX7_enter 48 = .ok (.aload_n 0, 1) := by decide +kernel
theorem dX7_enter_49 : decode cX7_enter 49 = .ok (.getfield 93, 3) := by decide +kernel
theorem dX7_enter_52 : decode cX7_enter 52 = .ok (.iconst 1, 1) := by decide +kernel
theorem dX7_enter_53 : decode cX7_enter 53 = .ok (.isub, 1) := by decide +kernel
theorem dX7_enter_54 : decode cX7_enter 54 = .ok (.ireturn, 1) := by decide +kernel
theorem dX7_barsMany_0 : decode cX7_barsMany 0 = .ok (.iconst 0, 1) := by decide +kernel
theorem dX7_barsMany_1 : decode cX7_barsMany 1 = .ok (.istore_n 2, 1) := by decide +kernel
theorem dX7_barsMany_2 : decode cX7_barsMany 2 = .ok (.iconst 0, 1) := by decide +kernel
theorem dX7_barsMany_3 : decode cX7_barsMany 3 = .ok (.istore_n 3, 1) := by decide +kernel
theorem dX7_barsMany_4 : decode cX7_barsMany 4 = .ok (.iload_n 3, 1) := by decide +kernel
theorem dX7_barsMany_5 : decode cX7_barsMany 5 = .ok (.sipush 1840, 3) := by decide +kernel
theorem dX7_barsMany_8 : decode cX7_barsMany 8 = .ok (.if_icmp .ge 30, 3) := by decide +kernel
theorem dX7_barsMany_11 : decode cX7_barsMany 11 = .ok (.iload_n 2, 1) := by decide +kernel
theorem dX7_barsMany_12 : decode cX7_barsMany 12 = .ok (.aload_n 0, 1) := by decide +kernel
theorem dX7_barsMany_13 : decode cX7_barsMany 13 = .ok (.iload_n 1, 1) := by decide +kernel
theorem dX7_barsMany_14 : decode cX7_barsMany 14 = .ok (.aload_n 0, 1) := by decide +kernel
theorem dX7_barsMany_15 : decode cX7_barsMany 15 = .ok (.iload_n 3, 1) := by decide +kernel
theorem dX7_barsMany_16 : decode cX7_barsMany 16 = .ok (.invokevirtual 150, 3) := by decide +kernel
theorem dX7_barsMany_19 : decode cX7_barsMany 19 = .ok (.invokevirtual 124, 3) := by decide +kernel
theorem dX7_barsMany_22 : decode cX7_barsMany 22 = .ok (.ifCond .eq 7, 3) := by decide +kernel
theorem dX7_barsMany_25 : decode cX7_barsMany 25 = .ok (.iconst 1, 1) := by decide +kernel
theorem dX7_barsMany_26 : decode cX7_barsMany 26 = .ok (.goto 4, 3) := by decide +kernel
theorem dX7_barsMany_29 : decode cX7_barsMany 29 = .ok (.iconst 0, 1) := by decide +kernel
theorem dX7_barsMany_30 : decode cX7_barsMany 30 = .ok (.iadd, 1) := by decide +kernel
theorem dX7_barsMany_31 : decode cX7_barsMany 31 = .ok (.istore_n 2, 1) := by decide +kernel
theorem dX7_barsMany_32 : decode cX7_barsMany 32 = .ok (.iinc 3 1, 3) := by decide +kernel
theorem dX7_barsMany_35 : decode cX7_barsMany 35 = .ok (.goto (-31), 3) := by decide +kernel
theorem dX7_barsMany_38 : decode cX7_barsMany 38 = .ok (.iload_n 2, 1) := by decide +kernel
theorem dX7_barsMany_39 : decode cX7_barsMany 39 = .ok (.ireturn, 1) := by decide +kernel
theorem dX7_entryOf_0 : decode cX7_entryOf 0 = .ok (.aload_n 0, 1) := by decide +kernel
theorem dX7_entryOf_1 : decode cX7_entryOf 1 = .ok (.iload_n 1, 1) := by decide +kernel
theorem dX7_entryOf_2 : decode cX7_entryOf 2 = .ok (.invokevirtual 170, 3) := by decide +kernel
theorem dX7_entryOf_5 : decode cX7_entryOf 5 = .ok (.ifCond .eq 12, 3) := by decide +kernel
theorem dX7_entryOf_8 : decode cX7_entryOf 8 = .ok (.iload_n 2, 1) := by decide +kernel
theorem dX7_entryOf_9 : decode cX7_entryOf 9 = .ok (.iconst 0, 1) := by decide +kernel
theorem dX7_entryOf_10 : decode cX7_entryOf 10 = .ok (.iconst 3, 1) := by decide +kernel
theorem dX7_entryOf_11 : decode cX7_entryOf 11 = .ok (.invokestatic 86, 3) := by decide +kernel
theorem dX7_entryOf_14 : decode cX7_entryOf 14 = .ok (.ifCond .ne 10, 3) := by decide +kernel
theorem dX7_entryOf_17 : decode cX7_entryOf 17 = .ok (.aload_n 0, 1) := by decide +kernel
theorem dX7_entryOf_18 : decode cX7_entryOf 18 = .ok (.ldc 85, 2) := by decide +kernel
theorem dX7_entryOf_20 : decode cX7_entryOf 20 = .ok (.invokevirtual 104, 3) := by decide +kernel
theorem dX7_entryOf_23 : decode cX7_entryOf 23 = .ok (.ireturn, 1) := by decide +kernel
theorem dX7_entryOf_24 : decode cX7_entryOf 24 = .ok (.iload_n 2, 1) := by decide +kernel
theorem dX7_entryOf_25 : decode cX7_entryOf 25 = .ok (.ifCond .ne 12, 3) := by decide +kernel
theorem dX7_entryOf_28 : decode cX7_entryOf 28 = .ok (.aload_n 0, 1) := by decide +kernel
theorem dX7_entryOf_29 : decode cX7_entryOf 29 = .ok (.getfield 19, 3) := by decide +kernel
theorem dX7_entryOf_32 : decode cX7_entryOf 32 = .ok (.iload_n 1, 1) := by decide +kernel
theorem dX7_entryOf_33 : decode cX7_entryOf 33 = .ok (.iaload, 1) := by decide +kernel
theorem dX7_entryOf_34 : decode cX7_entryOf 34 = .ok (.goto 36, 3) := by decide +kernel
theorem dX7_entryOf_37 : decode cX7_entryOf 37 = .ok (.iload_n 2, 1) := by decide +kernel
theorem dX7_entryOf_38 : decode cX7_entryOf 38 = .ok (.iconst 1, 1) := by decide +kernel
theorem dX7_entryOf_39 : decode cX7_entryOf 39 = .ok (.if_icmp .ne 12, 3) := by decide +kernel
theorem dX7_entryOf_42 : decode cX7_entryOf 42 = .ok (.aload_n 0, 1) := by decide +kernel
theorem dX7_entryOf_43 : decode cX7_entryOf 43 = .ok (.getfield 22, 3) := by decide +kernel
theorem dX7_entryOf_46 : decode cX7_entryOf 46 = .ok (.iload_n 1, 1) := by decide +kernel
theorem dX7_entryOf_47 : decode cX7_entryOf 47 = .ok (.iaload, 1) := by decide +kernel
theorem dX7_entryOf_48 : decode cX7_entryOf 48 = .ok (.goto 22, 3) := by decide +kernel
theorem dX7_entryOf_51 : decode cX7_entryOf 51 = .ok (.iload_n 2, 1) := by decide +kernel
theorem dX7_entryOf_52 : decode cX7_entryOf 52 = .ok (.iconst 2, 1) := by decide +kernel
theorem dX7_entryOf_53 : decode cX7_entryOf 53 = .ok (.if_icmp .ne 12, 3) := by decide +kernel
theorem dX7_entryOf_56 : decode cX7_entryOf 56 = .ok (.aload_n 0, 1) := by decide +kernel
theorem dX7_entryOf_57 : decode cX7_entryOf 57 = .ok (.getfield 25, 3) := by decide +kernel
theorem dX7_entryOf_60 : decode cX7_entryOf 60 = .ok (.iload_n 1, 1) := by decide +kernel
theorem dX7_entryOf_61 : decode cX7_entryOf 61 = .ok (.iaload, 1) := by decide +kernel
theorem dX7_entryOf_62 : decode cX7_entryOf 62 = .ok (.goto 8, 3) := by decide +kernel
theorem dX7_entryOf_65 : decode cX7_entryOf 65 = .ok (.aload_n 0, 1) := by decide +kernel
theorem dX7_entryOf_66 : decode cX7_entryOf 66 = .ok (.iload_n 1, 1) := by decide +kernel
theorem dX7_entryOf_67 : decode cX7_entryOf 67 = .ok (.invokevirtual 173, 3) := by decide +kernel
theorem dX7_entryOf_70 : decode cX7_entryOf 70 = .ok (.ireturn, 1) := by decide +kernel
theorem dX7_turn_0 : decode cX7_turn 0 = .ok (.aload_n 0, 1) := by decide +kernel
theorem dX7_turn_1 : decode cX7_turn 1 = .ok (.iload_n 1, 1) := by decide +kernel
theorem dX7_turn_2 : decode cX7_turn 2 = .ok (.invokevirtual 170, 3) := by decide +kernel
theorem dX7_turn_5 : decode cX7_turn 5 = .ok (.ifCond .eq 10, 3) := by decide +kernel
theorem dX7_turn_8 : decode cX7_turn 8 = .ok (.iload_n 2, 1) := by decide +kernel
theorem dX7_turn_9 : decode cX7_turn 9 = .ok (.invokestatic 159, 3) := by decide +kernel
theorem dX7_turn_12 : decode cX7_turn 12 = .ok (.ifCond .ne 10, 3) := by decide +kernel
theorem dX7_turn_15 : decode cX7_turn 15 = .ok (.aload_n 0, 1) := by decide +kernel
theorem dX7_turn_16 : decode cX7_turn 16 = .ok (.ldc 85, 2) := by decide +kernel
theorem dX7_turn_18 : decode cX7_turn 18 = .ok (.invokevirtual 104, 3) := by decide +kernel
theorem dX7_turn_21 : decode cX7_turn 21 = .ok (.ireturn, 1) := by decide +kernel
theorem dX7_turn_22 : decode cX7_turn 22 = .ok (.aload_n 0, 1) := by decide +kernel
theorem dX7_turn_23 : decode cX7_turn 23 = .ok (.getfield 19, 3) := by decide +kernel
theorem dX7_turn_26 : decode cX7_turn 26 = .ok (.iload_n 1, 1) := by decide +kernel
theorem dX7_turn_27 : decode cX7_turn 27 = .ok (.iaload, 1) := by decide +kernel
theorem dX7_turn_28 : decode cX7_turn 28 = .ok (.istore_n 3, 1) := by decide +kernel
theorem dX7_turn_29 : decode cX7_turn 29 = .ok (.aload_n 0, 1) := by decide +kernel
theorem dX7_turn_30 : decode cX7_turn 30 = .ok (.getfield 19, 3) := by decide +kernel
theorem dX7_turn_33 : decode cX7_turn 33 = .ok (.iload_n 1, 1) := by decide +kernel
theorem dX7_turn_34 : decode cX7_turn 34 = .ok (.iload_n 2, 1) := by decide +kernel
theorem dX7_turn_35 : decode cX7_turn 35 = .ok (.iastore, 1) := by decide +kernel
theorem dX7_turn_36 : decode cX7_turn 36 = .ok (.iload_n 3, 1) := by decide +kernel
theorem dX7_turn_37 : decode cX7_turn 37 = .ok (.ireturn, 1) := by decide +kernel
theorem dX7_isUnder_0 : decode cX7_isUnder 0 = .ok (.iload_n 1, 1) := by decide +kernel
theorem dX7_isUnder_1 : decode cX7_isUnder 1 = .ok (.ifCond .eq 28, 3) := by decide +kernel
theorem dX7_isUnder_4 : decode cX7_isUnder 4 = .ok (.iload_n 1, 1) := by decide +kernel
theorem dX7_isUnder_5 : decode cX7_isUnder 5 = .ok (.iload_n 0, 1) := by decide +kernel
theorem dX7_isUnder_6 : decode cX7_isUnder 6 = .ok (.if_icmp .eq 23, 3) := by decide +kernel
theorem dX7_isUnder_9 : decode cX7_isUnder 9 = .ok (.iload_n 1, 1) := by decide +kernel
theorem dX7_isUnder_10 : decode cX7_isUnder 10 = .ok (.iconst 1, 1) := by decide +kernel
theorem dX7_isUnder_11 : decode cX7_isUnder 11 = .ok (.if_icmp .ne 8, 3) := by decide +kernel
theorem dX7_isUnder_14 : decode cX7_isUnder 14 = .ok (.iload_n 0, 1) := by decide +kernel
theorem dX7_isUnder_15 : decode cX7_isUnder 15 = .ok (.iconst 4, 1) := by decide +kernel
theorem dX7_isUnder_16 : decode cX7_isUnder 16 = .ok (.if_icmp .eq 13, 3) := by decide +kernel
theorem dX7_isUnder_19 : decode cX7_isUnder 19 = .ok (.iload_n 1, 1) := by decide +kernel
theorem dX7_isUnder_20 : decode cX7_isUnder 20 = .ok (.iconst 3, 1) := by decide +kernel
theorem dX7_isUnder_21 : decode cX7_isUnder 21 = .ok (.if_icmp .ne 12, 3) := by decide +kernel
theorem dX7_isUnder_24 : decode cX7_isUnder 24 = .ok (.iload_n 0, 1) := by decide +kernel
theorem dX7_isUnder_25 : decode cX7_isUnder 25 = .ok (.iconst 5, 1) := by decide +kernel
theorem dX7_isUnder_26 : decode cX7_isUnder 26 = .ok (.if_icmp .ne 7, 3) := by decide +kernel
theorem dX7_isUnder_29 : decode cX7_isUnder 29 = .ok (.iconst 1, 1) := by decide +kernel
theorem dX7_isUnder_30 : decode cX7_isUnder 30 = .ok (.goto 4, 3) := by decide +kernel
theorem dX7_isUnder_33 : decode cX7_isUnder 33 = .ok (.iconst 0, 1) := by decide +kernel
theorem dX7_isUnder_34 : decode cX7_isUnder 34 = .ok (.ireturn, 1) := by decide +kernel
theorem dX7_as_0 : decode cX7_as 0 = .ok (.aload_n 0, 1) := by decide +kernel
theorem dX7_as_1 : decode cX7_as 1 = .ok (.iload_n 1, 1) := by decide +kernel
theorem dX7_as_2 : decode cX7_as 2 = .ok (.invokevirtual 170, 3) := by decide +kernel
theorem dX7_as_5 : decode cX7_as 5 = .ok (.ifCond .eq 10, 3) := by decide +kernel
theorem dX7_as_8 : decode cX7_as 8 = .ok (.iload_n 2, 1) := by decide +kernel
theorem dX7_as_9 : decode cX7_as 9 = .ok (.invokestatic 159, 3) := by decide +kernel
theorem dX7_as_12 : decode cX7_as 12 = .ok (.ifCond .ne 10, 3) := by decide +kernel
theorem dX7_as_15 : decode cX7_as 15 = .ok (.aload_n 0, 1) := by decide +kernel
theorem dX7_as_16 : decode cX7_as 16 = .ok (.ldc 85, 2) := by decide +kernel
theorem dX7_as_18 : decode cX7_as 18 = .ok (.invokevirtual 104, 3) := by decide +kernel
theorem dX7_as_21 : decode cX7_as 21 = .ok (.ireturn, 1) := by decide +kernel
theorem dX7_as_22 : decode cX7_as 22 = .ok (.aload_n 0, 1) := by decide +kernel
theorem dX7_as_23 : decode cX7_as 23 = .ok (.getfield 19, 3) := by decide +kernel
theorem dX7_as_26 : decode cX7_as 26 = .ok (.iload_n 1, 1) := by decide +kernel
theorem dX7_as_27 : decode cX7_as 27 = .ok (.iaload, 1) := by decide +kernel
theorem dX7_as_28 : decode cX7_as 28 = .ok (.iload_n 2, 1) := by decide +kernel
theorem dX7_as_29 : decode cX7_as 29 = .ok (.invokestatic 176, 3) := by decide +kernel
theorem dX7_as_32 : decode cX7_as 32 = .ok (.ifCond .eq 12, 3) := by decide +kernel
theorem dX7_as_35 : decode cX7_as 35 = .ok (.aload_n 0, 1) := by decide +kernel
theorem dX7_as_36 : decode cX7_as 36 = .ok (.getfield 22, 3) := by decide +kernel
theorem dX7_as_39 : decode cX7_as 39 = .ok (.iload_n 1, 1) := by decide +kernel
theorem dX7_as_40 : decode cX7_as 40 = .ok (.iaload, 1) := by decide +kernel
theorem dX7_as_41 : decode cX7_as 41 = .ok (.goto 9, 3) := by decide +kernel
theorem dX7_as_44 : decode cX7_as 44 = .ok (.aload_n 0, 1) := by decide +kernel
theorem dX7_as_45 : decode cX7_as 45 = .ok (.ldc 179, 2) := by decide +kernel
theorem dX7_as_47 : decode cX7_as 47 = .ok (.invokevirtual 104, 3) := by decide +kernel
theorem dX7_as_50 : decode cX7_as 50 = .ok (.ireturn, 1) := by decide +kernel
theorem dX7_strike_0 : decode cX7_strike 0 = .ok (.aload_n 0, 1) := by decide +kernel
theorem dX7_strike_1 : decode cX7_strike 1 = .ok (.getfield 93, 3) := by decide +kernel
theorem dX7_strike_4 : decode cX7_strike 4 = .ok (.ifCond .ne 10, 3) := by decide +kernel
theorem dX7_strike_7 : decode cX7_strike 7 = .ok (.aload_n 0, 1) := by decide +kernel
theorem dX7_strike_8 : decode cX7_strike 8 = .ok (.ldc 127, 2) := by decide +kernel
theorem dX7_strike_10 : decode cX7_strike 10 = .ok (.invokevirtual 104, 3) := by decide +kernel
theorem dX7_strike_13 : decode cX7_strike 13 = .ok (.ireturn, 1) := by decide +kernel
theorem dX7_strike_14 : decode cX7_strike 14 = .ok (.aload_n 0, 1) := by decide +kernel
theorem dX7_strike_15 : decode cX7_strike 15 = .ok (.dup, 1) := by decide +kernel
theorem dX7_strike_16 : decode cX7_strike 16 = .ok (.getfield 93, 3) := by decide +kernel
theorem dX7_strike_19 : decode cX7_strike 19 = .ok (.iconst 1, 1) := by decide +kernel
theorem dX7_strike_20 : decode cX7_strike 20 = .ok (.isub, 1) := by decide +kernel
theorem dX7_strike_21 : decode cX7_strike 21 = .ok (.putfield 93, 3) := by decide +kernel
theorem dX7_strike_24 : decode cX7_strike 24 = .ok (.aload_n 0, 1) := by decide +kernel
theorem dX7_strike_25 : decode cX7_strike 25 = .ok (.getfield 22, 3) := by decide +kernel
theorem dX7_strike_28 : decode cX7_strike 28 = .ok (.aload_n 0, 1) := by decide +kernel
theorem dX7_strike_29 : decode cX7_strike 29 = .ok (.getfield 93, 3) := by decide +kernel
theorem dX7_strike_32 : decode cX7_strike 32 = .ok (.iaload, 1) := by decide +kernel
theorem dX7_strike_33 : decode cX7_strike 33 = .ok (.ireturn, 1) := by decide +kernel
theorem dX7_bars_0 : decode cX7_bars 0 = .ok (.aload_n 0, 1) := by decide +kernel
theorem dX7_bars_1 : decode cX7_bars 1 = .ok (.iload_n 1, 1) := by decide +kernel
theorem dX7_bars_2 : decode cX7_bars 2 = .ok (.invokevirtual 170, 3) := by decide +kernel
theorem dX7_bars_5 : decode cX7_bars 5 = .ok (.ifCond .eq 11, 3) := by decide +kernel
theorem dX7_bars_8 : decode cX7_bars 8 = .ok (.aload_n 0, 1) := by decide +kernel
theorem dX7_bars_9 : decode cX7_bars 9 = .ok (.iload_n 2, 1) := by decide +kernel
theorem dX7_bars_10 : decode cX7_bars 10 = .ok (.invokevirtual 131, 3) := by decide +kernel
theorem dX7_bars_13 : decode cX7_bars 13 = .ok (.ifCond .ne 10, 3) := by decide +kernel
theorem dX7_bars_16 : decode cX7_bars 16 = .ok (.aload_n 0, 1) := by decide +kernel
theorem dX7_bars_17 : decode cX7_bars 17 = .ok (.ldc 85, 2) := by decide +kernel
theorem dX7_bars_19 : decode cX7_bars 19 = .ok (.invokevirtual 104, 3) := by decide +kernel
theorem dX7_bars_22 : decode cX7_bars 22 = .ok (.ireturn, 1) := by decide +kernel
theorem dX7_bars_23 : decode cX7_bars 23 = .ok (.aload_n 0, 1) := by decide +kernel
theorem dX7_bars_24 : decode cX7_bars 24 = .ok (.iload_n 1, 1) := by decide +kernel
theorem dX7_bars_25 : decode cX7_bars 25 = .ok (.iload_n 2, 1) := by decide +kernel
theorem dX7_bars_26 : decode cX7_bars 26 = .ok (.invokevirtual 124, 3) := by decide +kernel
theorem dX7_bars_29 : decode cX7_bars 29 = .ok (.ifCond .eq 7, 3) := by decide +kernel
theorem dX7_bars_32 : decode cX7_bars 32 = .ok (.iconst 1, 1) := by decide +kernel
theorem dX7_bars_33 : decode cX7_bars 33 = .ok (.goto 4, 3) := by decide +kernel
theorem dX7_bars_36 : decode cX7_bars 36 = .ok (.iconst 0, 1) := by decide +kernel
theorem dX7_bars_37 : decode cX7_bars 37 = .ok (.ireturn, 1) := by decide +kernel
theorem dX7_by_0 : decode cX7_by 0 = .ok (.aload_n 0, 1) := by decide +kernel
theorem dX7_by_1 : decode cX7_by 1 = .ok (.iload_n 1, 1) := by decide +kernel
theorem dX7_by_2 : decode cX7_by 2 = .ok (.invokevirtual 131, 3) := by decide +kernel
theorem dX7_by_5 : decode cX7_by 5 = .ok (.ifCond .ne 10, 3) := by decide +kernel
theorem dX7_by_8 : decode cX7_by 8 = .ok (.aload_n 0, 1) := by decide +kernel
theorem dX7_by_9 : decode cX7_by 9 = .ok (.ldc 85, 2) := by decide +kernel
theorem dX7_by_11 : decode cX7_by 11 = .ok (.invokevirtual 104, 3) := by decide +kernel
theorem dX7_by_14 : decode cX7_by 14 = .ok (.ireturn, 1) := by decide +kernel
theorem dX7_by_15 : decode cX7_by 15 = .ok (.aload_n 0, 1) := by decide +kernel
theorem dX7_by_16 : decode cX7_by 16 = .ok (.iload_n 1, 1) := by decide +kernel
theorem dX7_by_17 : decode cX7_by 17 = .ok (.invokevirtual 128, 3) := by decide +kernel
theorem dX7_by_20 : decode cX7_by 20 = .ok (.istore_n 2, 1) := by decide +kernel
theorem dX7_by_21 : decode cX7_by 21 = .ok (.iload_n 2, 1) := by decide +kernel
theorem dX7_by_22 : decode cX7_by 22 = .ok (.ifCond .ge 12, 3) := by decide +kernel
theorem dX7_by_25 : decode cX7_by 25 = .ok (.aload_n 0, 1) := by decide +kernel
theorem dX7_by_26 : decode cX7_by 26 = .ok (.ldc 127, 2) := by decide +kernel
theorem dX7_by_28 : decode cX7_by 28 = .ok (.invokevirtual 104, 3) := by decide +kernel
theorem dX7_by_31 : decode cX7_by 31 = .ok (.goto 4, 3) := by decide +kernel
theorem dX7_by_34 : decode cX7_by 34 = .ok (.iload_n 2, 1) := by decide +kernel
theorem dX7_by_35 : decode cX7_by 35 = .ok (.ireturn, 1) := by decide +kernel
theorem dX7_breach_0 : decode cX7_breach 0 = .ok (.iconst 0, 1) := by decide +kernel
theorem dX7_breach_1 : decode cX7_breach 1 = .ok (.istore_n 1, 1) := by decide +kernel
theorem dX7_breach_2 : decode cX7_breach 2 = .ok (.iload_n 1, 1) := by decide +kernel
theorem dX7_breach_3 : decode cX7_breach 3 = .ok (.aload_n 0, 1) := by decide +kernel
theorem dX7_breach_4 : decode cX7_breach 4 = .ok (.getfield 93, 3) := by decide +kernel
theorem dX7_breach_7 : decode cX7_breach 7 = .ok (.if_icmp .ge 41, 3) := by decide +kernel
theorem dX7_breach_10 : decode cX7_breach 10 = .ok (.aload_n 0, 1) := by decide +kernel
theorem dX7_breach_11 : decode cX7_breach 11 = .ok (.aload_n 0, 1) := by decide +kernel
theorem dX7_breach_12 : decode cX7_breach 12 = .ok (.getfield 22, 3) := by decide +kernel
theorem dX7_breach_15 : decode cX7_breach 15 = .ok (.iload_n 1, 1) := by decide +kernel
theorem dX7_breach_16 : decode cX7_breach 16 = .ok (.iaload, 1) := by decide +kernel
theorem dX7_breach_17 : decode cX7_breach 17 = .ok (.invokevirtual 128, 3) := by decide +kernel
theorem dX7_breach_20 : decode cX7_breach 20 = .ok (.istore_n 2, 1) := by decide +kernel
theorem dX7_breach_21 : decode cX7_breach 21 = .ok (.aload_n 0, 1) := by decide +kernel
theorem dX7_breach_22 : decode cX7_breach 22 = .ok (.getfield 19, 3) := by decide +kernel
theorem dX7_breach_25 : decode cX7_breach 25 = .ok (.iload_n 1, 1) := by decide +kernel
theorem dX7_breach_26 : decode cX7_breach 26 = .ok (.iaload, 1) := by decide +kernel
theorem dX7_breach_27 : decode cX7_breach 27 = .ok (.iconst 2, 1) := by decide +kernel
theorem dX7_breach_28 : decode cX7_breach 28 = .ok (.if_icmp .eq 14, 3) := by decide +kernel
theorem dX7_breach_31 : decode cX7_breach 31 = .ok (.iload_n 2, 1) := by decide +kernel
theorem dX7_breach_32 : decode cX7_breach 32 = .ok (.ifCond .lt 10, 3) := by decide +kernel
theorem dX7_breach_35 : decode cX7_breach 35 = .ok (.iload_n 2, 1) := by decide +kernel
theorem dX7_breach_36 : decode cX7_breach 36 = .ok (.iload_n 1, 1) := by decide +kernel
theorem dX7_breach_37 : decode cX7_breach 37 = .ok (.if_icmp .ge 5, 3) := by decide +kernel
theorem dX7_breach_40 : decode cX7_breach 40 = .ok (.iload_n 1, 1) := by decide +kernel
theorem dX7_breach_41 : decode cX7_breach 41 = .ok (.ireturn, 1) := by decide +kernel
theorem dX7_breach_42 : decode cX7_breach 42 = .ok (.iinc 1 1, 3) := by decide +kernel
theorem dX7_breach_45 : decode cX7_breach 45 = .ok (.goto (-43), 3) := by decide +kernel
theorem dX7_breach_48 : decode cX7_breach 48 = .ok (.aload_n 0, 1) := by decide +kernel
theorem dX7_breach_49 : decode cX7_breach 49 = .ok (.ldc 127, 2) := by decide +kernel
theorem dX7_breach_51 : decode cX7_breach 51 = .ok (.invokevirtual 104, 3) := by decide +kernel
theorem dX7_breach_54 : decode cX7_breach 54 = .ok (.ireturn, 1) := by decide +kernel
theorem dX7_keenest_0 : decode cX7_keenest 0 = .ok (.aload_n 0, 1) := by decide +kernel
theorem dX7_keenest_1 : decode cX7_keenest 1 = .ok (.getfield 93, 3) := by decide +kernel
theorem dX7_keenest_4 : decode cX7_keenest 4 = .ok (.ifCond .ne 10, 3) := by decide +kernel
theorem dX7_keenest_7 : decode cX7_keenest 7 = .ok (.aload_n 0, 1) := by decide +kernel
theorem dX7_keenest_8 : decode cX7_keenest 8 = .ok (.ldc 127, 2) := by decide +kernel
theorem dX7_keenest_10 : decode cX7_keenest 10 = .ok (.invokevirtual 104, 3) := by decide +kernel
theorem dX7_keenest_13 : decode cX7_keenest 13 = .ok (.ireturn, 1) := by decide +kernel
theorem dX7_keenest_14 : decode cX7_keenest 14 = .ok (.iconst 0, 1) := by decide +kernel
theorem dX7_keenest_15 : decode cX7_keenest 15 = .ok (.istore_n 1, 1) := by decide +kernel
theorem dX7_keenest_16 : decode cX7_keenest 16 = .ok (.iload_n 1, 1) := by decide +kernel
theorem dX7_keenest_17 : decode cX7_keenest 17 = .ok (.aload_n 0, 1) := by decide +kernel
theorem dX7_keenest_18 : decode cX7_keenest 18 = .ok (.getfield 93, 3) := by decide +kernel
theorem dX7_keenest_21 : decode cX7_keenest 21 = .ok (.if_icmp .ge 16, 3) := by decide +kernel
theorem dX7_keenest_24 : decode cX7_keenest 24 = .ok (.aload_n 0, 1) := by decide +kernel
theorem dX7_keenest_25 : decode cX7_keenest 25 = .ok (.getfield 41, 3) := by decide +kernel
theorem dX7_keenest_28 : decode cX7_keenest 28 = .ok (.iload_n 1, 1) := by decide +kernel
theorem dX7_keenest_29 : decode cX7_keenest 29 = .ok (.iconst 0, 1) := by decide +kernel
theorem dX7_keenest_30 : decode cX7_keenest 30 = .ok (.iastore, 1) := by decide +kernel
theorem dX7_keenest_31 : decode cX7_keenest 31 = .ok (.iinc 1 1, 3) := by decide +kernel
theorem dX7_keenest_34 : decode cX7_keenest 34 = .ok (.goto (-18), 3) := by decide +kernel
theorem dX7_keenest_37 : decode cX7_keenest 37 = .ok (.iconst 0, 1) := by decide +kernel
theorem dX7_keenest_38 : decode cX7_keenest 38 = .ok (.istore_n 1, 1) := by decide +kernel
theorem dX7_keenest_39 : decode cX7_keenest 39 = .ok (.iload_n 1, 1) := by decide +kernel
theorem dX7_keenest_40 : decode cX7_keenest 40 = .ok (.sipush 1840, 3) := by decide +kernel
theorem dX7_keenest_43 : decode cX7_keenest 43 = .ok (.if_icmp .ge 88, 3) := by decide +kernel
theorem dX7_keenest_46 : decode cX7_keenest 46 = .ok (.iconst 0, 1) := by decide +kernel
theorem dX7_keenest_47 : decode cX7_keenest 47 = .ok (.istore_n 2, 1) := by decide +kernel
theorem dX7_keenest_48 : decode cX7_keenest 48 = .ok (.iconst 0, 1) := by decide +kernel
theorem dX7_keenest_49 : decode cX7_keenest 49 = .ok (.istore_n 3, 1) := by decide +kernel
theorem dX7_keenest_50 : decode cX7_keenest 50 = .ok (.iconst 0, 1) := by decide +kernel
theorem dX7_keenest_51 : decode cX7_keenest 51 = .ok (.istore 4, 2) := by decide +kernel
theorem dX7_keenest_53 : decode cX7_keenest 53 = .ok (.iload 4, 2) := by decide +kernel
theorem dX7_keenest_55 : decode cX7_keenest 55 = .ok (.aload_n 0, 1) := by decide +kernel
theorem dX7_keenest_56 : decode cX7_keenest 56 = .ok (.getfield 93, 3) := by decide +kernel
theorem dX7_keenest_59 : decode cX7_keenest 59 = .ok (.if_icmp .ge 47, 3) := by decide +kernel
theorem dX7_keenest_62 : decode cX7_keenest 62 = .ok (.aload_n 0, 1) := by decide +kernel
theorem dX7_keenest_63 : decode cX7_keenest 63 = .ok (.iload 4, 2) := by decide +kernel
theorem dX7_keenest_65 : decode cX7_keenest 65 = .ok (.aload_n 0, 1) := by decide +kernel
theorem dX7_keenest_66 : decode cX7_keenest 66 = .ok (.iload_n 1, 1) := by decide +kernel
theorem dX7_keenest_67 : decode cX7_keenest 67 = .ok (.invokevirtual 150, 3) := by decide +kernel
theorem dX7_keenest_70 : decode cX7_keenest 70 = .ok (.invokevirtual 124, 3) := by decide +kernel
theorem dX7_keenest_73 : decode cX7_keenest 73 = .ok (.istore 5, 2) := by decide +kernel
theorem dX7_keenest_75 : decode cX7_keenest 75 = .ok (.iload_n 2, 1) := by decide +kernel
theorem dX7_keenest_76 : decode cX7_keenest 76 = .ok (.iload 5, 2) := by decide +kernel
theorem dX7_keenest_78 : decode cX7_keenest 78 = .ok (.ifCond .eq 7, 3) := by decide +kernel
theorem dX7_keenest_81 : decode cX7_keenest 81 = .ok (.iconst 1, 1) := by decide +kernel
theorem dX7_keenest_82 : decode cX7_keenest 82 = .ok (.goto 4, 3) := by decide +kernel
theorem dX7_keenest_85 : decode cX7_keenest 85 = .ok (.iconst 0, 1) := by decide +kernel
theorem dX7_keenest_86 : decode cX7_keenest 86 = .ok (.iadd, 1) := by decide +kernel
theorem dX7_keenest_87 : decode cX7_keenest 87 = .ok (.istore_n 2, 1) := by decide +kernel
theorem dX7_keenest_88 : decode cX7_keenest 88 = .ok (.iload 5, 2) := by decide +kernel
theorem dX7_keenest_90 : decode cX7_keenest 90 = .ok (.ifCond .eq 8, 3) := by decide +kernel
theorem dX7_keenest_93 : decode cX7_keenest 93 = .ok (.iload 4, 2) := by decide +kernel
theorem dX7_keenest_95 : decode cX7_keenest 95 = .ok (.goto 4, 3) := by decide +kernel
theorem dX7_keenest_98 : decode cX7_keenest 98 = .ok (.iload_n 3, 1) := by decide +kernel
theorem dX7_keenest_99 : decode cX7_keenest 99 = .ok (.istore_n 3, 1) := by decide +kernel
theorem dX7_keenest_100 : decode cX7_keenest 100 = .ok (.iinc 4 1, 3) := by decide +kernel
theorem dX7_keenest_103 : decode cX7_keenest 103 = .ok (.goto (-50), 3) := by decide +kernel
theorem dX7_keenest_106 : decode cX7_keenest 106 = .ok (.aload_n 0, 1) := by decide +kernel
theorem dX7_keenest_107 : decode cX7_keenest 107 = .ok (.getfield 41, 3) := by decide +kernel
theorem dX7_keenest_110 : decode cX7_keenest 110 = .ok (.iload_n 3, 1) := by decide +kernel
theorem dX7_keenest_111 : decode cX7_keenest 111 = .ok (.dup2, 1) := by decide +kernel
theorem dX7_keenest_112 : decode cX7_keenest 112 = .ok (.iaload, 1) := by decide +kernel
theorem dX7_keenest_113 : decode cX7_keenest 113 = .ok (.iload_n 2, 1) := by decide +kernel
theorem dX7_keenest_114 : decode cX7_keenest 114 = .ok (.iconst 1, 1) := by decide +kernel
theorem dX7_keenest_115 : decode cX7_keenest 115 = .ok (.if_icmp .ne 7, 3) := by decide +kernel
theorem dX7_keenest_118 : decode cX7_keenest 118 = .ok (.iconst 1, 1) := by decide +kernel
theorem dX7_keenest_119 : decode cX7_keenest 119 = .ok (.goto 4, 3) := by decide +kernel
theorem dX7_keenest_122 : decode cX7_keenest 122 = .ok (.iconst 0, 1) := by decide +kernel
theorem dX7_keenest_123 : decode cX7_keenest 123 = .ok (.iadd, 1) := by decide +kernel
theorem dX7_keenest_124 : decode cX7_keenest 124 = .ok (.iastore, 1) := by decide +kernel
theorem dX7_keenest_125 : decode cX7_keenest 125 = .ok (.iinc 1 1, 3) := by decide +kernel
theorem dX7_keenest_128 : decode cX7_keenest 128 = .ok (.goto (-89), 3) := by decide +kernel
theorem dX7_keenest_131 : decode cX7_keenest 131 = .ok (.iconst 0, 1) := by decide +kernel
theorem dX7_keenest_132 : decode cX7_keenest 132 = .ok (.istore_n 1, 1) := by decide +kernel
theorem dX7_keenest_133 : decode cX7_keenest 133 = .ok (.iconst 1, 1) := by decide +kernel
theorem dX7_keenest_134 : decode cX7_keenest 134 = .ok (.istore_n 2, 1) := by decide +kernel
theorem dX7_keenest_135 : decode cX7_keenest 135 = .ok (.iload_n 2, 1) := by decide +kernel
theorem dX7_keenest_136 : decode cX7_keenest 136 = .ok (.aload_n 0, 1) := by decide +kernel
theorem dX7_keenest_137 : decode cX7_keenest 137 = .ok (.getfield 93, 3) := by decide +kernel
theorem dX7_keenest_140 : decode cX7_keenest 140 = .ok (.if_icmp .ge 30, 3) := by decide +kernel
theorem dX7_keenest_143 : decode cX7_keenest 143 = .ok (.aload_n 0, 1) := by decide +kernel
theorem dX7_keenest_144 : decode cX7_keenest 144 = .ok (.getfield 41, 3) := by decide +kernel
theorem dX7_keenest_147 : decode cX7_keenest 147 = .ok (.iload_n 2, 1) := by decide +kernel
theorem dX7_keenest_148 : decode cX7_keenest 148 = .ok (.iaload, 1) := by decide +kernel
theorem dX7_keenest_149 : decode cX7_keenest 149 = .ok (.aload_n 0, 1) := by decide +kernel
theorem dX7_keenest_150 : decode cX7_keenest 150 = .ok (.getfield 41, 3) := by decide +kernel
theorem dX7_keenest_153 : decode cX7_keenest 153 = .ok (.iload_n 1, 1) := by decide +kernel
theorem dX7_keenest_154 : decode cX7_keenest 154 = .ok (.iaload, 1) := by decide +kernel
theorem dX7_keenest_155 : decode cX7_keenest 155 = .ok (.if_icmp .le 7, 3) := by decide +kernel
theorem dX7_keenest_158 : decode cX7_keenest 158 = .ok (.iload_n 2, 1) := by decide +kernel
theorem dX7_keenest_159 : decode cX7_keenest 159 = .ok (.goto 4, 3) := by decide +kernel
theorem dX7_keenest_162 : decode cX7_keenest 162 = .ok (.iload_n 1, 1) := by decide +kernel
theorem dX7_keenest_163 : decode cX7_keenest 163 = .ok (.istore_n 1, 1) := by decide +kernel
theorem dX7_keenest_164 : decode cX7_keenest 164 = .ok (.iinc 2 1, 3) := by decide +kernel
theorem dX7_keenest_167 : decode cX7_keenest 167 = .ok (.goto (-32), 3) := by decide +kernel
theorem dX7_keenest_170 : decode cX7_keenest 170 = .ok (.iload_n 1, 1) := by decide +kernel
theorem dX7_keenest_171 : decode cX7_keenest 171 = .ok (.ireturn, 1) := by decide +kernel
theorem dX7_wouldBe_0 : decode cX7_wouldBe 0 = .ok (.iload_n 1, 1) := by decide +kernel
theorem dX7_wouldBe_1 : decode cX7_wouldBe 1 = .ok (.iconst 0, 1) := by decide +kernel
theorem dX7_wouldBe_2 : decode cX7_wouldBe 2 = .ok (.iconst 1, 1) := by decide +kernel
theorem dX7_wouldBe_3 : decode cX7_wouldBe 3 = .ok (.invokestatic 86, 3) := by decide +kernel
theorem dX7_wouldBe_6 : decode cX7_wouldBe 6 = .ok (.ifCond .ne 10, 3) := by decide +kernel
theorem dX7_wouldBe_9 : decode cX7_wouldBe 9 = .ok (.aload_n 0, 1) := by decide +kernel
theorem dX7_wouldBe_10 : decode cX7_wouldBe 10 = .ok (.ldc 85, 2) := by decide +kernel
theorem dX7_wouldBe_12 : decode cX7_wouldBe 12 = .ok (.invokevirtual 104, 3) := by decide +kernel
theorem dX7_wouldBe_15 : decode cX7_wouldBe 15 = .ok (.ireturn, 1) := by decide +kernel
theorem dX7_wouldBe_16 : decode cX7_wouldBe 16 = .ok (.aload_n 0, 1) := by decide +kernel
theorem dX7_wouldBe_17 : decode cX7_wouldBe 17 = .ok (.invokevirtual 180, 3) := by decide +kernel
theorem dX7_wouldBe_20 : decode cX7_wouldBe 20 = .ok (.istore_n 2, 1) := by decide +kernel
theorem dX7_wouldBe_21 : decode cX7_wouldBe 21 = .ok (.aload_n 0, 1) := by decide +kernel
theorem dX7_wouldBe_22 : decode cX7_wouldBe 22 = .ok (.getfield 16, 3) := by decide +kernel
theorem dX7_wouldBe_25 : decode cX7_wouldBe 25 = .ok (.iload_n 1, 1) := by decide +kernel
theorem dX7_wouldBe_26 : decode cX7_wouldBe 26 = .ok (.iconst 1, 1) := by decide +kernel
theorem dX7_wouldBe_27 : decode cX7_wouldBe 27 = .ok (.aload_n 0, 1) := by decide +kernel
theorem dX7_wouldBe_28 : decode cX7_wouldBe 28 = .ok (.getfield 16, 3) := by decide +kernel
theorem dX7_wouldBe_31 : decode cX7_wouldBe 31 = .ok (.iload_n 1, 1) := by decide +kernel
theorem dX7_wouldBe_32 : decode cX7_wouldBe 32 = .ok (.iaload, 1) := by decide +kernel
theorem dX7_wouldBe_33 : decode cX7_wouldBe 33 = .ok (.isub, 1) := by decide +kernel
theorem dX7_wouldBe_34 : decode cX7_wouldBe 34 = .ok (.iastore, 1) := by decide +kernel
theorem dX7_wouldBe_35 : decode cX7_wouldBe 35 = .ok (.aload_n 0, 1) := by decide +kernel
theorem dX7_wouldBe_36 : decode cX7_wouldBe 36 = .ok (.invokevirtual 180, 3) := by decide +kernel
theorem dX7_wouldBe_39 : decode cX7_wouldBe 39 = .ok (.istore_n 3, 1) := by decide +kernel
theorem dX7_wouldBe_40 : decode cX7_wouldBe 40 = .ok (.aload_n 0, 1) := by decide +kernel
theorem dX7_wouldBe_41 : decode cX7_wouldBe 41 = .ok (.getfield 16, 3) := by decide +kernel
theorem dX7_wouldBe_44 : decode cX7_wouldBe 44 = .ok (.iload_n 1, 1) := by decide +kernel
theorem dX7_wouldBe_45 : decode cX7_wouldBe 45 = .ok (.iconst 1, 1) := by decide +kernel
theorem dX7_wouldBe_46 : decode cX7_wouldBe 46 = .ok (.aload_n 0, 1) := by decide +kernel
theorem dX7_wouldBe_47 : decode cX7_wouldBe 47 = .ok (.getfield 16, 3) := by decide +kernel
theorem dX7_wouldBe_50 : decode cX7_wouldBe 50 = .ok (.iload_n 1, 1) := by decide +kernel
theorem dX7_wouldBe_51 : decode cX7_wouldBe 51 = .ok (.iaload, 1) := by decide +kernel
theorem dX7_wouldBe_52 : decode cX7_wouldBe 52 = .ok (.isub, 1) := by decide +kernel
theorem dX7_wouldBe_53 : decode cX7_wouldBe 53 = .ok (.iastore, 1) := by decide +kernel
theorem dX7_wouldBe_54 : decode cX7_wouldBe 54 = .ok (.iload_n 3, 1) := by decide +kernel
theorem dX7_wouldBe_55 : decode cX7_wouldBe 55 = .ok (.iload_n 2, 1) := by decide +kernel
theorem dX7_wouldBe_56 : decode cX7_wouldBe 56 = .ok (.isub, 1) := by decide +kernel
theorem dX7_wouldBe_57 : decode cX7_wouldBe 57 = .ok (.ireturn, 1) := by decide +kernel
theorem dX7_bestPlace_0 : decode cX7_bestPlace 0 = .ok (.iconst (-1), 1) := by decide +kernel
theorem dX7_bestPlace_1 : decode cX7_bestPlace 1 = .ok (.istore_n 1, 1) := by decide +kernel
theorem dX7_bestPlace_2 : decode cX7_bestPlace 2 = .ok (.iconst 0, 1) := by decide +kernel
theorem dX7_bestPlace_3 : decode cX7_bestPlace 3 = .ok (.istore_n 2, 1) := by decide +kernel
theorem dX7_bestPlace_4 : decode cX7_bestPlace 4 = .ok (.iconst 0, 1) := by decide +kernel
theorem dX7_bestPlace_5 : decode cX7_bestPlace 5 = .ok (.istore_n 3, 1) := by decide +kernel
theorem dX7_bestPlace_6 : decode cX7_bestPlace 6 = .ok (.iload_n 3, 1) := by decide +kernel
theorem dX7_bestPlace_7 : decode cX7_bestPlace 7 = .ok (.bipush 92, 2) := by decide +kernel
theorem dX7_bestPlace_9 : decode cX7_bestPlace 9 = .ok (.if_icmp .ge 104, 3) := by decide +kernel
theorem dX7_bestPlace_12 : decode cX7_bestPlace 12 = .ok (.bipush 20, 2) := by decide +kernel
theorem dX7_bestPlace_14 : decode cX7_bestPlace 14 = .ok (.iload_n 3, 1) := by decide +kernel
theorem dX7_bestPlace_15 : decode cX7_bestPlace 15 = .ok (.imul, 1) := by decide +kernel
theorem dX7_bestPlace_16 : decode cX7_bestPlace 16 = .ok (.istore 4, 2) := by decide +kernel
theorem dX7_bestPlace_18 : decode cX7_bestPlace 18 = .ok (.aload_n 0, 1) := by decide +kernel
theorem dX7_bestPlace_19 : decode cX7_bestPlace 19 = .ok (.aload_n 0, 1) := by decide +kernel
theorem dX7_bestPlace_20 : decode cX7_bestPlace 20 = .ok (.iload 4, 2) := by decide +kernel
theorem dX7_bestPlace_22 : decode cX7_bestPlace 22 = .ok (.invokevirtual 150, 3) := by decide +kernel
theorem dX7_bestPlace_25 : decode cX7_bestPlace 25 = .ok (.invokevirtual 137, 3) := by decide +kernel
theorem dX7_bestPlace_28 : decode cX7_bestPlace 28 = .ok (.istore 5, 2) := by decide +kernel
theorem dX7_bestPlace_30 : decode cX7_bestPlace 30 = .ok (.iload 4, 2) := by decide +kernel
theorem dX7_bestPlace_32 : decode cX7_bestPlace 32 = .ok (.istore 6, 2) := by decide +kernel
theorem dX7_bestPlace_34 : decode cX7_bestPlace 34 = .ok (.iload 6, 2) := by decide +kernel
theorem dX7_bestPlace_36 : decode cX7_bestPlace 36 = .ok (.iload 4, 2) := by decide +kernel
theorem dX7_bestPlace_38 : decode cX7_bestPlace 38 = .ok (.bipush 20, 2) := by decide +kernel
theorem dX7_bestPlace_40 : decode cX7_bestPlace 40 = .ok (.iadd, 1) := by decide +kernel
theorem dX7_bestPlace_41 : decode cX7_bestPlace 41 = .ok (.if_icmp .ge 66, 3) := by decide +kernel
theorem dX7_bestPlace_44 : decode cX7_bestPlace 44 = .ok (.iload 5, 2) := by decide +kernel
theorem dX7_bestPlace_46 : decode cX7_bestPlace 46 = .ok (.ifCond .eq 61, 3) := by decide +kernel
theorem dX7_bestPlace_49 : decode cX7_bestPlace 49 = .ok (.aload_n 0, 1) := by decide +kernel
theorem dX7_bestPlace_50 : decode cX7_bestPlace 50 = .ok (.getfield 37, 3) := by decide +kernel
theorem dX7_bestPlace_53 : decode cX7_bestPlace 53 = .ok (.iload 6, 2) := by decide +kernel
theorem dX7_bestPlace_55 : decode cX7_bestPlace 55 = .ok (.baload, 1) := by decide +kernel
theorem dX7_bestPlace_56 : decode cX7_bestPlace 56 = .ok (.ifCond .eq 7, 3) := by decide +kernel
theorem dX7_bestPlace_59 : decode cX7_bestPlace 59 = .ok (.iconst 0, 1) := by decide +kernel
theorem dX7_bestPlace_60 : decode cX7_bestPlace 60 = .ok (.goto 13, 3) := by decide +kernel
theorem dX7_bestPlace_63 : decode cX7_bestPlace 63 = .ok (.aload_n 0, 1) := by decide +kernel
theorem dX7_bestPlace_64 : decode cX7_bestPlace 64 = .ok (.aload_n 0, 1) := by decide +kernel
theorem dX7_bestPlace_65 : decode cX7_bestPlace 65 = .ok (.iload 6, 2) := by decide +kernel
theorem dX7_bestPlace_67 : decode cX7_bestPlace 67 = .ok (.invokevirtual 150, 3) := by decide +kernel
theorem dX7_bestPlace_70 : decode cX7_bestPlace 70 = .ok (.invokevirtual 134, 3) := by decide +kernel
theorem dX7_bestPlace_73 : decode cX7_bestPlace 73 = .ok (.istore 7, 2) := by decide +kernel
theorem dX7_bestPlace_75 : decode cX7_bestPlace 75 = .ok (.aload_n 0, 1) := by decide +kernel
theorem dX7_bestPlace_76 : decode cX7_bestPlace 76 = .ok (.getfield 37, 3) := by decide +kernel
theorem dX7_bestPlace_79 : decode cX7_bestPlace 79 = .ok (.iload 6, 2) := by decide +kernel
theorem dX7_bestPlace_81 : decode cX7_bestPlace 81 = .ok (.baload, 1) := by decide +kernel
theorem dX7_bestPlace_82 : decode cX7_bestPlace 82 = .ok (.ifCond .ne 19, 3) := by decide +kernel
theorem dX7_bestPlace_85 : decode cX7_bestPlace 85 = .ok (.iload_n 1, 1) := by decide +kernel
theorem dX7_bestPlace_86 : decode cX7_bestPlace 86 = .ok (.ifCond .lt 9, 3) := by decide +kernel
theorem dX7_bestPlace_89 : decode cX7_bestPlace 89 = .ok (.iload 7, 2) := by decide +kernel
theorem dX7_bestPlace_91 : decode cX7_bestPlace 91 = .ok (.iload_n 2, 1) := by decide +kernel
theorem dX7_bestPlace_92 : decode cX7_bestPlace 92 = .ok (.if_icmp .le 9, 3) := by decide +kernel
theorem dX7_bestPlace_95 : decode cX7_bestPlace 95 = .ok (.iload 6, 2) := by decide +kernel
theorem dX7_bestPlace_97 : decode cX7_bestPlace 97 = .ok (.istore_n 1, 1) := by decide +kernel
theorem dX7_bestPlace_98 : decode cX7_bestPlace 98 = .ok (.iload 7, 2) := by decide +kernel
theorem dX7_bestPlace_100 : decode cX7_bestPlace 100 = .ok (.istore_n 2, 1) := by decide +kernel
theorem dX7_bestPlace_101 : decode cX7_bestPlace 101 = .ok (.iinc 6 1, 3) := by decide +kernel
theorem dX7_bestPlace_104 : decode cX7_bestPlace 104 = .ok (.goto (-70), 3) := by decide +kernel
theorem dX7_bestPlace_107 : decode cX7_bestPlace 107 = .ok (.iinc 3 1, 3) := by decide +kernel
theorem dX7_bestPlace_110 : decode cX7_bestPlace 110 = .ok (.goto (-104), 3) := by decide +kernel
theorem dX7_bestPlace_113 : decode cX7_bestPlace 113 = .ok (.iload_n 1, 1) := by decide +kernel
theorem dX7_bestPlace_114 : decode cX7_bestPlace 114 = .ok (.ireturn, 1) := by decide +kernel
theorem dX7_best_0 : decode cX7_best 0 = .ok (.aload_n 0, 1) := by decide +kernel
theorem dX7_best_1 : decode cX7_best 1 = .ok (.invokevirtual 153, 3) := by decide +kernel
theorem dX7_best_4 : decode cX7_best 4 = .ok (.aload_n 0, 1) := by decide +kernel
theorem dX7_best_5 : decode cX7_best 5 = .ok (.invokevirtual 184, 3) := by decide +kernel
theorem dX7_best_8 : decode cX7_best 8 = .ok (.istore_n 1, 1) := by decide +kernel
theorem dX7_best_9 : decode cX7_best 9 = .ok (.iload_n 1, 1) := by decide +kernel
theorem dX7_best_10 : decode cX7_best 10 = .ok (.ifCond .ge 12, 3) := by decide +kernel
theorem dX7_best_13 : decode cX7_best 13 = .ok (.aload_n 0, 1) := by decide +kernel
theorem dX7_best_14 : decode cX7_best 14 = .ok (.ldc 127, 2) := by decide +kernel
theorem dX7_best_16 : decode cX7_best 16 = .ok (.invokevirtual 104, 3) := by decide +kernel
theorem dX7_best_19 : decode cX7_best 19 = .ok (.goto 8, 3) := by decide +kernel
theorem dX7_best_22 : decode cX7_best 22 = .ok (.aload_n 0, 1) := by decide +kernel
theorem dX7_best_23 : decode cX7_best 23 = .ok (.iload_n 1, 1) := by decide +kernel
theorem dX7_best_24 : decode cX7_best 24 = .ok (.invokevirtual 150, 3) := by decide +kernel
theorem dX7_best_27 : decode cX7_best 27 = .ok (.ireturn, 1) := by decide +kernel
theorem dX7_eats_0 : decode cX7_eats 0 = .ok (.aload_n 0, 1) := by decide +kernel
theorem dX7_eats_1 : decode cX7_eats 1 = .ok (.iload_n 1, 1) := by decide +kernel
theorem dX7_eats_2 : decode cX7_eats 2 = .ok (.iload_n 2, 1) := by decide +kernel
theorem dX7_eats_3 : decode cX7_eats 3 = .ok (.iload_n 3, 1) := by decide +kernel
theorem dX7_eats_4 : decode cX7_eats 4 = .ok (.invokevirtual 166, 3) := by decide +kernel
theorem dX7_eats_7 : decode cX7_eats 7 = .ok (.iconst 0, 1) := by decide +kernel
theorem dX7_eats_8 : decode cX7_eats 8 = .ok (.istore 4, 2) := by decide +kernel
theorem dX7_eats_10 : decode cX7_eats 10 = .ok (.iload 4, 2) := by decide +kernel
theorem dX7_eats_12 : decode cX7_eats 12 = .ok (.bipush 8, 2) := by decide +kernel
theorem dX7_eats_14 : decode cX7_eats 14 = .ok (.if_icmp .ge 36, 3) := by decide +kernel
theorem dX7_eats_17 : decode cX7_eats 17 = .ok (.aload_n 0, 1) := by decide +kernel
theorem dX7_eats_18 : decode cX7_eats 18 = .ok (.getfield 7, 3) := by decide +kernel
theorem dX7_eats_21 : decode cX7_eats 21 = .ok (.iload 4, 2) := by decide +kernel
theorem dX7_eats_23 : decode cX7_eats 23 = .ok (.dup2, 1) := by decide +kernel
theorem dX7_eats_24 : decode cX7_eats 24 = .ok (.iaload, 1) := by decide +kernel
theorem dX7_eats_25 : decode cX7_eats 25 = .ok (.iload_n 2, 1) := by decide +kernel
theorem dX7_eats_26 : decode cX7_eats 26 = .ok (.invokestatic 90, 3) := by decide +kernel
theorem dX7_eats_29 : decode cX7_eats 29 = .ok (.iload 4, 2) := by decide +kernel
theorem dX7_eats_31 : decode cX7_eats 31 = .ok (.invokestatic 120, 3) := by decide +kernel
theorem dX7_eats_34 : decode cX7_eats 34 = .ok (.ifCond .eq 7, 3) := by decide +kernel
theorem dX7_eats_37 : decode cX7_eats 37 = .ok (.iconst 1, 1) := by decide +kernel
theorem dX7_eats_38 : decode cX7_eats 38 = .ok (.goto 4, 3) := by decide +kernel
theorem dX7_eats_41 : decode cX7_eats 41 = .ok (.iconst 0, 1) := by decide +kernel
theorem dX7_eats_42 : decode cX7_eats 42 = .ok (.isub, 1) := by decide +kernel
theorem dX7_eats_43 : decode cX7_eats 43 = .ok (.iastore, 1) := by decide +kernel
theorem dX7_eats_44 : decode cX7_eats 44 = .ok (.iinc 4 1, 3) := by decide +kernel
theorem dX7_eats_47 : decode cX7_eats 47 = .ok (.goto (-37), 3) := by decide +kernel
theorem dX7_eats_50 : decode cX7_eats 50 = .ok (.return_, 1) := by decide +kernel
theorem dX7_serve_0 : decode cX7_serve 0 = .ok (.iload_n 1, 1) := by decide +kernel
theorem dX7_serve_1 : decode cX7_serve 1 = .ok (.invokestatic 159, 3) := by decide +kernel
theorem dX7_serve_4 : decode cX7_serve 4 = .ok (.ifCond .eq 11, 3) := by decide +kernel
theorem dX7_serve_7 : decode cX7_serve 7 = .ok (.aload_n 0, 1) := by decide +kernel
theorem dX7_serve_8 : decode cX7_serve 8 = .ok (.iload_n 2, 1) := by decide +kernel
theorem dX7_serve_9 : decode cX7_serve 9 = .ok (.invokevirtual 131, 3) := by decide +kernel
theorem dX7_serve_12 : decode cX7_serve 12 = .ok (.ifCond .ne 10, 3) := by decide +kernel
theorem dX7_serve_15 : decode cX7_serve 15 = .ok (.aload_n 0, 1) := by decide +kernel
theorem dX7_serve_16 : decode cX7_serve 16 = .ok (.ldc 85, 2) := by decide +kernel
theorem dX7_serve_18 : decode cX7_serve 18 = .ok (.invokevirtual 104, 3) := by decide +kernel
theorem dX7_serve_21 : decode cX7_serve 21 = .ok (.ireturn, 1) := by decide +kernel
theorem dX7_serve_22 : decode cX7_serve 22 = .ok (.aload_n 0, 1) := by decide +kernel
theorem dX7_serve_23 : decode cX7_serve 23 = .ok (.iload_n 2, 1) := by decide +kernel
theorem dX7_serve_24 : decode cX7_serve 24 = .ok (.invokevirtual 137, 3) := by decide +kernel
theorem dX7_serve_27 : decode cX7_serve 27 = .ok (.ifCond .eq 26, 3) := by decide +kernel
theorem dX7_serve_30 : decode cX7_serve 30 = .ok (.iload_n 1, 1) := by decide +kernel
theorem dX7_serve_31 : decode cX7_serve 31 = .ok (.iconst 2, 1) := by decide +kernel
theorem dX7_serve_32 : decode cX7_serve 32 = .ok (.if_icmp .eq 11, 3) := by decide +kernel
theorem dX7_serve_35 : decode cX7_serve 35 = .ok (.aload_n 0, 1) := by decide +kernel
theorem dX7_serve_36 : decode cX7_serve 36 = .ok (.iload_n 2, 1) := by decide +kernel
theorem dX7_serve_37 : decode cX7_serve 37 = .ok (.invokevirtual 140, 3) := by decide +kernel
theorem dX7_serve_40 : decode cX7_serve 40 = .ok (.ifCond .eq 13, 3) := by decide +kernel
theorem dX7_serve_43 : decode cX7_serve 43 = .ok (.aload_n 0, 1) := by decide +kernel
theorem dX7_serve_44 : decode cX7_serve 44 = .ok (.getfield 163, 3) := by decide +kernel
theorem dX7_serve_47 : decode cX7_serve 47 = .ok (.sipush 9999, 3) := by decide +kernel
theorem dX7_serve_50 : decode cX7_serve 50 = .ok (.if_icmp .ne 10, 3) := by decide +kernel
theorem dX7_serve_53 : decode cX7_serve 53 = .ok (.aload_n 0, 1) := by decide +kernel
theorem dX7_serve_54 : decode cX7_serve 54 = .ok (.ldc 187, 2) := by decide +kernel
theorem dX7_serve_56 : decode cX7_serve 56 = .ok (.invokevirtual 104, 3) := by decide +kernel
theorem dX7_serve_59 : decode cX7_serve 59 = .ok (.ireturn, 1) := by decide +kernel
theorem dX7_serve_60 : decode cX7_serve 60 = .ok (.aload_n 0, 1) := by decide +kernel
theorem dX7_serve_61 : decode cX7_serve 61 = .ok (.getfield 93, 3) := by decide +kernel
theorem dX7_serve_64 : decode cX7_serve 64 = .ok (.bipush 30, 2) := by decide +kernel
theorem dX7_serve_66 : decode cX7_serve 66 = .ok (.if_icmp .ne 10, 3) := by decide +kernel
theorem dX7_serve_69 : decode cX7_serve 69 = .ok (.aload_n 0, 1) := by decide +kernel
theorem dX7_serve_70 : decode cX7_serve 70 = .ok (.ldc 162, 2) := by decide +kernel
theorem dX7_serve_72 : decode cX7_serve 72 = .ok (.invokevirtual 104, 3) := by decide +kernel
theorem dX7_serve_75 : decode cX7_serve 75 = .ok (.ireturn, 1) := by decide +kernel
theorem dX7_serve_76 : decode cX7_serve 76 = .ok (.aload_n 0, 1) := by decide +kernel
theorem dX7_serve_77 : decode cX7_serve 77 = .ok (.iload_n 1, 1) := by decide +kernel
theorem dX7_serve_78 : decode cX7_serve 78 = .ok (.iload_n 2, 1) := by decide +kernel
theorem dX7_serve_79 : decode cX7_serve 79 = .ok (.aload_n 0, 1) := by decide +kernel
theorem dX7_serve_80 : decode cX7_serve 80 = .ok (.getfield 163, 3) := by decide +kernel
theorem dX7_serve_83 : decode cX7_serve 83 = .ok (.invokevirtual 188, 3) := by decide +kernel
theorem dX7_serve_86 : decode cX7_serve 86 = .ok (.aload_n 0, 1) := by decide +kernel
theorem dX7_serve_87 : decode cX7_serve 87 = .ok (.dup, 1) := by decide +kernel
theorem dX7_serve_88 : decode cX7_serve 88 = .ok (.getfield 163, 3) := by decide +kernel
theorem dX7_serve_91 : decode cX7_serve 91 = .ok (.iconst 1, 1) := by decide +kernel
theorem dX7_serve_92 : decode cX7_serve 92 = .ok (.iadd, 1) := by decide +kernel
theorem dX7_serve_93 : decode cX7_serve 93 = .ok (.putfield 163, 3) := by decide +kernel
theorem dX7_serve_96 : decode cX7_serve 96 = .ok (.aload_n 0, 1) := by decide +kernel
theorem dX7_serve_97 : decode cX7_serve 97 = .ok (.getfield 93, 3) := by decide +kernel
theorem dX7_serve_100 : decode cX7_serve 100 = .ok (.iconst 1, 1) := by decide +kernel
theorem dX7_serve_101 : decode cX7_serve 101 = .ok (.isub, 1) := by decide +kernel
theorem dX7_serve_102 : decode cX7_serve 102 = .ok (.ireturn, 1) := by decide +kernel
theorem dX7_meals_0 : decode cX7_meals 0 = .ok (.iload_n 1, 1) := by decide +kernel
theorem dX7_meals_1 : decode cX7_meals 1 = .ok (.invokestatic 159, 3) := by decide +kernel
theorem dX7_meals_4 : decode cX7_meals 4 = .ok (.ifCond .eq 13, 3) := by decide +kernel
theorem dX7_meals_7 : decode cX7_meals 7 = .ok (.iload_n 2, 1) := by decide +kernel
theorem dX7_meals_8 : decode cX7_meals 8 = .ok (.iconst 1, 1) := by decide +kernel
theorem dX7_meals_9 : decode cX7_meals 9 = .ok (.bipush 30, 2) := by decide +kernel
theorem dX7_meals_11 : decode cX7_meals 11 = .ok (.invokestatic 86, 3) := by decide +kernel
theorem dX7_meals_14 : decode cX7_meals 14 = .ok (.ifCond .ne 10, 3) := by decide +kernel
theorem dX7_meals_17 : decode cX7_meals 17 = .ok (.aload_n 0, 1) := by decide +kernel
theorem dX7_meals_18 : decode cX7_meals 18 = .ok (.ldc 85, 2) := by decide +kernel
theorem dX7_meals_20 : decode cX7_meals 20 = .ok (.invokevirtual 104, 3) := by decide +kernel
theorem dX7_meals_23 : decode cX7_meals 23 = .ok (.ireturn, 1) := by decide +kernel
theorem dX7_meals_24 : decode cX7_meals 24 = .ok (.aload_n 0, 1) := by decide +kernel
theorem dX7_meals_25 : decode cX7_meals 25 = .ok (.getfield 163, 3) := by decide +kernel
theorem dX7_meals_28 : decode cX7_meals 28 = .ok (.iload_n 2, 1) := by decide +kernel
theorem dX7_meals_29 : decode cX7_meals 29 = .ok (.iadd, 1) := by decide +kernel
theorem dX7_meals_30 : decode cX7_meals 30 = .ok (.sipush 9999, 3) := by decide +kernel
theorem dX7_meals_33 : decode cX7_meals 33 = .ok (.if_icmp .le 10, 3) := by decide +kernel
theorem dX7_meals_36 : decode cX7_meals 36 = .ok (.aload_n 0, 1) := by decide +kernel
theorem dX7_meals_37 : decode cX7_meals 37 = .ok (.ldc 187, 2) := by decide +kernel
theorem dX7_meals_39 : decode cX7_meals 39 = .ok (.invokevirtual 104, 3) := by decide +kernel
theorem dX7_meals_42 : decode cX7_meals 42 = .ok (.ireturn, 1) := by decide +kernel
theorem dX7_meals_43 : decode cX7_meals 43 = .ok (.aload_n 0, 1) := by decide +kernel
theorem dX7_meals_44 : decode cX7_meals 44 = .ok (.invokevirtual 153, 3) := by decide +kernel
theorem dX7_meals_47 : decode cX7_meals 47 = .ok (.iconst 0, 1) := by decide +kernel
theorem dX7_meals_48 : decode cX7_meals 48 = .ok (.istore_n 3, 1) := by decide +kernel
theorem dX7_meals_49 : decode cX7_meals 49 = .ok (.aload_n 0, 1) := by decide +kernel
theorem dX7_meals_50 : decode cX7_meals 50 = .ok (.invokevirtual 184, 3) := by decide +kernel
theorem dX7_meals_53 : decode cX7_meals 53 = .ok (.istore 4, 2) := by decide +kernel
theorem dX7_meals_55 : decode cX7_meals 55 = .ok (.iload_n 3, 1) := by decide +kernel
theorem dX7_meals_56 : decode cX7_meals 56 = .ok (.iload_n 2, 1) := by decide +kernel
theorem dX7_meals_57 : decode cX7_meals 57 = .ok (.if_icmp .ge 64, 3) := by decide +kernel
theorem dX7_meals_60 : decode cX7_meals 60 = .ok (.iload 4, 2) := by decide +kernel
theorem dX7_meals_62 : decode cX7_meals 62 = .ok (.ifCond .lt 59, 3) := by decide +kernel
theorem dX7_meals_65 : decode cX7_meals 65 = .ok (.aload_n 0, 1) := by decide +kernel
theorem dX7_meals_66 : decode cX7_meals 66 = .ok (.getfield 93, 3) := by decide +kernel
theorem dX7_meals_69 : decode cX7_meals 69 = .ok (.bipush 30, 2) := by decide +kernel
theorem dX7_meals_71 : decode cX7_meals 71 = .ok (.if_icmp .ge 50, 3) := by decide +kernel
theorem dX7_meals_74 : decode cX7_meals 74 = .ok (.aload_n 0, 1) := by decide +kernel
theorem dX7_meals_75 : decode cX7_meals 75 = .ok (.iload_n 1, 1) := by decide +kernel
theorem dX7_meals_76 : decode cX7_meals 76 = .ok (.aload_n 0, 1) := by decide +kernel
theorem dX7_meals_77 : decode cX7_meals 77 = .ok (.iload 4, 2) := by decide +kernel
theorem dX7_meals_79 : decode cX7_meals 79 = .ok (.invokevirtual 150, 3) := by decide +kernel
theorem dX7_meals_82 : decode cX7_meals 82 = .ok (.aload_n 0, 1) := by decide +kernel
theorem dX7_meals_83 : decode cX7_meals 83 = .ok (.getfield 163, 3) := by decide +kernel
theorem dX7_meals_86 : decode cX7_meals 86 = .ok (.invokevirtual 188, 3) := by decide +kernel
theorem dX7_meals_89 : decode cX7_meals 89 = .ok (.aload_n 0, 1) := by decide +kernel
theorem dX7_meals_90 : decode cX7_meals 90 = .ok (.aload_n 0, 1) := by decide +kernel
theorem dX7_meals_91 : decode cX7_meals 91 = .ok (.getfield 93, 3) := by decide +kernel
theorem dX7_meals_94 : decode cX7_meals 94 = .ok (.iconst 1, 1) := by decide +kernel
theorem dX7_meals_95 : decode cX7_meals 95 = .ok (.isub, 1) := by decide +kernel
theorem dX7_meals_96 : decode cX7_meals 96 = .ok (.invokevirtual 146, 3) := by decide +kernel
theorem dX7_meals_99 : decode cX7_meals 99 = .ok (.aload_n 0, 1) := by decide +kernel
theorem dX7_meals_100 : decode cX7_meals 100 = .ok (.dup, 1) := by decide +kernel
theorem dX7_meals_101 : decode cX7_meals 101 = .ok (.getfield 163, 3) := by decide +kernel
theorem dX7_meals_104 : decode cX7_meals 104 = .ok (.iconst 1, 1) := by decide +kernel
theorem dX7_meals_105 : decode cX7_meals 105 = .ok (.iadd, 1) := by decide +kernel
theorem dX7_meals_106 : decode cX7_meals 106 = .ok (.putfield 163, 3) := by decide +kernel
theorem dX7_meals_109 : decode cX7_meals 109 = .ok (.iinc 3 1, 3) := by decide +kernel
theorem dX7_meals_112 : decode cX7_meals 112 = .ok (.aload_n 0, 1) := by decide +kernel
theorem dX7_meals_113 : decode cX7_meals 113 = .ok (.invokevirtual 184, 3) := by decide +kernel
theorem dX7_meals_116 : decode cX7_meals 116 = .ok (.istore 4, 2) := by decide +kernel
theorem dX7_meals_118 : decode cX7_meals 118 = .ok (.goto (-63), 3) := by decide +kernel
theorem dX7_meals_121 : decode cX7_meals 121 = .ok (.iload_n 3, 1) := by decide +kernel
theorem dX7_meals_122 : decode cX7_meals 122 = .ok (.ireturn, 1) := by decide +kernel
theorem dX7_begins0_0 : decode cX7_begins0 0 = .ok (.aload_n 0, 1) := by decide +kernel
theorem dX7_begins0_1 : decode cX7_begins0 1 = .ok (.aload_n 0, 1) := by decide +kernel
theorem dX7_begins0_2 : decode cX7_begins0 2 = .ok (.getfield 93, 3) := by decide +kernel
theorem dX7_begins0_5 : decode cX7_begins0 5 = .ok (.putfield 191, 3) := by decide +kernel
theorem dX7_begins0_8 : decode cX7_begins0 8 = .ok (.iconst 0, 1) := by decide +kernel
theorem dX7_begins0_9 : decode cX7_begins0 9 = .ok (.istore_n 1, 1) := by decide +kernel
theorem dX7_begins0_10 : decode cX7_begins0 10 = .ok (.iload_n 1, 1) := by decide +kernel
theorem dX7_begins0_11 : decode cX7_begins0 11 = .ok (.bipush 8, 2) := by decide +kernel
theorem dX7_begins0_13 : decode cX7_begins0 13 = .ok (.if_icmp .ge 21, 3) := by decide +kernel
theorem dX7_begins0_16 : decode cX7_begins0 16 = .ok (.aload_n 0, 1) := by decide +kernel
theorem dX7_begins0_17 : decode cX7_begins0 17 = .ok (.getfield 44, 3) := by decide +kernel
theorem dX7_begins0_20 : decode cX7_begins0 20 = .ok (.iload_n 1, 1) := by decide +kernel
theorem dX7_begins0_21 : decode cX7_begins0 21 = .ok (.aload_n 0, 1) := by decide +kernel
theorem dX7_begins0_22 : decode cX7_begins0 22 = .ok (.getfield 7, 3) := by decide +kernel
theorem dX7_begins0_25 : decode cX7_begins0 25 = .ok (.iload_n 1, 1) := by decide +kernel
theorem dX7_begins0_26 : decode cX7_begins0 26 = .ok (.iaload, 1) := by decide +kernel
theorem dX7_begins0_27 : decode cX7_begins0 27 = .ok (.iastore, 1) := by decide +kernel
theorem dX7_begins0_28 : decode cX7_begins0 28 = .ok (.iinc 1 1, 3) := by decide +kernel
theorem dX7_begins0_31 : decode cX7_begins0 31 = .ok (.goto (-21), 3) := by decide +kernel
theorem dX7_begins0_34 : decode cX7_begins0 34 = .ok (.aload_n 0, 1) := by decide +kernel
theorem dX7_begins0_35 : decode cX7_begins0 35 = .ok (.invokevirtual 153, 3) := by decide +kernel
theorem dX7_begins0_38 : decode cX7_begins0 38 = .ok (.return_, 1) := by decide +kernel
theorem dX7_back_0 : decode cX7_back 0 = .ok (.aload_n 0, 1) := by decide +kernel
theorem dX7_back_1 : decode cX7_back 1 = .ok (.aload_n 0, 1) := by decide +kernel
theorem dX7_back_2 : decode cX7_back 2 = .ok (.getfield 191, 3) := by decide +kernel
theorem dX7_back_5 : decode cX7_back 5 = .ok (.putfield 93, 3) := by decide +kernel
theorem dX7_back_8 : decode cX7_back 8 = .ok (.iconst 0, 1) := by decide +kernel
theorem dX7_back_9 : decode cX7_back 9 = .ok (.istore_n 1, 1) := by decide +kernel
theorem dX7_back_10 : decode cX7_back 10 = .ok (.iload_n 1, 1) := by decide +kernel
theorem dX7_back_11 : decode cX7_back 11 = .ok (.bipush 8, 2) := by decide +kernel
theorem dX7_back_13 : decode cX7_back 13 = .ok (.if_icmp .ge 21, 3) := by decide +kernel
theorem dX7_back_16 : decode cX7_back 16 = .ok (.aload_n 0, 1) := by decide +kernel
theorem dX7_back_17 : decode cX7_back 17 = .ok (.getfield 7, 3) := by decide +kernel
theorem dX7_back_20 : decode cX7_back 20 = .ok (.iload_n 1, 1) := by decide +kernel
theorem dX7_back_21 : decode cX7_back 21 = .ok (.aload_n 0, 1) := by decide +kernel
theorem dX7_back_22 : decode cX7_back 22 = .ok (.getfield 44, 3) := by decide +kernel
theorem dX7_back_25 : decode cX7_back 25 = .ok (.iload_n 1, 1) := by decide +kernel
theorem dX7_back_26 : decode cX7_back 26 = .ok (.iaload, 1) := by decide +kernel
theorem dX7_back_27 : decode cX7_back 27 = .ok (.iastore, 1) := by decide +kernel
theorem dX7_back_28 : decode cX7_back 28 = .ok (.iinc 1 1, 3) := by decide +kernel
theorem dX7_back_31 : decode cX7_back 31 = .ok (.goto (-21), 3) := by decide +kernel
theorem dX7_back_34 : decode cX7_back 34 = .ok (.return_, 1) := by decide +kernel
theorem dX7_goesOn_0 : decode cX7_goesOn 0 = .ok (.aload_n 0, 1) := by decide +kernel
theorem dX7_goesOn_1 : decode cX7_goesOn 1 = .ok (.invokevirtual 184, 3) := by decide +kernel
theorem dX7_goesOn_4 : decode cX7_goesOn 4 = .ok (.istore_n 2, 1) := by decide +kernel
theorem dX7_goesOn_5 : decode cX7_goesOn 5 = .ok (.iload_n 2, 1) := by decide +kernel
theorem dX7_goesOn_6 : decode cX7_goesOn 6 = .ok (.ifCond .ge 5, 3) := by decide +kernel
theorem dX7_goesOn_9 : decode cX7_goesOn 9 = .ok (.iconst (-1), 1) := by decide +kernel
theorem dX7_goesOn_10 : decode cX7_goesOn 10 = .ok (.ireturn, 1) := by decide +kernel
theorem dX7_goesOn_11 : decode cX7_goesOn 11 = .ok (.aload_n 0, 1) := by decide +kernel
theorem dX7_goesOn_12 : decode cX7_goesOn 12 = .ok (.iload_n 1, 1) := by decide +kernel
theorem dX7_goesOn_13 : decode cX7_goesOn 13 = .ok (.aload_n 0, 1) := by decide +kernel
theorem dX7_goesOn_14 : decode cX7_goesOn 14 = .ok (.iload_n 2, 1) := by decide +kernel
theorem dX7_goesOn_15 : decode cX7_goesOn 15 = .ok (.invokevirtual 150, 3) := by decide +kernel
theorem dX7_goesOn_18 : decode cX7_goesOn 18 = .ok (.iconst 0, 1) := by decide +kernel
theorem dX7_goesOn_19 : decode cX7_goesOn 19 = .ok (.invokevirtual 188, 3) := by decide +kernel
theorem dX7_goesOn_22 : decode cX7_goesOn 22 = .ok (.aload_n 0, 1) := by decide +kernel
theorem dX7_goesOn_23 : decode cX7_goesOn 23 = .ok (.aload_n 0, 1) := by decide +kernel
theorem dX7_goesOn_24 : decode cX7_goesOn 24 = .ok (.getfield 93, 3) := by decide +kernel
theorem dX7_goesOn_27 : decode cX7_goesOn 27 = .ok (.iconst 1, 1) := by decide +kernel
theorem dX7_goesOn_28 : decode cX7_goesOn 28 = .ok (.isub, 1) := by decide +kernel
theorem dX7_goesOn_29 : decode cX7_goesOn 29 = .ok (.invokevirtual 146, 3) := by decide +kernel
theorem dX7_goesOn_32 : decode cX7_goesOn 32 = .ok (.aload_n 0, 1) := by decide +kernel
theorem dX7_goesOn_33 : decode cX7_goesOn 33 = .ok (.iload_n 2, 1) := by decide +kernel
theorem dX7_goesOn_34 : decode cX7_goesOn 34 = .ok (.invokevirtual 150, 3) := by decide +kernel
theorem dX7_goesOn_37 : decode cX7_goesOn 37 = .ok (.ireturn, 1) := by decide +kernel
theorem dX7_on_0 : decode cX7_on 0 = .ok (.iload_n 1, 1) := by decide +kernel
theorem dX7_on_1 : decode cX7_on 1 = .ok (.invokestatic 159, 3) := by decide +kernel
theorem dX7_on_4 : decode cX7_on 4 = .ok (.ifCond .eq 13, 3) := by decide +kernel
theorem dX7_on_7 : decode cX7_on 7 = .ok (.iload_n 2, 1) := by decide +kernel
theorem dX7_on_8 : decode cX7_on 8 = .ok (.iconst 1, 1) := by decide +kernel
theorem dX7_on_9 : decode cX7_on 9 = .ok (.bipush 30, 2) := by decide +kernel
theorem dX7_on_11 : decode cX7_on 11 = .ok (.invokestatic 86, 3) := by decide +kernel
theorem dX7_on_14 : decode cX7_on 14 = .ok (.ifCond .ne 10, 3) := by decide +kernel
theorem dX7_on_17 : decode cX7_on 17 = .ok (.aload_n 0, 1) := by decide +kernel
theorem dX7_on_18 : decode cX7_on 18 = .ok (.ldc 85, 2) := by decide +kernel
theorem dX7_on_20 : decode cX7_on 20 = .ok (.invokevirtual 104, 3) := by decide +kernel
theorem dX7_on_23 : decode cX7_on 23 = .ok (.ireturn, 1) := by decide +kernel
theorem dX7_on_24 : decode cX7_on 24 = .ok (.aload_n 0, 1) := by decide +kernel
theorem dX7_on_25 : decode cX7_on 25 = .ok (.invokevirtual 194, 3) := by decide +kernel
theorem dX7_on_28 : decode cX7_on 28 = .ok (.iconst 0, 1) := by decide +kernel
theorem dX7_on_29 : decode cX7_on 29 = .ok (.istore_n 3, 1) := by decide +kernel
theorem dX7_on_30 : decode cX7_on 30 = .ok (.iconst 0, 1) := by decide +kernel
theorem dX7_on_31 : decode cX7_on 31 = .ok (.istore 4, 2) := by decide +kernel
theorem dX7_on_33 : decode cX7_on 33 = .ok (.iload 4, 2) := by decide +kernel
theorem dX7_on_35 : decode cX7_on 35 = .ok (.iload_n 2, 1) := by decide +kernel
theorem dX7_on_36 : decode cX7_on 36 = .ok (.if_icmp .ge 19, 3) := by decide +kernel
theorem dX7_on_39 : decode cX7_on 39 = .ok (.iload_n 3, 1) := by decide +kernel
theorem dX7_on_40 : decode cX7_on 40 = .ok (.ifCond .lt 15, 3) := by decide +kernel
theorem dX7_on_43 : decode cX7_on 43 = .ok (.aload_n 0, 1) := by decide +kernel
theorem dX7_on_44 : decode cX7_on 44 = .ok (.iload_n 1, 1) := by decide +kernel
theorem dX7_on_45 : decode cX7_on 45 = .ok (.invokevirtual 197, 3) := by decide +kernel
theorem dX7_on_48 : decode cX7_on 48 = .ok (.istore_n 3, 1) := by decide +kernel
theorem dX7_on_49 : decode cX7_on 49 = .ok (.iinc 4 1, 3) := by decide +kernel
theorem dX7_on_52 : decode cX7_on 52 = .ok (.goto (-19), 3) := by decide +kernel
theorem dX7_on_55 : decode cX7_on 55 = .ok (.aload_n 0, 1) := by decide +kernel
theorem dX7_on_56 : decode cX7_on 56 = .ok (.invokevirtual 200, 3) := by decide +kernel
theorem dX7_on_59 : decode cX7_on 59 = .ok (.iload_n 3, 1) := by decide +kernel
theorem dX7_on_60 : decode cX7_on 60 = .ok (.ifCond .ge 12, 3) := by decide +kernel
theorem dX7_on_63 : decode cX7_on 63 = .ok (.aload_n 0, 1) := by decide +kernel
theorem dX7_on_64 : decode cX7_on 64 = .ok (.ldc 127, 2) := by decide +kernel
theorem dX7_on_66 : decode cX7_on 66 = .ok (.invokevirtual 104, 3) := by decide +kernel
theorem dX7_on_69 : decode cX7_on 69 = .ok (.goto 4, 3) := by decide +kernel
theorem dX7_on_72 : decode cX7_on 72 = .ok (.iload_n 3, 1) := by decide +kernel
theorem dX7_on_73 : decode cX7_on 73 = .ok (.ireturn, 1) := by decide +kernel
theorem dX7_lastsBy_0 : decode cX7_lastsBy 0 = .ok (.aload_n 0, 1) := by decide +kernel
theorem dX7_lastsBy_1 : decode cX7_lastsBy 1 = .ok (.invokevirtual 194, 3) := by decide +kernel
theorem dX7_lastsBy_4 : decode cX7_lastsBy 4 = .ok (.iconst 0, 1) := by decide +kernel
theorem dX7_lastsBy_5 : decode cX7_lastsBy 5 = .ok (.istore_n 2, 1) := by decide +kernel
theorem dX7_lastsBy_6 : decode cX7_lastsBy 6 = .ok (.iload_n 2, 1) := by decide +kernel
theorem dX7_lastsBy_7 : decode cX7_lastsBy 7 = .ok (.bipush 60, 2) := by decide +kernel
theorem dX7_lastsBy_9 : decode cX7_lastsBy 9 = .ok (.if_icmp .ge 17, 3) := by decide +kernel
theorem dX7_lastsBy_12 : decode cX7_lastsBy 12 = .ok (.aload_n 0, 1) := by decide +kernel
theorem dX7_lastsBy_13 : decode cX7_lastsBy 13 = .ok (.iload_n 1, 1) := by decide +kernel
theorem dX7_lastsBy_14 : decode cX7_lastsBy 14 = .ok (.invokevirtual 197, 3) := by decide +kernel
theorem dX7_lastsBy_17 : decode cX7_lastsBy 17 = .ok (.ifCond .lt 9, 3) := by decide +kernel
theorem dX7_lastsBy_20 : decode cX7_lastsBy 20 = .ok (.iinc 2 1, 3) := by decide +kernel
theorem dX7_lastsBy_23 : decode cX7_lastsBy 23 = .ok (.goto (-17), 3) := by decide +kernel
theorem dX7_lastsBy_26 : decode cX7_lastsBy 26 = .ok (.aload_n 0, 1) := by decide +kernel
theorem dX7_lastsBy_27 : decode cX7_lastsBy 27 = .ok (.invokevirtual 200, 3) := by decide +kernel
theorem dX7_lastsBy_30 : decode cX7_lastsBy 30 = .ok (.iload_n 2, 1) := by decide +kernel
theorem dX7_lastsBy_31 : decode cX7_lastsBy 31 = .ok (.ireturn, 1) := by decide +kernel
theorem dX7_lasts_0 : decode cX7_lasts 0 = .ok (.iload_n 1, 1) := by decide +kernel
theorem dX7_lasts_1 : decode cX7_lasts 1 = .ok (.invokestatic 159, 3) := by decide +kernel
theorem dX7_lasts_4 : decode cX7_lasts 4 = .ok (.ifCond .eq 11, 3) := by decide +kernel
theorem dX7_lasts_7 : decode cX7_lasts 7 = .ok (.aload_n 0, 1) := by decide +kernel
theorem dX7_lasts_8 : decode cX7_lasts 8 = .ok (.iload_n 1, 1) := by decide +kernel
theorem dX7_lasts_9 : decode cX7_lasts 9 = .ok (.invokevirtual 203, 3) := by decide +kernel
theorem dX7_lasts_12 : decode cX7_lasts 12 = .ok (.goto 9, 3) := by decide +kernel
theorem dX7_lasts_15 : decode cX7_lasts 15 = .ok (.aload_n 0, 1) := by decide +kernel
theorem dX7_lasts_16 : decode cX7_lasts 16 = .ok (.ldc 85, 2) := by decide +kernel
theorem dX7_lasts_18 : decode cX7_lasts 18 = .ok (.invokevirtual 104, 3) := by decide +kernel
theorem dX7_lasts_21 : decode cX7_lasts 21 = .ok (.ireturn, 1) := by decide +kernel
theorem dX7_buy_0 : decode cX7_buy 0 = .ok (.iload_n 1, 1) := by decide +kernel
theorem dX7_buy_1 : decode cX7_buy 1 = .ok (.invokestatic 159, 3) := by decide +kernel
theorem dX7_buy_4 : decode cX7_buy 4 = .ok (.ifCond .ne 10, 3) := by decide +kernel
theorem dX7_buy_7 : decode cX7_buy 7 = .ok (.aload_n 0, 1) := by decide +kernel
theorem dX7_buy_8 : decode cX7_buy 8 = .ok (.ldc 85, 2) := by decide +kernel
theorem dX7_buy_10 : decode cX7_buy 10 = .ok (.invokevirtual 104, 3) := by decide +kernel
theorem dX7_buy_13 : decode cX7_buy 13 = .ok (.ireturn, 1) := by decide +kernel
theorem dX7_buy_14 : decode cX7_buy 14 = .ok (.aload_n 0, 1) := by decide +kernel
theorem dX7_buy_15 : decode cX7_buy 15 = .ok (.iload_n 1, 1) := by decide +kernel
theorem dX7_buy_16 : decode cX7_buy 16 = .ok (.invokevirtual 203, 3) := by decide +kernel
theorem dX7_buy_19 : decode cX7_buy 19 = .ok (.istore_n 2, 1) := by decide +kernel
theorem dX7_buy_20 : decode cX7_buy 20 = .ok (.iconst (-1), 1) := by decide +kernel
theorem dX7_buy_21 : decode cX7_buy 21 = .ok (.istore_n 3, 1) := by decide +kernel
theorem dX7_buy_22 : decode cX7_buy 22 = .ok (.iconst 0, 1) := by decide +kernel
theorem dX7_buy_23 : decode cX7_buy 23 = .ok (.istore 4, 2) := by decide +kernel
theorem dX7_buy_25 : decode cX7_buy 25 = .ok (.iload 4, 2) := by decide +kernel
theorem dX7_buy_27 : decode cX7_buy 27 = .ok (.bipush 8, 2) := by decide +kernel
theorem dX7_buy_29 : decode cX7_buy 29 = .ok (.if_icmp .ge 64, 3) := by decide +kernel
theorem dX7_buy_32 : decode cX7_buy 32 = .ok (.aload_n 0, 1) := by decide +kernel
theorem dX7_buy_33 : decode cX7_buy 33 = .ok (.getfield 7, 3) := by decide +kernel
theorem dX7_buy_36 : decode cX7_buy 36 = .ok (.iload 4, 2) := by decide +kernel
theorem dX7_buy_38 : decode cX7_buy 38 = .ok (.dup2, 1) := by decide +kernel
theorem dX7_buy_39 : decode cX7_buy 39 = .ok (.iaload, 1) := by decide +kernel
theorem dX7_buy_40 : decode cX7_buy 40 = .ok (.iconst 1, 1) := by decide +kernel
theorem dX7_buy_41 : decode cX7_buy 41 = .ok (.iadd, 1) := by decide +kernel
theorem dX7_buy_42 : decode cX7_buy 42 = .ok (.iastore, 1) := by decide +kernel
theorem dX7_buy_43 : decode cX7_buy 43 = .ok (.aload_n 0, 1) := by decide +kernel
theorem dX7_buy_44 : decode cX7_buy 44 = .ok (.iload_n 1, 1) := by decide +kernel
theorem dX7_buy_45 : decode cX7_buy 45 = .ok (.invokevirtual 203, 3) := by decide +kernel
theorem dX7_buy_48 : decode cX7_buy 48 = .ok (.istore 5, 2) := by decide +kernel
theorem dX7_buy_50 : decode cX7_buy 50 = .ok (.aload_n 0, 1) := by decide +kernel
theorem dX7_buy_51 : decode cX7_buy 51 = .ok (.getfield 7, 3) := by decide +kernel
theorem dX7_buy_54 : decode cX7_buy 54 = .ok (.iload 4, 2) := by decide +kernel
theorem dX7_buy_56 : decode cX7_buy 56 = .ok (.dup2, 1) := by decide +kernel
theorem dX7_buy_57 : decode cX7_buy 57 = .ok (.iaload, 1) := by decide +kernel
theorem dX7_buy_58 : decode cX7_buy 58 = .ok (.iconst 1, 1) := by decide +kernel
theorem dX7_buy_59 : decode cX7_buy 59 = .ok (.isub, 1) := by decide +kernel
theorem dX7_buy_60 : decode cX7_buy 60 = .ok (.iastore, 1) := by decide +kernel
theorem dX7_buy_61 : decode cX7_buy 61 = .ok (.iload 5, 2) := by decide +kernel
theorem dX7_buy_63 : decode cX7_buy 63 = .ok (.iload_n 2, 1) := by decide +kernel
theorem dX7_buy_64 : decode cX7_buy 64 = .ok (.if_icmp .le 8, 3) := by decide +kernel
theorem dX7_buy_67 : decode cX7_buy 67 = .ok (.iload 4, 2) := by decide +kernel
theorem dX7_buy_69 : decode cX7_buy 69 = .ok (.goto 4, 3) := by decide +kernel
theorem dX7_buy_72 : decode cX7_buy 72 = .ok (.iload_n 3, 1) := by decide +kernel
theorem dX7_buy_73 : decode cX7_buy 73 = .ok (.istore_n 3, 1) := by decide +kernel
theorem dX7_buy_74 : decode cX7_buy 74 = .ok (.iload 5, 2) := by decide +kernel
theorem dX7_buy_76 : decode cX7_buy 76 = .ok (.iload_n 2, 1) := by decide +kernel
theorem dX7_buy_77 : decode cX7_buy 77 = .ok (.if_icmp .le 8, 3) := by decide +kernel
theorem dX7_buy_80 : decode cX7_buy 80 = .ok (.iload 5, 2) := by decide +kernel
theorem dX7_buy_82 : decode cX7_buy 82 = .ok (.goto 4, 3) := by decide +kernel
theorem dX7_buy_85 : decode cX7_buy 85 = .ok (.iload_n 2, 1) := by decide +kernel
theorem dX7_buy_86 : decode cX7_buy 86 = .ok (.istore_n 2, 1) := by decide +kernel
theorem dX7_buy_87 : decode cX7_buy 87 = .ok (.iinc 4 1, 3) := by decide +kernel
theorem dX7_buy_90 : decode cX7_buy 90 = .ok (.goto (-65), 3) := by decide +kernel
theorem dX7_buy_93 : decode cX7_buy 93 = .ok (.iload_n 3, 1) := by decide +kernel
theorem dX7_buy_94 : decode cX7_buy 94 = .ok (.ifCond .ge 12, 3) := by decide +kernel
theorem dX7_buy_97 : decode cX7_buy 97 = .ok (.aload_n 0, 1) := by decide +kernel
theorem dX7_buy_98 : decode cX7_buy 98 = .ok (.ldc 127, 2) := by decide +kernel
theorem dX7_buy_100 : decode cX7_buy 100 = .ok (.invokevirtual 104, 3) := by decide +kernel
theorem dX7_buy_103 : decode cX7_buy 103 = .ok (.goto 4, 3) := by decide +kernel
theorem dX7_buy_106 : decode cX7_buy 106 = .ok (.iload_n 3, 1) := by decide +kernel
theorem dX7_buy_107 : decode cX7_buy 107 = .ok (.ireturn, 1) := by decide +kernel
theorem dX7_comesTo_0 : decode cX7_comesTo 0 = .ok (.aload_n 0, 1) := by decide +kernel
theorem dX7_comesTo_1 : decode cX7_comesTo 1 = .ok (.getfield 47, 3) := by decide +kernel
theorem dX7_comesTo_4 : decode cX7_comesTo 4 = .ok (.iload_n 1, 1) := by decide +kernel
theorem dX7_comesTo_5 : decode cX7_comesTo 5 = .ok (.iaload, 1) := by decide +kernel
theorem dX7_comesTo_6 : decode cX7_comesTo 6 = .ok (.ifCond .ge 39, 3) := by decide +kernel
theorem dX7_comesTo_9 : decode cX7_comesTo 9 = .ok (.aload_n 0, 1) := by decide +kernel
theorem dX7_comesTo_10 : decode cX7_comesTo 10 = .ok (.getfield 53, 3) := by decide +kernel
theorem dX7_comesTo_13 : decode cX7_comesTo 13 = .ok (.iload_n 1, 1) := by decide +kernel
theorem dX7_comesTo_14 : decode cX7_comesTo 14 = .ok (.baload, 1) := by decide +kernel
theorem dX7_comesTo_15 : decode cX7_comesTo 15 = .ok (.ifCond .eq 30, 3) := by decide +kernel
theorem dX7_comesTo_18 : decode cX7_comesTo 18 = .ok (.aload_n 0, 1) := by decide +kernel
theorem dX7_comesTo_19 : decode cX7_comesTo 19 = .ok (.getfield 47, 3) := by decide +kernel
theorem dX7_comesTo_22 : decode cX7_comesTo 22 = .ok (.iload_n 1, 1) := by decide +kernel
theorem dX7_comesTo_23 : decode cX7_comesTo 23 = .ok (.iload_n 2, 1) := by decide +kernel
theorem dX7_comesTo_24 : decode cX7_comesTo 24 = .ok (.iastore, 1) := by decide +kernel
theorem dX7_comesTo_25 : decode cX7_comesTo 25 = .ok (.aload_n 0, 1) := by decide +kernel
theorem dX7_comesTo_26 : decode cX7_comesTo 26 = .ok (.getfield 50, 3) := by decide +kernel
theorem dX7_comesTo_29 : decode cX7_comesTo 29 = .ok (.aload_n 0, 1) := by decide +kernel
theorem dX7_comesTo_30 : decode cX7_comesTo 30 = .ok (.getfield 206, 3) := by decide +kernel
theorem dX7_comesTo_33 : decode cX7_comesTo 33 = .ok (.iload_n 1, 1) := by decide +kernel
theorem dX7_comesTo_34 : decode cX7_comesTo 34 = .ok (.iastore, 1) := by decide +kernel
theorem dX7_comesTo_35 : decode cX7_comesTo 35 = .ok (.aload_n 0, 1) := by decide +kernel
theorem dX7_comesTo_36 : decode cX7_comesTo 36 = .ok (.dup, 1) := by decide +kernel
theorem dX7_comesTo_37 : decode cX7_comesTo 37 = .ok (.getfield 206, 3) := by decide +kernel
theorem dX7_comesTo_40 : decode cX7_comesTo 40 = .ok (.iconst 1, 1) := by decide +kernel
theorem dX7_comesTo_41 : decode cX7_comesTo 41 = .ok (.iadd, 1) := by decide +kernel
theorem dX7_comesTo_42 : decode cX7_comesTo 42 = .ok (.putfield 206, 3) := by decide +kernel
theorem dX7_comesTo_45 : decode cX7_comesTo 45 = .ok (.return_, 1) := by decide +kernel
theorem dX7_goesFrom_0 : decode cX7_goesFrom 0 = .ok (.aload_n 0, 1) := by decide +kernel
theorem dX7_goesFrom_1 : decode cX7_goesFrom 1 = .ok (.getfield 34, 3) := by decide +kernel
theorem dX7_goesFrom_4 : decode cX7_goesFrom 4 = .ok (.aload_n 0, 1) := by decide +kernel
theorem dX7_goesFrom_5 : decode cX7_goesFrom 5 = .ok (.getfield 31, 3) := by decide +kernel
theorem dX7_goesFrom_8 : decode cX7_goesFrom 8 = .ok (.iload_n 1, 1) := by decide +kernel
theorem dX7_goesFrom_9 : decode cX7_goesFrom 9 = .ok (.bipush 20, 2) := by decide +kernel
theorem dX7_goesFrom_11 : decode cX7_goesFrom 11 = .ok (.idiv, 1) := by decide +kernel
theorem dX7_goesFrom_12 : decode cX7_goesFrom 12 = .ok (.iaload, 1) := by decide +kernel
theorem dX7_goesFrom_13 : decode cX7_goesFrom 13 = .ok (.iaload, 1) := by decide +kernel
theorem dX7_goesFrom_14 : decode cX7_goesFrom 14 = .ok (.istore_n 2, 1) := by decide +kernel
theorem dX7_goesFrom_15 : decode cX7_goesFrom 15 = .ok (.aload_n 0, 1) := by decide +kernel
theorem dX7_goesFrom_16 : decode cX7_goesFrom 16 = .ok (.getfield 31, 3) := by decide +kernel
theorem dX7_goesFrom_19 : decode cX7_goesFrom 19 = .ok (.iload_n 2, 1) := by decide +kernel
theorem dX7_goesFrom_20 : decode cX7_goesFrom 20 = .ok (.iaload, 1) := by decide +kernel
theorem dX7_goesFrom_21 : decode cX7_goesFrom 21 = .ok (.istore_n 3, 1) := by decide +kernel
theorem dX7_goesFrom_22 : decode cX7_goesFrom 22 = .ok (.iload_n 1, 1) := by decide +kernel
theorem dX7_goesFrom_23 : decode cX7_goesFrom 23 = .ok (.bipush 20, 2) := by decide +kernel
theorem dX7_goesFrom_25 : decode cX7_goesFrom 25 = .ok (.irem, 1) := by decide +kernel
theorem dX7_goesFrom_26 : decode cX7_goesFrom 26 = .ok (.istore 4, 2) := by decide +kernel
theorem dX7_goesFrom_28 : decode cX7_goesFrom 28 = .ok (.aload_n 0, 1) := by decide +kernel
theorem dX7_goesFrom_29 : decode cX7_goesFrom 29 = .ok (.getfield 47, 3) := by decide +kernel
theorem dX7_goesFrom_32 : decode cX7_goesFrom 32 = .ok (.iload_n 1, 1) := by decide +kernel
theorem dX7_goesFrom_33 : decode cX7_goesFrom 33 = .ok (.iaload, 1) := by decide +kernel
theorem dX7_goesFrom_34 : decode cX7_goesFrom 34 = .ok (.iconst 1, 1) := by decide +kernel
theorem dX7_goesFrom_35 : decode cX7_goesFrom 35 = .ok (.iadd, 1) := by decide +kernel
theorem dX7_goesFrom_36 : decode cX7_goesFrom 36 = .ok (.istore 5, 2) := by decide +kernel
theorem dX7_goesFrom_38 : decode cX7_goesFrom 38 = .ok (.iconst 0, 1) := by decide +kernel
theorem dX7_goesFrom_39 : decode cX7_goesFrom 39 = .ok (.istore 6, 2) := by decide +kernel
theorem dX7_goesFrom_41 : decode cX7_goesFrom 41 = .ok (.iload 6, 2) := by decide +kernel
theorem dX7_goesFrom_43 : decode cX7_goesFrom 43 = .ok (.bipush 8, 2) := by decide +kernel
theorem dX7_goesFrom_45 : decode cX7_goesFrom 45 = .ok (.if_icmp .ge 41, 3) := by decide +kernel
theorem dX7_goesFrom_48 : decode cX7_goesFrom 48 = .ok (.aload_n 0, 1) := by decide +kernel
theorem dX7_goesFrom_49 : decode cX7_goesFrom 49 = .ok (.getfield 34, 3) := by decide +kernel
theorem dX7_goesFrom_52 : decode cX7_goesFrom 52 = .ok (.iload_n 3, 1) := by decide +kernel
theorem dX7_goesFrom_53 : decode cX7_goesFrom 53 = .ok (.iconst 1, 1) := by decide +kernel
theorem dX7_goesFrom_54 : decode cX7_goesFrom 54 = .ok (.iload 6, 2) := by decide +kernel
theorem dX7_goesFrom_56 : decode cX7_goesFrom 56 = .ok (.ishl, 1) := by decide +kernel
theorem dX7_goesFrom_57 : decode cX7_goesFrom 57 = .ok (.ixor, 1) := by decide +kernel
theorem dX7_goesFrom_58 : decode cX7_goesFrom 58 = .ok (.iaload, 1) := by decide +kernel
theorem dX7_goesFrom_59 : decode cX7_goesFrom 59 = .ok (.istore 7, 2) := by decide +kernel
theorem dX7_goesFrom_61 : decode cX7_goesFrom 61 = .ok (.iload 7, 2) := by decide +kernel
theorem dX7_goesFrom_63 : decode cX7_goesFrom 63 = .ok (.ifCond .lt 17, 3) := by decide +kernel
theorem dX7_goesFrom_66 : decode cX7_goesFrom 66 = .ok (.aload_n 0, 1) := by decide +kernel
theorem dX7_goesFrom_67 : decode cX7_goesFrom 67 = .ok (.bipush 20, 2) := by decide +kernel
theorem dX7_goesFrom_69 : decode cX7_goesFrom 69 = .ok (.iload 7, 2) := by decide +kernel
theorem dX7_goesFrom_71 : decode cX7_goesFrom 71 = .ok (.imul, 1) := by decide +kernel
theorem dX7_goesFrom_72 : decode cX7_goesFrom 72 = .ok (.iload 4, 2) := by decide +kernel
theorem dX7_goesFrom_74 : decode cX7_goesFrom 74 = .ok (.iadd, 1) := by decide +kernel
theorem dX7_goesFrom_75 : decode cX7_goesFrom 75 = .ok (.iload 5, 2) := by decide +kernel
theorem dX7_goesFrom_77 : decode cX7_goesFrom 77 = .ok (.invokevirtual 209, 3) := by decide +kernel
theorem dX7_goesFrom_80 : decode cX7_goesFrom 80 = .ok (.iinc 6 1, 3) := by decide +kernel
theorem dX7_goesFrom_83 : decode cX7_goesFrom 83 = .ok (.goto (-42), 3) := by decide +kernel
theorem dX7_goesFrom_86 : decode cX7_goesFrom 86 = .ok (.iconst 0, 1) := by decide +kernel
theorem dX7_goesFrom_87 : decode cX7_goesFrom 87 = .ok (.istore 6, 2) := by decide +kernel
theorem dX7_goesFrom_89 : decode cX7_goesFrom 89 = .ok (.iload 6, 2) := by decide +kernel
theorem dX7_goesFrom_91 : decode cX7_goesFrom 91 = .ok (.iconst 5, 1) := by decide +kernel
theorem dX7_goesFrom_92 : decode cX7_goesFrom 92 = .ok (.if_icmp .ge 29, 3) := by decide +kernel
theorem dX7_goesFrom_95 : decode cX7_goesFrom 95 = .ok (.aload_n 0, 1) := by decide +kernel
theorem dX7_goesFrom_96 : decode cX7_goesFrom 96 = .ok (.bipush 20, 2) := by decide +kernel
theorem dX7_goesFrom_98 : decode cX7_goesFrom 98 = .ok (.iload_n 2, 1) := by decide +kernel
theorem dX7_goesFrom_99 : decode cX7_goesFrom 99 = .ok (.imul, 1) := by decide +kernel
theorem dX7_goesFrom_100 : decode cX7_goesFrom 100 = .ok (.iconst 4, 1) := by decide +kernel
theorem dX7_goesFrom_101 : decode cX7_goesFrom 101 = .ok (.iload 6, 2) := by decide +kernel
theorem dX7_goesFrom_103 : decode cX7_goesFrom 103 = .ok (.imul, 1) := by decide +kernel
theorem dX7_goesFrom_104 : decode cX7_goesFrom 104 = .ok (.iadd, 1) := by decide +kernel
theorem dX7_goesFrom_105 : decode cX7_goesFrom 105 = .ok (.iload 4, 2) := by decide +kernel
theorem dX7_goesFrom_107 : decode cX7_goesFrom 107 = .ok (.iconst 4, 1) := by decide +kernel
theorem dX7_goesFrom_108 : decode cX7_goesFrom 108 = .ok (.irem, 1) := by decide +kernel
theorem dX7_goesFrom_109 : decode cX7_goesFrom 109 = .ok (.iadd, 1) := by decide +kernel
theorem dX7_goesFrom_110 : decode cX7_goesFrom 110 = .ok (.iload 5, 2) := by decide +kernel
theorem dX7_goesFrom_112 : decode cX7_goesFrom 112 = .ok (.invokevirtual 209, 3) := by decide +kernel
theorem dX7_goesFrom_115 : decode cX7_goesFrom 115 = .ok (.iinc 6 1, 3) := by decide +kernel
theorem dX7_goesFrom_118 : decode cX7_goesFrom 118 = .ok (.goto (-29), 3) := by decide +kernel
theorem dX7_goesFrom_121 : decode cX7_goesFrom 121 = .ok (.iconst 0, 1) := by decide +kernel
theorem dX7_goesFrom_122 : decode cX7_goesFrom 122 = .ok (.istore 6, 2) := by decide +kernel
theorem dX7_goesFrom_124 : decode cX7_goesFrom 124 = .ok (.iload 6, 2) := by decide +kernel
theorem dX7_goesFrom_126 : decode cX7_goesFrom 126 = .ok (.iconst 4, 1) := by decide +kernel
theorem dX7_goesFrom_127 : decode cX7_goesFrom 127 = .ok (.if_icmp .ge 29, 3) := by decide +kernel
theorem dX7_goesFrom_130 : decode cX7_goesFrom 130 = .ok (.aload_n 0, 1) := by decide +kernel
theorem dX7_goesFrom_131 : decode cX7_goesFrom 131 = .ok (.bipush 20, 2) := by decide +kernel
theorem dX7_goesFrom_133 : decode cX7_goesFrom 133 = .ok (.iload_n 2, 1) := by decide +kernel
theorem dX7_goesFrom_134 : decode cX7_goesFrom 134 = .ok (.imul, 1) := by decide +kernel
theorem dX7_goesFrom_135 : decode cX7_goesFrom 135 = .ok (.iload 4, 2) := by decide +kernel
theorem dX7_goesFrom_137 : decode cX7_goesFrom 137 = .ok (.iconst 4, 1) := by decide +kernel
theorem dX7_goesFrom_138 : decode cX7_goesFrom 138 = .ok (.idiv, 1) := by decide +kernel
theorem dX7_goesFrom_139 : decode cX7_goesFrom 139 = .ok (.iconst 4, 1) := by decide +kernel
theorem dX7_goesFrom_140 : decode cX7_goesFrom 140 = .ok (.imul, 1) := by decide +kernel
theorem dX7_goesFrom_141 : decode cX7_goesFrom 141 = .ok (.iadd, 1) := by decide +kernel
theorem dX7_goesFrom_142 : decode cX7_goesFrom 142 = .ok (.iload 6, 2) := by decide +kernel
theorem dX7_goesFrom_144 : decode cX7_goesFrom 144 = .ok (.iadd, 1) := by decide +kernel
theorem dX7_goesFrom_145 : decode cX7_goesFrom 145 = .ok (.iload 5, 2) := by decide +kernel
theorem dX7_goesFrom_147 : decode cX7_goesFrom 147 = .ok (.invokevirtual 209, 3) := by decide +kernel
theorem dX7_goesFrom_150 : decode cX7_goesFrom 150 = .ok (.iinc 6 1, 3) := by decide +kernel
theorem dX7_goesFrom_153 : decode cX7_goesFrom 153 = .ok (.goto (-29), 3) := by decide +kernel
theorem dX7_goesFrom_156 : decode cX7_goesFrom 156 = .ok (.return_, 1) := by decide +kernel
theorem dX7_findSteps_0 : decode cX7_findSteps 0 = .ok (.aload_n 0, 1) := by decide +kernel
theorem dX7_findSteps_1 : decode cX7_findSteps 1 = .ok (.invokevirtual 153, 3) := by decide +kernel
theorem dX7_findSteps_4 : decode cX7_findSteps 4 = .ok (.iconst 0, 1) := by decide +kernel
theorem dX7_findSteps_5 : decode cX7_findSteps 5 = .ok (.istore_n 2, 1) := by decide +kernel
theorem dX7_findSteps_6 : decode cX7_findSteps 6 = .ok (.iload_n 2, 1) := by decide +kernel
theorem dX7_findSteps_7 : decode cX7_findSteps 7 = .ok (.sipush 1840, 3) := by decide +kernel
theorem dX7_findSteps_10 : decode cX7_findSteps 10 = .ok (.if_icmp .ge 27, 3) := by decide +kernel
theorem dX7_findSteps_13 : decode cX7_findSteps 13 = .ok (.aload_n 0, 1) := by decide +kernel
theorem dX7_findSteps_14 : decode cX7_findSteps 14 = .ok (.getfield 47, 3) := by decide +kernel
theorem dX7_findSteps_17 : decode cX7_findSteps 17 = .ok (.iload_n 2, 1) := by decide +kernel
theorem dX7_findSteps_18 : decode cX7_findSteps 18 = .ok (.iconst (-1), 1) := by decide +kernel
theorem dX7_findSteps_19 : decode cX7_findSteps 19 = .ok (.iastore, 1) := by decide +kernel
theorem dX7_findSteps_20 : decode cX7_findSteps 20 = .ok (.aload_n 0, 1) := by decide +kernel
theorem dX7_findSteps_21 : decode cX7_findSteps 21 = .ok (.getfield 53, 3) := by decide +kernel
theorem dX7_findSteps_24 : decode cX7_findSteps 24 = .ok (.iload_n 2, 1) := by decide +kernel
theorem dX7_findSteps_25 : decode cX7_findSteps 25 = .ok (.aload_n 0, 1) := by decide +kernel
theorem dX7_findSteps_26 : decode cX7_findSteps 26 = .ok (.iload_n 2, 1) := by decide +kernel
theorem dX7_findSteps_27 : decode cX7_findSteps 27 = .ok (.invokevirtual 156, 3) := by decide +kernel
theorem dX7_findSteps_30 : decode cX7_findSteps 30 = .ok (.bastore, 1) := by decide +kernel
theorem dX7_findSteps_31 : decode cX7_findSteps 31 = .ok (.iinc 2 1, 3) := by decide +kernel
theorem dX7_findSteps_34 : decode cX7_findSteps 34 = .ok (.goto (-28), 3) := by decide +kernel
theorem dX7_findSteps_37 : decode cX7_findSteps 37 = .ok (.aload_n 0, 1) := by decide +kernel
theorem dX7_findSteps_38 : decode cX7_findSteps 38 = .ok (.iconst 1, 1) := by decide +kernel
theorem dX7_findSteps_39 : decode cX7_findSteps 39 = .ok (.putfield 206, 3) := by decide +kernel
theorem dX7_findSteps_42 : decode cX7_findSteps 42 = .ok (.aload_n 0, 1) := by decide +kernel
theorem dX7_findSteps_43 : decode cX7_findSteps 43 = .ok (.getfield 50, 3) := by decide +kernel
theorem dX7_findSteps_46 : decode cX7_findSteps 46 = .ok (.iconst 0, 1) := by decide +kernel
theorem dX7_findSteps_47 : decode cX7_findSteps 47 = .ok (.aload_n 0, 1) := by decide +kernel
theorem dX7_findSteps_48 : decode cX7_findSteps 48 = .ok (.iload_n 1, 1) := by decide +kernel
theorem dX7_findSteps_49 : decode cX7_findSteps 49 = .ok (.invokevirtual 213, 3) := by decide +kernel
theorem dX7_findSteps_52 : decode cX7_findSteps 52 = .ok (.iastore, 1) := by decide +kernel
theorem dX7_findSteps_53 : decode cX7_findSteps 53 = .ok (.aload_n 0, 1) := by decide +kernel
theorem dX7_findSteps_54 : decode cX7_findSteps 54 = .ok (.getfield 47, 3) := by decide +kernel
theorem dX7_findSteps_57 : decode cX7_findSteps 57 = .ok (.aload_n 0, 1) := by decide +kernel
theorem dX7_findSteps_58 : decode cX7_findSteps 58 = .ok (.getfield 50, 3) := by decide +kernel
theorem dX7_findSteps_61 : decode cX7_findSteps 61 = .ok (.iconst 0, 1) := by decide +kernel
theorem dX7_findSteps_62 : decode cX7_findSteps 62 = .ok (.iaload, 1) := by decide +kernel
theorem dX7_findSteps_63 : decode cX7_findSteps 63 = .ok (.iconst 0, 1) := by decide +kernel
theorem dX7_findSteps_64 : decode cX7_findSteps 64 = .ok (.iastore, 1) := by decide +kernel
theorem dX7_findSteps_65 : decode cX7_findSteps 65 = .ok (.iconst 0, 1) := by decide +kernel
theorem dX7_findSteps_66 : decode cX7_findSteps 66 = .ok (.istore_n 2, 1) := by decide +kernel
theorem dX7_findSteps_67 : decode cX7_findSteps 67 = .ok (.iload_n 2, 1) := by decide +kernel
theorem dX7_findSteps_68 : decode cX7_findSteps 68 = .ok (.aload_n 0, 1) := by decide +kernel
theorem dX7_findSteps_69 : decode cX7_findSteps 69 = .ok (.getfield 206, 3) := by decide +kernel
theorem dX7_findSteps_72 : decode cX7_findSteps 72 = .ok (.if_icmp .ge 19, 3) := by decide +kernel
theorem dX7_findSteps_75 : decode cX7_findSteps 75 = .ok (.aload_n 0, 1) := by decide +kernel
theorem dX7_findSteps_76 : decode cX7_findSteps 76 = .ok (.aload_n 0, 1) := by decide +kernel
theorem dX7_findSteps_77 : decode cX7_findSteps 77 = .ok (.getfield 50, 3) := by decide +kernel
theorem dX7_findSteps_80 : decode cX7_findSteps 80 = .ok (.iload_n 2, 1) := by decide +kernel
theorem dX7_findSteps_81 : decode cX7_findSteps 81 = .ok (.iaload, 1) := by decide +kernel
theorem dX7_findSteps_82 : decode cX7_findSteps 82 = .ok (.invokevirtual 216, 3) := by decide +kernel
theorem dX7_findSteps_85 : decode cX7_findSteps 85 = .ok (.iinc 2 1, 3) := by decide +kernel
theorem dX7_findSteps_88 : decode cX7_findSteps 88 = .ok (.goto (-21), 3) := by decide +kernel
theorem dX7_findSteps_91 : decode cX7_findSteps 91 = .ok (.return_, 1) := by decide +kernel
theorem dX7_steps_0 : decode cX7_steps 0 = .ok (.aload_n 0, 1) := by decide +kernel
theorem dX7_steps_1 : decode cX7_steps 1 = .ok (.iload_n 1, 1) := by decide +kernel
theorem dX7_steps_2 : decode cX7_steps 2 = .ok (.invokevirtual 131, 3) := by decide +kernel
theorem dX7_steps_5 : decode cX7_steps 5 = .ok (.ifCond .eq 11, 3) := by decide +kernel
theorem dX7_steps_8 : decode cX7_steps 8 = .ok (.aload_n 0, 1) := by decide +kernel
theorem dX7_steps_9 : decode cX7_steps 9 = .ok (.iload_n 2, 1) := by decide +kernel
theorem dX7_steps_10 : decode cX7_steps 10 = .ok (.invokevirtual 131, 3) := by decide +kernel
theorem dX7_steps_13 : decode cX7_steps 13 = .ok (.ifCond .ne 10, 3) := by decide +kernel
theorem dX7_steps_16 : decode cX7_steps 16 = .ok (.aload_n 0, 1) := by decide +kernel
theorem dX7_steps_17 : decode cX7_steps 17 = .ok (.ldc 85, 2) := by decide +kernel
theorem dX7_steps_19 : decode cX7_steps 19 = .ok (.invokevirtual 104, 3) := by decide +kernel
theorem dX7_steps_22 : decode cX7_steps 22 = .ok (.ireturn, 1) := by decide +kernel
theorem dX7_steps_23 : decode cX7_steps 23 = .ok (.aload_n 0, 1) := by decide +kernel
theorem dX7_steps_24 : decode cX7_steps 24 = .ok (.iload_n 1, 1) := by decide +kernel
theorem dX7_steps_25 : decode cX7_steps 25 = .ok (.invokevirtual 219, 3) := by decide +kernel
theorem dX7_steps_28 : decode cX7_steps 28 = .ok (.aload_n 0, 1) := by decide +kernel
theorem dX7_steps_29 : decode cX7_steps 29 = .ok (.getfield 47, 3) := by decide +kernel
theorem dX7_steps_32 : decode cX7_steps 32 = .ok (.aload_n 0, 1) := by decide +kernel
theorem dX7_steps_33 : decode cX7_steps 33 = .ok (.iload_n 2, 1) := by decide +kernel
theorem dX7_steps_34 : decode cX7_steps 34 = .ok (.invokevirtual 213, 3) := by decide +kernel
theorem dX7_steps_37 : decode cX7_steps 37 = .ok (.iaload, 1) := by decide +kernel
theorem dX7_steps_38 : decode cX7_steps 38 = .ok (.istore_n 3, 1) := by decide +kernel
theorem dX7_steps_39 : decode cX7_steps 39 = .ok (.iload_n 3, 1) := by decide +kernel
theorem dX7_steps_40 : decode cX7_steps 40 = .ok (.ifCond .ge 12, 3) := by decide +kernel
theorem dX7_steps_43 : decode cX7_steps 43 = .ok (.aload_n 0, 1) := by decide +kernel
theorem dX7_steps_44 : decode cX7_steps 44 = .ok (.ldc 127, 2) := by decide +kernel
theorem dX7_steps_46 : decode cX7_steps 46 = .ok (.invokevirtual 104, 3) := by decide +kernel
theorem dX7_steps_49 : decode cX7_steps 49 = .ok (.goto 4, 3) := by decide +kernel
theorem dX7_steps_52 : decode cX7_steps 52 = .ok (.iload_n 3, 1) := by decide +kernel
theorem dX7_steps_53 : decode cX7_steps 53 = .ok (.ireturn, 1) := by decide +kernel
theorem dX7_within_0 : decode cX7_within 0 = .ok (.aload_n 0, 1) := by decide +kernel
theorem dX7_within_1 : decode cX7_within 1 = .ok (.iload_n 1, 1) := by decide +kernel
theorem dX7_within_2 : decode cX7_within 2 = .ok (.invokevirtual 131, 3) := by decide +kernel
theorem dX7_within_5 : decode cX7_within 5 = .ok (.ifCond .eq 13, 3) := by decide +kernel
theorem dX7_within_8 : decode cX7_within 8 = .ok (.iload_n 2, 1) := by decide +kernel
theorem dX7_within_9 : decode cX7_within 9 = .ok (.iconst 0, 1) := by decide +kernel
theorem dX7_within_10 : decode cX7_within 10 = .ok (.bipush 12, 2) := by decide +kernel
theorem dX7_within_12 : decode cX7_within 12 = .ok (.invokestatic 86, 3) := by decide +kernel
theorem dX7_within_15 : decode cX7_within 15 = .ok (.ifCond .ne 10, 3) := by decide +kernel
theorem dX7_within_18 : decode cX7_within 18 = .ok (.aload_n 0, 1) := by decide +kernel
theorem dX7_within_19 : decode cX7_within 19 = .ok (.ldc 85, 2) := by decide +kernel
theorem dX7_within_21 : decode cX7_within 21 = .ok (.invokevirtual 104, 3) := by decide +kernel
theorem dX7_within_24 : decode cX7_within 24 = .ok (.ireturn, 1) := by decide +kernel
theorem dX7_within_25 : decode cX7_within 25 = .ok (.aload_n 0, 1) := by decide +kernel
theorem dX7_within_26 : decode cX7_within 26 = .ok (.iload_n 1, 1) := by decide +kernel
theorem dX7_within_27 : decode cX7_within 27 = .ok (.invokevirtual 219, 3) := by decide +kernel
theorem dX7_within_30 : decode cX7_within 30 = .ok (.iconst 0, 1) := by decide +kernel
theorem dX7_within_31 : decode cX7_within 31 = .ok (.istore_n 3, 1) := by decide +kernel
theorem dX7_within_32 : decode cX7_within 32 = .ok (.iconst 0, 1) := by decide +kernel
theorem dX7_within_33 : decode cX7_within 33 = .ok (.istore 4, 2) := by decide +kernel
theorem dX7_within_35 : decode cX7_within 35 = .ok (.iload 4, 2) := by decide +kernel
theorem dX7_within_37 : decode cX7_within 37 = .ok (.aload_n 0, 1) := by decide +kernel
theorem dX7_within_38 : decode cX7_within 38 = .ok (.getfield 206, 3) := by decide +kernel
theorem dX7_within_41 : decode cX7_within 41 = .ok (.if_icmp .ge 33, 3) := by decide +kernel
theorem dX7_within_44 : decode cX7_within 44 = .ok (.iload_n 3, 1) := by decide +kernel
theorem dX7_within_45 : decode cX7_within 45 = .ok (.aload_n 0, 1) := by decide +kernel
theorem dX7_within_46 : decode cX7_within 46 = .ok (.getfield 47, 3) := by decide +kernel
theorem dX7_within_49 : decode cX7_within 49 = .ok (.aload_n 0, 1) := by decide +kernel
theorem dX7_within_50 : decode cX7_within 50 = .ok (.getfield 50, 3) := by decide +kernel
theorem dX7_within_53 : decode cX7_within 53 = .ok (.iload 4, 2) := by decide +kernel
theorem dX7_within_55 : decode cX7_within 55 = .ok (.iaload, 1) := by decide +kernel
theorem dX7_within_56 : decode cX7_within 56 = .ok (.iaload, 1) := by decide +kernel
theorem dX7_within_57 : decode cX7_within 57 = .ok (.iload_n 2, 1) := by decide +kernel
theorem dX7_within_58 : decode cX7_within 58 = .ok (.if_icmp .gt 7, 3) := by decide +kernel
theorem dX7_within_61 : decode cX7_within 61 = .ok (.iconst 1, 1) := by decide +kernel
theorem dX7_within_62 : decode cX7_within 62 = .ok (.goto 4, 3) := by decide +kernel
theorem dX7_within_65 : decode cX7_within 65 = .ok (.iconst 0, 1) := by decide +kernel
theorem dX7_within_66 : decode cX7_within 66 = .ok (.iadd, 1) := by decide +kernel
theorem dX7_within_67 : decode cX7_within 67 = .ok (.istore_n 3, 1) := by decide +kernel
theorem dX7_within_68 : decode cX7_within 68 = .ok (.iinc 4 1, 3) := by decide +kernel
theorem dX7_within_71 : decode cX7_within 71 = .ok (.goto (-36), 3) := by decide +kernel
theorem dX7_within_74 : decode cX7_within 74 = .ok (.iload_n 3, 1) := by decide +kernel
theorem dX7_within_75 : decode cX7_within 75 = .ok (.ireturn, 1) := by decide +kernel
theorem dX7_walk_0 : decode cX7_walk 0 = .ok (.aload_n 0, 1) := by decide +kernel
theorem dX7_walk_1 : decode cX7_walk 1 = .ok (.iload_n 1, 1) := by decide +kernel
theorem dX7_walk_2 : decode cX7_walk 2 = .ok (.invokevirtual 131, 3) := by decide +kernel
theorem dX7_walk_5 : decode cX7_walk 5 = .ok (.ifCond .eq 13, 3) := by decide +kernel
theorem dX7_walk_8 : decode cX7_walk 8 = .ok (.iload_n 2, 1) := by decide +kernel
theorem dX7_walk_9 : decode cX7_walk 9 = .ok (.iconst 1, 1) := by decide +kernel
theorem dX7_walk_10 : decode cX7_walk 10 = .ok (.bipush 12, 2) := by decide +kernel
theorem dX7_walk_12 : decode cX7_walk 12 = .ok (.invokestatic 86, 3) := by decide +kernel
theorem dX7_walk_15 : decode cX7_walk 15 = .ok (.ifCond .ne 10, 3) := by decide +kernel
theorem dX7_walk_18 : decode cX7_walk 18 = .ok (.aload_n 0, 1) := by decide +kernel
theorem dX7_walk_19 : decode cX7_walk 19 = .ok (.ldc 85, 2) := by decide +kernel
theorem dX7_walk_21 : decode cX7_walk 21 = .ok (.invokevirtual 104, 3) := by decide +kernel
theorem dX7_walk_24 : decode cX7_walk 24 = .ok (.ireturn, 1) := by decide +kernel
theorem dX7_walk_25 : decode cX7_walk 25 = .ok (.aload_n 0, 1) := by decide +kernel
theorem dX7_walk_26 : decode cX7_walk 26 = .ok (.iload_n 1, 1) := by decide +kernel
theorem dX7_walk_27 : decode cX7_walk 27 = .ok (.invokevirtual 219, 3) := by decide +kernel
theorem dX7_walk_30 : decode cX7_walk 30 = .ok (.iconst (-1), 1) := by decide +kernel
theorem dX7_walk_31 : decode cX7_walk 31 = .ok (.istore_n 3, 1) := by decide +kernel
theorem dX7_walk_32 : decode cX7_walk 32 = .ok (.iconst 0, 1) := by decide +kernel
theorem dX7_walk_33 : decode cX7_walk 33 = .ok (.istore 4, 2) := by decide +kernel
theorem dX7_walk_35 : decode cX7_walk 35 = .ok (.iconst 0, 1) := by decide +kernel
theorem dX7_walk_36 : decode cX7_walk 36 = .ok (.istore 5, 2) := by decide +kernel
theorem dX7_walk_38 : decode cX7_walk 38 = .ok (.iload 5, 2) := by decide +kernel
theorem dX7_walk_40 : decode cX7_walk 40 = .ok (.sipush 1840, 3) := by decide +kernel
theorem dX7_walk_43 : decode cX7_walk 43 = .ok (.if_icmp .ge 63, 3) := by decide +kernel
theorem dX7_walk_46 : decode cX7_walk 46 = .ok (.aload_n 0, 1) := by decide +kernel
theorem dX7_walk_47 : decode cX7_walk 47 = .ok (.getfield 47, 3) := by decide +kernel
theorem dX7_walk_50 : decode cX7_walk 50 = .ok (.iload 5, 2) := by decide +kernel
theorem dX7_walk_52 : decode cX7_walk 52 = .ok (.iaload, 1) := by decide +kernel
theorem dX7_walk_53 : decode cX7_walk 53 = .ok (.iconst 0, 1) := by decide +kernel
theorem dX7_walk_54 : decode cX7_walk 54 = .ok (.iload_n 2, 1) := by decide +kernel
theorem dX7_walk_55 : decode cX7_walk 55 = .ok (.invokestatic 86, 3) := by decide +kernel
theorem dX7_walk_58 : decode cX7_walk 58 = .ok (.ifCond .eq 42, 3) := by decide +kernel
theorem dX7_walk_61 : decode cX7_walk 61 = .ok (.aload_n 0, 1) := by decide +kernel
theorem dX7_walk_62 : decode cX7_walk 62 = .ok (.iload 5, 2) := by decide +kernel
theorem dX7_walk_64 : decode cX7_walk 64 = .ok (.invokevirtual 156, 3) := by decide +kernel
theorem dX7_walk_67 : decode cX7_walk 67 = .ok (.ifCond .eq 33, 3) := by decide +kernel
theorem dX7_walk_70 : decode cX7_walk 70 = .ok (.aload_n 0, 1) := by decide +kernel
theorem dX7_walk_71 : decode cX7_walk 71 = .ok (.aload_n 0, 1) := by decide +kernel
theorem dX7_walk_72 : decode cX7_walk 72 = .ok (.iload 5, 2) := by decide +kernel
theorem dX7_walk_74 : decode cX7_walk 74 = .ok (.invokevirtual 150, 3) := by decide +kernel
theorem dX7_walk_77 : decode cX7_walk 77 = .ok (.invokevirtual 134, 3) := by decide +kernel
theorem dX7_walk_80 : decode cX7_walk 80 = .ok (.istore 6, 2) := by decide +kernel
theorem dX7_walk_82 : decode cX7_walk 82 = .ok (.iload_n 3, 1) := by decide +kernel
theorem dX7_walk_83 : decode cX7_walk 83 = .ok (.ifCond .lt 10, 3) := by decide +kernel
theorem dX7_walk_86 : decode cX7_walk 86 = .ok (.iload 6, 2) := by decide +kernel
theorem dX7_walk_88 : decode cX7_walk 88 = .ok (.iload 4, 2) := by decide +kernel
theorem dX7_walk_90 : decode cX7_walk 90 = .ok (.if_icmp .le 10, 3) := by decide +kernel
theorem dX7_walk_93 : decode cX7_walk 93 = .ok (.iload 5, 2) := by decide +kernel
theorem dX7_walk_95 : decode cX7_walk 95 = .ok (.istore_n 3, 1) := by decide +kernel
theorem dX7_walk_96 : decode cX7_walk 96 = .ok (.iload 6, 2) := by decide +kernel
theorem dX7_walk_98 : decode cX7_walk 98 = .ok (.istore 4, 2) := by decide +kernel
theorem dX7_walk_100 : decode cX7_walk 100 = .ok (.iinc 5 1, 3) := by decide +kernel
theorem dX7_walk_103 : decode cX7_walk 103 = .ok (.goto (-65), 3) := by decide +kernel
theorem dX7_walk_106 : decode cX7_walk 106 = .ok (.iload_n 3, 1) := by decide +kernel
theorem dX7_walk_107 : decode cX7_walk 107 = .ok (.ifCond .ge 12, 3) := by decide +kernel
theorem dX7_walk_110 : decode cX7_walk 110 = .ok (.aload_n 0, 1) := by decide +kernel
theorem dX7_walk_111 : decode cX7_walk 111 = .ok (.ldc 127, 2) := by decide +kernel
theorem dX7_walk_113 : decode cX7_walk 113 = .ok (.invokevirtual 104, 3) := by decide +kernel
theorem dX7_walk_116 : decode cX7_walk 116 = .ok (.goto 8, 3) := by decide +kernel
theorem dX7_walk_119 : decode cX7_walk 119 = .ok (.aload_n 0, 1) := by decide +kernel
theorem dX7_walk_120 : decode cX7_walk 120 = .ok (.iload_n 3, 1) := by decide +kernel
theorem dX7_walk_121 : decode cX7_walk 121 = .ok (.invokevirtual 150, 3) := by decide +kernel
theorem dX7_walk_124 : decode cX7_walk 124 = .ok (.ireturn, 1) := by decide +kernel
theorem dX7_now_0 : decode cX7_now 0 = .ok (.iconst 0, 1) := by decide +kernel
theorem dX7_now_1 : decode cX7_now 1 = .ok (.istore_n 2, 1) := by decide +kernel
theorem dX7_now_2 : decode cX7_now 2 = .ok (.iload_n 1, 1) := by decide +kernel
theorem dX7_now_3 : decode cX7_now 3 = .ok (.tableswitch 100 0 3 #[29, 34, 39, 75], 29) := by decide +kernel
theorem dX7_now_32 : decode cX7_now 32 = .ok (.aload_n 0, 1) := by decide +kernel
theorem dX7_now_33 : decode cX7_now 33 = .ok (.getfield 163, 3) := by decide +kernel
theorem dX7_now_36 : decode cX7_now 36 = .ok (.ireturn, 1) := by decide +kernel
theorem dX7_now_37 : decode cX7_now 37 = .ok (.aload_n 0, 1) := by decide +kernel
theorem dX7_now_38 : decode cX7_now 38 = .ok (.getfield 93, 3) := by decide +kernel
theorem dX7_now_41 : decode cX7_now 41 = .ok (.ireturn, 1) := by decide +kernel
theorem dX7_now_42 : decode cX7_now 42 = .ok (.iconst 0, 1) := by decide +kernel
theorem dX7_now_43 : decode cX7_now 43 = .ok (.istore_n 3, 1) := by decide +kernel
theorem dX7_now_44 : decode cX7_now 44 = .ok (.iload_n 3, 1) := by decide +kernel
theorem dX7_now_45 : decode cX7_now 45 = .ok (.aload_n 0, 1) := by decide +kernel
theorem dX7_now_46 : decode cX7_now 46 = .ok (.getfield 93, 3) := by decide +kernel
theorem dX7_now_49 : decode cX7_now 49 = .ok (.if_icmp .ge 27, 3) := by decide +kernel
theorem dX7_now_52 : decode cX7_now 52 = .ok (.iload_n 2, 1) := by decide +kernel
theorem dX7_now_53 : decode cX7_now 53 = .ok (.aload_n 0, 1) := by decide +kernel
theorem dX7_now_54 : decode cX7_now 54 = .ok (.getfield 19, 3) := by decide +kernel
theorem dX7_now_57 : decode cX7_now 57 = .ok (.iload_n 3, 1) := by decide +kernel
theorem dX7_now_58 : decode cX7_now 58 = .ok (.iaload, 1) := by decide +kernel
theorem dX7_now_59 : decode cX7_now 59 = .ok (.iconst 2, 1) := by decide +kernel
theorem dX7_now_60 : decode cX7_now 60 = .ok (.if_icmp .ne 7, 3) := by decide +kernel
theorem dX7_now_63 : decode cX7_now 63 = .ok (.iconst 1, 1) := by decide +kernel
theorem dX7_now_64 : decode cX7_now 64 = .ok (.goto 4, 3) := by decide +kernel
theorem dX7_now_67 : decode cX7_now 67 = .ok (.iconst 0, 1) := by decide +kernel
theorem dX7_now_68 : decode cX7_now 68 = .ok (.iadd, 1) := by decide +kernel
theorem dX7_now_69 : decode cX7_now 69 = .ok (.istore_n 2, 1) := by decide +kernel
theorem dX7_now_70 : decode cX7_now 70 = .ok (.iinc 3 1, 3) := by decide +kernel
theorem dX7_now_73 : decode cX7_now 73 = .ok (.goto (-29), 3) := by decide +kernel
theorem dX7_now_76 : decode cX7_now 76 = .ok (.iload_n 2, 1) := by decide +kernel
theorem dX7_now_77 : decode cX7_now 77 = .ok (.ireturn, 1) := by decide +kernel
theorem dX7_now_78 : decode cX7_now 78 = .ok (.iconst 0, 1) := by decide +kernel
theorem dX7_now_79 : decode cX7_now 79 = .ok (.istore_n 3, 1) := by decide +kernel
theorem dX7_now_80 : decode cX7_now 80 = .ok (.iload_n 3, 1) := by decide +kernel
theorem dX7_now_81 : decode cX7_now 81 = .ok (.bipush 8, 2) := by decide +kernel
theorem dX7_now_83 : decode cX7_now 83 = .ok (.if_icmp .ge 18, 3) := by decide +kernel
theorem dX7_now_86 : decode cX7_now 86 = .ok (.iload_n 2, 1) := by decide +kernel
theorem dX7_now_87 : decode cX7_now 87 = .ok (.aload_n 0, 1) := by decide +kernel
theorem dX7_now_88 : decode cX7_now 88 = .ok (.getfield 7, 3) := by decide +kernel
theorem dX7_now_91 : decode cX7_now 91 = .ok (.iload_n 3, 1) := by decide +kernel
theorem dX7_now_92 : decode cX7_now 92 = .ok (.iaload, 1) := by decide +kernel
theorem dX7_now_93 : decode cX7_now 93 = .ok (.iadd, 1) := by decide +kernel
theorem dX7_now_94 : decode cX7_now 94 = .ok (.istore_n 2, 1) := by decide +kernel
theorem dX7_now_95 : decode cX7_now 95 = .ok (.iinc 3 1, 3) := by decide +kernel
theorem dX7_now_98 : decode cX7_now 98 = .ok (.goto (-18), 3) := by decide +kernel
theorem dX7_now_101 : decode cX7_now 101 = .ok (.iload_n 2, 1) := by decide +kernel
theorem dX7_now_102 : decode cX7_now 102 = .ok (.ireturn, 1) := by decide +kernel
theorem dX7_now_103 : decode cX7_now 103 = .ok (.aload_n 0, 1) := by decide +kernel
theorem dX7_now_104 : decode cX7_now 104 = .ok (.ldc 85, 2) := by decide +kernel
theorem dX7_now_106 : decode cX7_now 106 = .ok (.invokevirtual 104, 3) := by decide +kernel
theorem dX7_now_109 : decode cX7_now 109 = .ok (.ireturn, 1) := by decide +kernel
theorem dX7_feed_0 : decode cX7_feed 0 = .ok (.iload_n 2, 1) := by decide +kernel
theorem dX7_feed_1 : decode cX7_feed 1 = .ok (.iconst 1, 1) := by decide +kernel
theorem dX7_feed_2 : decode cX7_feed 2 = .ok (.iconst 4, 1) := by decide +kernel
theorem dX7_feed_3 : decode cX7_feed 3 = .ok (.invokestatic 86, 3) := by decide +kernel
theorem dX7_feed_6 : decode cX7_feed 6 = .ok (.ifCond .ne 10, 3) := by decide +kernel
theorem dX7_feed_9 : decode cX7_feed 9 = .ok (.aload_n 0, 1) := by decide +kernel
theorem dX7_feed_10 : decode cX7_feed 10 = .ok (.ldc 85, 2) := by decide +kernel
theorem dX7_feed_12 : decode cX7_feed 12 = .ok (.invokevirtual 104, 3) := by decide +kernel
theorem dX7_feed_15 : decode cX7_feed 15 = .ok (.ireturn, 1) := by decide +kernel
theorem dX7_feed_16 : decode cX7_feed 16 = .ok (.aload_n 0, 1) := by decide +kernel
theorem dX7_feed_17 : decode cX7_feed 17 = .ok (.getfield 222, 3) := by decide +kernel
theorem dX7_feed_20 : decode cX7_feed 20 = .ok (.iload_n 2, 1) := by decide +kernel
theorem dX7_feed_21 : decode cX7_feed 21 = .ok (.iadd, 1) := by decide +kernel
theorem dX7_feed_22 : decode cX7_feed 22 = .ok (.bipush 120, 2) := by decide +kernel
theorem dX7_feed_24 : decode cX7_feed 24 = .ok (.if_icmp .le 10, 3) := by decide +kernel
theorem dX7_feed_27 : decode cX7_feed 27 = .ok (.aload_n 0, 1) := by decide +kernel
theorem dX7_feed_28 : decode cX7_feed 28 = .ok (.ldc 162, 2) := by decide +kernel
theorem dX7_feed_30 : decode cX7_feed 30 = .ok (.invokevirtual 104, 3) := by decide +kernel
theorem dX7_feed_33 : decode cX7_feed 33 = .ok (.ireturn, 1) := by decide +kernel
theorem dX7_feed_34 : decode cX7_feed 34 = .ok (.iload_n 2, 1) := by decide +kernel
theorem dX7_feed_35 : decode cX7_feed 35 = .ok (.iconst 1, 1) := by decide +kernel
theorem dX7_feed_36 : decode cX7_feed 36 = .ok (.isub, 1) := by decide +kernel
theorem dX7_feed_37 : decode cX7_feed 37 = .ok (.istore_n 3, 1) := by decide +kernel
theorem dX7_feed_38 : decode cX7_feed 38 = .ok (.iload_n 3, 1) := by decide +kernel
theorem dX7_feed_39 : decode cX7_feed 39 = .ok (.ifCond .lt 38, 3) := by decide +kernel
theorem dX7_feed_42 : decode cX7_feed 42 = .ok (.aload_n 0, 1) := by decide +kernel
theorem dX7_feed_43 : decode cX7_feed 43 = .ok (.getfield 56, 3) := by decide +kernel
theorem dX7_feed_46 : decode cX7_feed 46 = .ok (.aload_n 0, 1) := by decide +kernel
theorem dX7_feed_47 : decode cX7_feed 47 = .ok (.getfield 222, 3) := by decide +kernel
theorem dX7_feed_50 : decode cX7_feed 50 = .ok (.iload_n 1, 1) := by decide +kernel
theorem dX7_feed_51 : decode cX7_feed 51 = .ok (.bipush 8, 2) := by decide +kernel
theorem dX7_feed_53 : decode cX7_feed 53 = .ok (.iload_n 3, 1) := by decide +kernel
theorem dX7_feed_54 : decode cX7_feed 54 = .ok (.imul, 1) := by decide +kernel
theorem dX7_feed_55 : decode cX7_feed 55 = .ok (.ishr, 1) := by decide +kernel
theorem dX7_feed_56 : decode cX7_feed 56 = .ok (.sipush 255, 3) := by decide +kernel
theorem dX7_feed_59 : decode cX7_feed 59 = .ok (.iand, 1) := by decide +kernel
theorem dX7_feed_60 : decode cX7_feed 60 = .ok (.iastore, 1) := by decide +kernel
theorem dX7_feed_61 : decode cX7_feed 61 = .ok (.aload_n 0, 1) := by decide +kernel
theorem dX7_feed_62 : decode cX7_feed 62 = .ok (.dup, 1) := by decide +kernel
theorem dX7_feed_63 : decode cX7_feed 63 = .ok (.getfield 222, 3) := by decide +kernel
theorem dX7_feed_66 : decode cX7_feed 66 = .ok (.iconst 1, 1) := by decide +kernel
theorem dX7_feed_67 : decode cX7_feed 67 = .ok (.iadd, 1) := by decide +kernel
theorem dX7_feed_68 : decode cX7_feed 68 = .ok (.putfield 222, 3) := by decide +kernel
theorem dX7_feed_71 : decode cX7_feed 71 = .ok (.iinc 3 (-1), 3) := by decide +kernel
theorem dX7_feed_74 : decode cX7_feed 74 = .ok (.goto (-36), 3) := by decide +kernel
theorem dX7_feed_77 : decode cX7_feed 77 = .ok (.aload_n 0, 1) := by decide +kernel
theorem dX7_feed_78 : decode cX7_feed 78 = .ok (.getfield 222, 3) := by decide +kernel
theorem dX7_feed_81 : decode cX7_feed 81 = .ok (.ireturn, 1) := by decide +kernel
theorem dX7_wipe_0 : decode cX7_wipe 0 = .ok (.aload_n 0, 1) := by decide +kernel
theorem dX7_wipe_1 : decode cX7_wipe 1 = .ok (.getfield 222, 3) := by decide +kernel
theorem dX7_wipe_4 : decode cX7_wipe 4 = .ok (.istore_n 1, 1) := by decide +kernel
theorem dX7_wipe_5 : decode cX7_wipe 5 = .ok (.aload_n 0, 1) := by decide +kernel
theorem dX7_wipe_6 : decode cX7_wipe 6 = .ok (.iconst 0, 1) := by decide +kernel
theorem dX7_wipe_7 : decode cX7_wipe 7 = .ok (.putfield 222, 3) := by decide +kernel
theorem dX7_wipe_10 : decode cX7_wipe 10 = .ok (.iload_n 1, 1) := by decide +kernel
theorem dX7_wipe_11 : decode cX7_wipe 11 = .ok (.ireturn, 1) := by decide +kernel
theorem dX7_byteAt_0 : decode cX7_byteAt 0 = .ok (.iload_n 1, 1) := by decide +kernel
theorem dX7_byteAt_1 : decode cX7_byteAt 1 = .ok (.aload_n 0, 1) := by decide +kernel
theorem dX7_byteAt_2 : decode cX7_byteAt 2 = .ok (.getfield 222, 3) := by decide +kernel
theorem dX7_byteAt_5 : decode cX7_byteAt 5 = .ok (.if_icmp .ge 12, 3) := by decide +kernel
theorem dX7_byteAt_8 : decode cX7_byteAt 8 = .ok (.aload_n 0, 1) := by decide +kernel
theorem dX7_byteAt_9 : decode cX7_byteAt 9 = .ok (.getfield 56, 3) := by decide +kernel
theorem dX7_byteAt_12 : decode cX7_byteAt 12 = .ok (.iload_n 1, 1) := by decide +kernel
theorem dX7_byteAt_13 : decode cX7_byteAt 13 = .ok (.iaload, 1) := by decide +kernel
theorem dX7_byteAt_14 : decode cX7_byteAt 14 = .ok (.goto 4, 3) := by decide +kernel
theorem dX7_byteAt_17 : decode cX7_byteAt 17 = .ok (.iconst (-1), 1) := by decide +kernel
theorem dX7_byteAt_18 : decode cX7_byteAt 18 = .ok (.ireturn, 1) := by decide +kernel
theorem dX7_isLetter_0 : decode cX7_isLetter 0 = .ok (.iload_n 0, 1) := by decide +kernel
theorem dX7_isLetter_1 : decode cX7_isLetter 1 = .ok (.bipush 97, 2) := by decide +kernel
theorem dX7_isLetter_3 : decode cX7_isLetter 3 = .ok (.bipush 122, 2) := by decide +kernel
theorem dX7_isLetter_5 : decode cX7_isLetter 5 = .ok (.invokestatic 86, 3) := by decide +kernel
theorem dX7_isLetter_8 : decode cX7_isLetter 8 = .ok (.ireturn, 1) := by decide +kernel
theorem dX7_isDigit_0 : decode cX7_isDigit 0 = .ok (.iload_n 0, 1) := by decide +kernel
theorem dX7_isDigit_1 : decode cX7_isDigit 1 = .ok (.bipush 48, 2) := by decide +kernel
theorem dX7_isDigit_3 : decode cX7_isDigit 3 = .ok (.bipush 57, 2) := by decide +kernel
theorem dX7_isDigit_5 : decode cX7_isDigit 5 = .ok (.invokestatic 86, 3) := by decide +kernel
theorem dX7_isDigit_8 : decode cX7_isDigit 8 = .ok (.ireturn, 1) := by decide +kernel
theorem dX7_advance_0 : decode cX7_advance 0 = .ok (.aload_n 0, 1) := by decide +kernel
theorem dX7_advance_1 : decode cX7_advance 1 = .ok (.aload_n 0, 1) := by decide +kernel
theorem dX7_advance_2 : decode cX7_advance 2 = .ok (.getfield 225, 3) := by decide +kernel
theorem dX7_advance_5 : decode cX7_advance 5 = .ok (.putfield 228, 3) := by decide +kernel
theorem dX7_advance_8 : decode cX7_advance 8 = .ok (.aload_n 0, 1) := by decide +kernel
theorem dX7_advance_9 : decode cX7_advance 9 = .ok (.aload_n 0, 1) := by decide +kernel
theorem dX7_advance_10 : decode cX7_advance 10 = .ok (.getfield 228, 3) := by decide +kernel
theorem dX7_advance_13 : decode cX7_advance 13 = .ok (.invokevirtual 231, 3) := by decide +kernel
theorem dX7_advance_16 : decode cX7_advance 16 = .ok (.bipush 32, 2) := by decide +kernel
theorem dX7_advance_18 : decode cX7_advance 18 = .ok (.if_icmp .ne 16, 3) := by decide +kernel
theorem dX7_advance_21 : decode cX7_advance 21 = .ok (.aload_n 0, 1) := by decide +kernel
theorem dX7_advance_22 : decode cX7_advance 22 = .ok (.dup, 1) := by decide +kernel
theorem dX7_advance_23 : decode cX7_advance 23 = .ok (.getfield 228, 3) := by decide +kernel
theorem dX7_advance_26 : decode cX7_advance 26 = .ok (.iconst 1, 1) := by decide +kernel
theorem dX7_advance_27 : decode cX7_advance 27 = .ok (.iadd, 1) := by decide +kernel
theorem dX7_advance_28 : decode cX7_advance 28 = .ok (.putfield 228, 3) := by decide +kernel
theorem dX7_advance_31 : decode cX7_advance 31 = .ok (.goto (-23), 3) := by decide +kernel
theorem dX7_advance_34 : decode cX7_advance 34 = .ok (.aload_n 0, 1) := by decide +kernel
theorem dX7_advance_35 : decode cX7_advance 35 = .ok (.aload_n 0, 1) := by decide +kernel
theorem dX7_advance_36 : decode cX7_advance 36 = .ok (.getfield 228, 3) := by decide +kernel
theorem dX7_advance_39 : decode cX7_advance 39 = .ok (.putfield 225, 3) := by decide +kernel
theorem dX7_advance_42 : decode cX7_advance 42 = .ok (.aload_n 0, 1) := by decide +kernel
theorem dX7_advance_43 : decode cX7_advance 43 = .ok (.aload_n 0, 1) := by decide +kernel
theorem dX7_advance_44 : decode cX7_advance 44 = .ok (.getfield 228, 3) := by decide +kernel
theorem dX7_advance_47 : decode cX7_advance 47 = .ok (.invokevirtual 231, 3) := by decide +kernel
theorem dX7_advance_50 : decode cX7_advance 50 = .ok (.istore_n 1, 1) := by decide +kernel
theorem dX7_advance_51 : decode cX7_advance 51 = .ok (.aload_n 0, 1) := by decide +kernel
theorem dX7_advance_52 : decode cX7_advance 52 = .ok (.iload_n 1, 1) := by decide +kernel
theorem dX7_advance_53 : decode cX7_advance 53 = .ok (.ifCond .ge 7, 3) := by decide +kernel
theorem dX7_advance_56 : decode cX7_advance 56 = .ok (.iconst 0, 1) := by decide +kernel
theorem dX7_advance_57 : decode cX7_advance 57 = .ok (.goto 26, 3) := by decide +kernel
theorem dX7_advance_60 : decode cX7_advance 60 = .ok (.iload_n 1, 1) := by decide +kernel
theorem dX7_advance_61 : decode cX7_advance 61 = .ok (.invokestatic 234, 3) := by decide +kernel
theorem dX7_advance_64 : decode cX7_advance 64 = .ok (.ifCond .eq 7, 3) := by decide +kernel
theorem dX7_advance_67 : decode cX7_advance 67 = .ok (.iconst 1, 1) := by decide +kernel
theorem dX7_advance_68 : decode cX7_advance 68 = .ok (.goto 15, 3) := by decide +kernel
theorem dX7_advance_71 : decode cX7_advance 71 = .ok (.iload_n 1, 1) := by decide +kernel
theorem dX7_advance_72 : decode cX7_advance 72 = .ok (.invokestatic 237, 3) := by decide +kernel
theorem dX7_advance_75 : decode cX7_advance 75 = .ok (.ifCond .eq 7, 3) := by decide +kernel
theorem dX7_advance_78 : decode cX7_advance 78 = .ok (.iconst 2, 1) := by decide +kernel
theorem dX7_advance_79 : decode cX7_advance 79 = .ok (.goto 4, 3) := by decide +kernel
theorem dX7_advance_82 : decode cX7_advance 82 = .ok (.iconst 3, 1) := by decide +kernel
theorem dX7_advance_83 : decode cX7_advance 83 = .ok (.putfield 240, 3) := by decide +kernel
theorem dX7_advance_86 : decode cX7_advance 86 = .ok (.aload_n 0, 1) := by decide +kernel
theorem dX7_advance_87 : decode cX7_advance 87 = .ok (.lconst 0, 1) := by decide +kernel
theorem dX7_advance_88 : decode cX7_advance 88 = .ok (.putfield 243, 3) := by decide +kernel
theorem dX7_advance_91 : decode cX7_advance 91 = .ok (.aload_n 0, 1) := by decide +kernel
theorem dX7_advance_92 : decode cX7_advance 92 = .ok (.aload_n 0, 1) := by decide +kernel
theorem dX7_advance_93 : decode cX7_advance 93 = .ok (.getfield 240, 3) := by decide +kernel
theorem dX7_advance_96 : decode cX7_advance 96 = .ok (.iconst 2, 1) := by decide +kernel
theorem dX7_advance_97 : decode cX7_advance 97 = .ok (.if_icmp .ne 7, 3) := by decide +kernel
theorem dX7_advance_100 : decode cX7_advance 100 = .ok (.iconst 0, 1) := by decide +kernel
theorem dX7_advance_101 : decode cX7_advance 101 = .ok (.goto 4, 3) := by decide +kernel
theorem dX7_advance_104 : decode cX7_advance 104 = .ok (.iload_n 1, 1) := by decide +kernel
theorem dX7_advance_105 : decode cX7_advance 105 = .ok (.putfield 247, 3) := by decide +kernel
theorem dX7_advance_108 : decode cX7_advance 108 = .ok (.aload_n 0, 1) := by decide +kernel
theorem dX7_advance_109 : decode cX7_advance 109 = .ok (.getfield 240, 3) := by decide +kernel
theorem dX7_advance_112 : decode cX7_advance 112 = .ok (.iconst 3, 1) := by decide +kernel
theorem dX7_advance_113 : decode cX7_advance 113 = .ok (.if_icmp .ne 13, 3) := by decide +kernel
theorem dX7_advance_116 : decode cX7_advance 116 = .ok (.aload_n 0, 1) := by decide +kernel
theorem dX7_advance_117 : decode cX7_advance 117 = .ok (.dup, 1) := by decide +kernel
theorem dX7_advance_118 : decode cX7_advance 118 = .ok (.getfield 225, 3) := by decide +kernel
theorem dX7_advance_121 : decode cX7_advance 121 = .ok (.iconst 1, 1) := by decide +kernel
theorem dX7_advance_122 : decode cX7_advance 122 = .ok (.iadd, 1) := by decide +kernel
theorem dX7_advance_123 : decode cX7_advance 123 = .ok (.putfield 225, 3) := by decide +kernel
theorem dX7_advance_126 : decode cX7_advance 126 = .ok (.aload_n 0, 1) := by decide +kernel
theorem dX7_advance_127 : decode cX7_advance 127 = .ok (.getfield 240, 3) := by decide +kernel
theorem dX7_advance_130 : decode cX7_advance 130 = .ok (.iconst 1, 1) := by decide +kernel
theorem dX7_advance_131 : decode cX7_advance 131 = .ok (.if_icmp .ne 76, 3) := by decide +kernel
theorem dX7_advance_134 : decode cX7_advance 134 = .ok (.aload_n 0, 1) := by decide +kernel
theorem dX7_advance_135 : decode cX7_advance 135 = .ok (.aload_n 0, 1) := by decide +kernel
theorem dX7_advance_136 : decode cX7_advance 136 = .ok (.getfield 225, 3) := by decide +kernel
theorem dX7_advance_139 : decode cX7_advance 139 = .ok (.invokevirtual 231, 3) := by decide +kernel
theorem dX7_advance_142 : decode cX7_advance 142 = .ok (.invokestatic 234, 3) := by decide +kernel
theorem dX7_advance_145 : decode cX7_advance 145 = .ok (.ifCond .eq 62, 3) := by decide +kernel
theorem dX7_advance_148 : decode cX7_advance 148 = .ok (.aload_n 0, 1) := by decide +kernel
theorem dX7_advance_149 : decode cX7_advance 149 = .ok (.aload_n 0, 1) := by decide +kernel
theorem dX7_advance_150 : decode cX7_advance 150 = .ok (.getfield 225, 3) := by decide +kernel
theorem dX7_advance_153 : decode cX7_advance 153 = .ok (.aload_n 0, 1) := by decide +kernel
theorem dX7_advance_154 : decode cX7_advance 154 = .ok (.getfield 228, 3) := by decide +kernel
theorem dX7_advance_157 : decode cX7_advance 157 = .ok (.isub, 1) := by decide +kernel
theorem dX7_advance_158 : decode cX7_advance 158 = .ok (.bipush 12, 2) := by decide +kernel
theorem dX7_advance_160 : decode cX7_advance 160 = .ok (.if_icmp .ge 28, 3) := by decide +kernel
theorem dX7_advance_163 : decode cX7_advance 163 = .ok (.ldc2_w 250, 3) := by decide +kernel
theorem dX7_advance_166 : decode cX7_advance 166 = .ok (.aload_n 0, 1) := by decide +kernel
theorem dX7_advance_167 : decode cX7_advance 167 = .ok (.getfield 243, 3) := by decide +kernel
theorem dX7_advance_170 : decode cX7_advance 170 = .ok (.lmul, 1) := by decide +kernel
theorem dX7_advance_171 : decode cX7_advance 171 = .ok (.aload_n 0, 1) := by decide +kernel
theorem dX7_advance_172 : decode cX7_advance 172 = .ok (.aload_n 0, 1) := by decide +kernel
theorem dX7_advance_173 : decode cX7_advance 173 = .ok (.getfield 225, 3) := by decide +kernel
theorem dX7_advance_176 : decode cX7_advance 176 = .ok (.invokevirtual 231, 3) := by decide +kernel
theorem dX7_advance_179 : decode cX7_advance 179 = .ok (.i2l, 1) := by decide +kernel
theorem dX7_advance_180 : decode cX7_advance 180 = .ok (.ladd, 1) := by decide +kernel
theorem dX7_advance_181 : decode cX7_advance 181 = .ok (.ldc2_w 252, 3) := by decide +kernel
theorem dX7_advance_184 : decode cX7_advance 184 = .ok (.lsub, 1) := by decide +kernel
theorem dX7_advance_185 : decode cX7_advance 185 = .ok (.goto 6, 3) := by decide +kernel
theorem dX7_advance_188 : decode cX7_advance 188 = .ok (.ldc2_w 254, 3) := by decide +kernel
theorem dX7_advance_191 : decode cX7_advance 191 = .ok (.putfield 243, 3) := by decide +kernel
theorem dX7_advance_194 : decode cX7_advance 194 = .ok (.aload_n 0, 1) := by decide +kernel
theorem dX7_advance_195 : decode cX7_advance 195 = .ok (.dup, 1) := by decide +kernel
theorem dX7_advance_196 : decode cX7_advance 196 = .ok (.getfield 225, 3) := by decide +kernel
theorem dX7_advance_199 : decode cX7_advance 199 = .ok (.iconst 1, 1) := by decide +kernel
theorem dX7_advance_200 : decode cX7_advance 200 = .ok (.iadd, 1) := by decide +kernel
theorem dX7_advance_201 : decode cX7_advance 201 = .ok (.putfield 225, 3) := by decide +kernel
theorem dX7_advance_204 : decode cX7_advance 204 = .ok (.goto (-78), 3) := by decide +kernel
theorem dX7_advance_207 : decode cX7_advance 207 = .ok (.aload_n 0, 1) := by decide +kernel
theorem dX7_advance_208 : decode cX7_advance 208 = .ok (.getfield 240, 3) := by decide +kernel
theorem dX7_advance_211 : decode cX7_advance 211 = .ok (.iconst 2, 1) := by decide +kernel
theorem dX7_advance_212 : decode cX7_advance 212 = .ok (.if_icmp .ne 69, 3) := by decide +kernel
theorem dX7_advance_215 : decode cX7_advance 215 = .ok (.aload_n 0, 1) := by decide +kernel
theorem dX7_advance_216 : decode cX7_advance 216 = .ok (.aload_n 0, 1) := by decide +kernel
theorem dX7_advance_217 : decode cX7_advance 217 = .ok (.getfield 225, 3) := by decide +kernel
theorem dX7_advance_220 : decode cX7_advance 220 = .ok (.invokevirtual 231, 3) := by decide +kernel
theorem dX7_advance_223 : decode cX7_advance 223 = .ok (.invokestatic 237, 3) := by decide +kernel
theorem dX7_advance_226 : decode cX7_advance 226 = .ok (.ifCond .eq 55, 3) := by decide +kernel
theorem dX7_advance_229 : decode cX7_advance 229 = .ok (.aload_n 0, 1) := by decide +kernel
theorem dX7_advance_230 : decode cX7_advance 230 = .ok (.aload_n 0, 1) := by decide +kernel
theorem dX7_advance_231 : decode cX7_advance 231 = .ok (.getfield 247, 3) := by decide +kernel
theorem dX7_advance_234 : decode cX7_advance 234 = .ok (.sipush 999, 3) := by decide +kernel
theorem dX7_advance_237 : decode cX7_advance 237 = .ok (.if_icmp .le 9, 3) := by decide +kernel
theorem dX7_advance_240 : decode cX7_advance 240 = .ok (.sipush 10000, 3) := by decide +kernel
theorem dX7_advance_243 : decode cX7_advance 243 = .ok (.goto 22, 3) := by decide +kernel
theorem dX7_advance_246 : decode cX7_advance 246 = .ok (.bipush 10, 2) := by decide +kernel
theorem dX7_advance_248 : decode cX7_advance 248 = .ok (.aload_n 0, 1) := by decide +kernel
theorem dX7_advance_249 : decode cX7_advance 249 = .ok (.getfield 247, 3) := by decide +kernel
theorem dX7_advance_252 : decode cX7_advance 252 = .ok (.imul, 1) := by decide +kernel
theorem dX7_advance_253 : decode cX7_advance 253 = .ok (.aload_n 0, 1) := by decide +kernel
theorem dX7_advance_254 : decode cX7_advance 254 = .ok (.aload_n 0, 1) := by decide +kernel
theorem dX7_advance_255 : decode cX7_advance 255 = .ok (.getfield 225, 3) := by decide +kernel
theorem dX7_advance_258 : decode cX7_advance 258 = .ok (.invokevirtual 231, 3) := by decide +kernel
theorem dX7_advance_261 : decode cX7_advance 261 = .ok (.iadd, 1) := by decide +kernel
theorem dX7_advance_262 : decode cX7_advance 262 = .ok (.bipush 48, 2) := by decide +kernel
theorem dX7_advance_264 : decode cX7_advance 264 = .ok (.isub, 1) := by decide +kernel
theorem dX7_advance_265 : decode cX7_advance 265 = .ok (.putfield 247, 3) := by decide +kernel
theorem dX7_advance_268 : decode cX7_advance 268 = .ok (.aload_n 0, 1) := by decide +kernel
theorem dX7_advance_269 : decode cX7_advance 269 = .ok (.dup, 1) := by decide +kernel
theorem dX7_advance_270 : decode cX7_advance 270 = .ok (.getfield 225, 3) := by decide +kernel
theorem dX7_advance_273 : decode cX7_advance 273 = .ok (.iconst 1, 1) := by decide +kernel
theorem dX7_advance_274 : decode cX7_advance 274 = .ok (.iadd, 1) := by decide +kernel
theorem dX7_advance_275 : decode cX7_advance 275 = .ok (.putfield 225, 3) := by decide +kernel
theorem dX7_advance_278 : decode cX7_advance 278 = .ok (.goto (-71), 3) := by decide +kernel
theorem dX7_advance_281 : decode cX7_advance 281 = .ok (.return_, 1) := by decide +kernel
theorem dX7_isWord_0 : decode cX7_isWord 0 = .ok (.aload_n 0, 1) := by decide +kernel
theorem dX7_isWord_1 : decode cX7_isWord 1 = .ok (.getfield 240, 3) := by decide +kernel
theorem dX7_isWord_4 : decode cX7_isWord 4 = .ok (.iconst 1, 1) := by decide +kernel
theorem dX7_isWord_5 : decode cX7_isWord 5 = .ok (.if_icmp .ne 16, 3) := by decide +kernel
theorem dX7_isWord_8 : decode cX7_isWord 8 = .ok (.aload_n 0, 1) := by decide +kernel
theorem dX7_isWord_9 : decode cX7_isWord 9 = .ok (.getfield 243, 3) := by decide +kernel
theorem dX7_isWord_12 : decode cX7_isWord 12 = .ok (.lload_n 1, 1) := by decide +kernel
theorem dX7_isWord_13 : decode cX7_isWord 13 = .ok (.lcmp, 1) := by decide +kernel
theorem dX7_isWord_14 : decode cX7_isWord 14 = .ok (.ifCond .ne 7, 3) := by decide +kernel
theorem dX7_isWord_17 : decode cX7_isWord 17 = .ok (.iconst 1, 1) := by decide +kernel
theorem dX7_isWord_18 : decode cX7_isWord 18 = .ok (.goto 4, 3) := by decide +kernel
theorem dX7_isWord_21 : decode cX7_isWord 21 = .ok (.iconst 0, 1) := by decide +kernel
theorem dX7_isWord_22 : decode cX7_isWord 22 = .ok (.ireturn, 1) := by decide +kernel
theorem dX7_kindHere_0 : decode cX7_kindHere 0 = .ok (.aload_n 0, 1) := by decide +kernel
theorem dX7_kindHere_1 : decode cX7_kindHere 1 = .ok (.ldc2_w 256, 3) := by decide +kernel
theorem dX7_kindHere_4 : decode cX7_kindHere 4 = .ok (.invokevirtual 258, 3) := by decide +kernel
theorem dX7_kindHere_7 : decode cX7_kindHere 7 = .ok (.ifCond .eq 7, 3) := by decide +kernel
theorem dX7_kindHere_10 : decode cX7_kindHere 10 = .ok (.iconst 0, 1) := by decide +kernel
theorem dX7_kindHere_11 : decode cX7_kindHere 11 = .ok (.goto 74, 3) := by decide +kernel
theorem dX7_kindHere_14 : decode cX7_kindHere 14 = .ok (.aload_n 0, 1) := by decide +kernel
theorem dX7_kindHere_15 : decode cX7_kindHere 15 = .ok (.ldc2_w 262, 3) := by decide +kernel
theorem dX7_kindHere_18 : decode cX7_kindHere 18 = .ok (.invokevirtual 258, 3) := by decide +kernel
theorem dX7_kindHere_21 : decode cX7_kindHere 21 = .ok (.ifCond .eq 7, 3) := by decide +kernel
theorem dX7_kindHere_24 : decode cX7_kindHere 24 = .ok (.iconst 1, 1) := by decide +kernel
theorem dX7_kindHere_25 : decode cX7_kindHere 25 = .ok (.goto 60, 3) := by decide +kernel
theorem dX7_kindHere_28 : decode cX7_kindHere 28 = .ok (.aload_n 0, 1) := by decide +kernel
theorem dX7_kindHere_29 : decode cX7_kindHere 29 = .ok (.ldc2_w 264, 3) := by decide +kernel
theorem dX7_kindHere_32 : decode cX7_kindHere 32 = .ok (.invokevirtual 258, 3) := by decide +kernel
theorem dX7_kindHere_35 : decode cX7_kindHere 35 = .ok (.ifCond .eq 7, 3) := by decide +kernel
theorem dX7_kindHere_38 : decode cX7_kindHere 38 = .ok (.iconst 2, 1) := by decide +kernel
theorem dX7_kindHere_39 : decode cX7_kindHere 39 = .ok (.goto 46, 3) := by decide +kernel
theorem dX7_kindHere_42 : decode cX7_kindHere 42 = .ok (.aload_n 0, 1) := by decide +kernel
theorem dX7_kindHere_43 : decode cX7_kindHere 43 = .ok (.ldc2_w 266, 3) := by decide +kernel
theorem dX7_kindHere_46 : decode cX7_kindHere 46 = .ok (.invokevirtual 258, 3) := by decide +kernel
theorem dX7_kindHere_49 : decode cX7_kindHere 49 = .ok (.ifCond .eq 7, 3) := by decide +kernel
theorem dX7_kindHere_52 : decode cX7_kindHere 52 = .ok (.iconst 3, 1) := by decide +kernel
theorem dX7_kindHere_53 : decode cX7_kindHere 53 = .ok (.goto 32, 3) := by decide +kernel
theorem dX7_kindHere_56 : decode cX7_kindHere 56 = .ok (.aload_n 0, 1) := by decide +kernel
theorem dX7_kindHere_57 : decode cX7_kindHere 57 = .ok (.ldc2_w 268, 3) := by decide +kernel
theorem dX7_kindHere_60 : decode cX7_kindHere 60 = .ok (.invokevirtual 258, 3) := by decide +kernel
theorem dX7_kindHere_63 : decode cX7_kindHere 63 = .ok (.ifCond .eq 7, 3) := by decide +kernel
theorem dX7_kindHere_66 : decode cX7_kindHere 66 = .ok (.iconst 4, 1) := by decide +kernel
theorem dX7_kindHere_67 : decode cX7_kindHere 67 = .ok (.goto 18, 3) := by decide +kernel
theorem dX7_kindHere_70 : decode cX7_kindHere 70 = .ok (.aload_n 0, 1) := by decide +kernel
theorem dX7_kindHere_71 : decode cX7_kindHere 71 = .ok (.ldc2_w 270, 3) := by decide +kernel
theorem dX7_kindHere_74 : decode cX7_kindHere 74 = .ok (.invokevirtual 258, 3) := by decide +kernel
theorem dX7_kindHere_77 : decode cX7_kindHere 77 = .ok (.ifCond .eq 7, 3) := by decide +kernel
theorem dX7_kindHere_80 : decode cX7_kindHere 80 = .ok (.iconst 5, 1) := by decide +kernel
theorem dX7_kindHere_81 : decode cX7_kindHere 81 = .ok (.goto 4, 3) := by decide +kernel
theorem dX7_kindHere_84 : decode cX7_kindHere 84 = .ok (.iconst (-1), 1) := by decide +kernel
theorem dX7_kindHere_85 : decode cX7_kindHere 85 = .ok (.ireturn, 1) := by decide +kernel
theorem dX7_wantNumber_0 : decode cX7_wantNumber 0 = .ok (.aload_n 0, 1) := by decide +kernel
theorem dX7_wantNumber_1 : decode cX7_wantNumber 1 = .ok (.getfield 247, 3) := by decide +kernel
theorem dX7_wantNumber_4 : decode cX7_wantNumber 4 = .ok (.istore_n 3, 1) := by decide +kernel
theorem dX7_wantNumber_5 : decode cX7_wantNumber 5 = .ok (.aload_n 0, 1) := by decide +kernel
theorem dX7_wantNumber_6 : decode cX7_wantNumber 6 = .ok (.aload_n 0, 1) := by decide +kernel
theorem dX7_wantNumber_7 : decode cX7_wantNumber 7 = .ok (.getfield 272, 3) := by decide +kernel
theorem dX7_wantNumber_10 : decode cX7_wantNumber 10 = .ok (.ifCond .eq 24, 3) := by decide +kernel
theorem dX7_wantNumber_13 : decode cX7_wantNumber 13 = .ok (.aload_n 0, 1) := by decide +kernel
theorem dX7_wantNumber_14 : decode cX7_wantNumber 14 = .ok (.getfield 240, 3) := by decide +kernel
theorem dX7_wantNumber_17 : decode cX7_wantNumber 17 = .ok (.iconst 2, 1) := by decide +kernel
theorem dX7_wantNumber_18 : decode cX7_wantNumber 18 = .ok (.if_icmp .ne 16, 3) := by decide +kernel
theorem dX7_wantNumber_21 : decode cX7_wantNumber 21 = .ok (.iload_n 3, 1) := by decide +kernel
theorem dX7_wantNumber_22 : decode cX7_wantNumber 22 = .ok (.iload_n 1, 1) := by decide +kernel
theorem dX7_wantNumber_23 : decode cX7_wantNumber 23 = .ok (.iload_n 2, 1) := by decide +kernel
theorem dX7_wantNumber_24 : decode cX7_wantNumber 24 = .ok (.invokestatic 86, 3) := by decide +kernel
theorem dX7_wantNumber_27 : decode cX7_wantNumber 27 = .ok (.ifCond .eq 7, 3) := by decide +kernel
theorem dX7_wantNumber_30 : decode cX7_wantNumber 30 = .ok (.iconst 1, 1) := by decide +kernel
theorem dX7_wantNumber_31 : decode cX7_wantNumber 31 = .ok (.goto 4, 3) := by decide +kernel
theorem dX7_wantNumber_34 : decode cX7_wantNumber 34 = .ok (.iconst 0, 1) := by decide +kernel
theorem dX7_wantNumber_35 : decode cX7_wantNumber 35 = .ok (.putfield 272, 3) := by decide +kernel
theorem dX7_wantNumber_38 : decode cX7_wantNumber 38 = .ok (.aload_n 0, 1) := by decide +kernel
theorem dX7_wantNumber_39 : decode cX7_wantNumber 39 = .ok (.getfield 272, 3) := by decide +kernel
theorem dX7_wantNumber_42 : decode cX7_wantNumber 42 = .ok (.ifCond .eq 7, 3) := by decide +kernel
theorem dX7_wantNumber_45 : decode cX7_wantNumber 45 = .ok (.aload_n 0, 1) := by decide +kernel
theorem dX7_wantNumber_46 : decode cX7_wantNumber 46 = .ok (.invokevirtual 276, 3) := by decide +kernel
theorem dX7_wantNumber_49 : decode cX7_wantNumber 49 = .ok (.iload_n 3, 1) := by decide +kernel
theorem dX7_wantNumber_50 : decode cX7_wantNumber 50 = .ok (.ireturn, 1) := by decide +kernel
theorem dX7_wantWord_0 : decode cX7_wantWord 0 = .ok (.aload_n 0, 1) := by decide +kernel
theorem dX7_wantWord_1 : decode cX7_wantWord 1 = .ok (.aload_n 0, 1) := by decide +kernel
theorem dX7_wantWord_2 : decode cX7_wantWord 2 = .ok (.getfield 272, 3) := by decide +kernel
theorem dX7_wantWord_5 : decode cX7_wantWord 5 = .ok (.ifCond .eq 15, 3) := by decide +kernel
theorem dX7_wantWord_8 : decode cX7_wantWord 8 = .ok (.aload_n 0, 1) := by decide +kernel
theorem dX7_wantWord_9 : decode cX7_wantWord 9 = .ok (.lload_n 1, 1) := by decide +kernel
theorem dX7_wantWord_10 : decode cX7_wantWord 10 = .ok (.invokevirtual 258, 3) := by decide +kernel
theorem dX7_wantWord_13 : decode cX7_wantWord 13 = .ok (.ifCond .eq 7, 3) := by decide +kernel
theorem dX7_wantWord_16 : decode cX7_wantWord 16 = .ok (.iconst 1, 1) := by decide +kernel
theorem dX7_wantWord_17 : decode cX7_wantWord 17 = .ok (.goto 4, 3) := by decide +kernel
theorem dX7_wantWord_20 : decode cX7_wantWord 20 = .ok (.iconst 0, 1) := by decide +kernel
theorem dX7_wantWord_21 : decode cX7_wantWord 21 = .ok (.putfield 272, 3) := by decide +kernel
theorem dX7_wantWord_24 : decode cX7_wantWord 24 = .ok (.aload_n 0, 1) := by decide +kernel
theorem dX7_wantWord_25 : decode cX7_wantWord 25 = .ok (.getfield 272, 3) := by decide +kernel
theorem dX7_wantWord_28 : decode cX7_wantWord 28 = .ok (.ifCond .eq 7, 3) := by decide +kernel
theorem dX7_wantWord_31 : decode cX7_wantWord 31 = .ok (.aload_n 0, 1) := by decide +kernel
theorem dX7_wantWord_32 : decode cX7_wantWord 32 = .ok (.invokevirtual 276, 3) := by decide +kernel
theorem dX7_wantWord_35 : decode cX7_wantWord 35 = .ok (.return_, 1) := by decide +kernel
theorem dX7_wantEither_0 : decode cX7_wantEither 0 = .ok (.aload_n 0, 1) := by decide +kernel
theorem dX7_wantEither_1 : decode cX7_wantEither 1 = .ok (.lload_n 1, 1) := by decide +kernel
theorem dX7_wantEither_2 : decode cX7_wantEither 2 = .ok (.invokevirtual 258, 3) := by decide +kernel
theorem dX7_wantEither_5 : decode cX7_wantEither 5 = .ok (.istore 5, 2) := by decide +kernel
theorem dX7_wantEither_7 : decode cX7_wantEither 7 = .ok (.aload_n 0, 1) := by decide +kernel
theorem dX7_wantEither_8 : decode cX7_wantEither 8 = .ok (.aload_n 0, 1) := by decide +kernel
theorem dX7_wantEither_9 : decode cX7_wantEither 9 = .ok (.getfield 272, 3) := by decide +kernel
theorem dX7_wantEither_12 : decode cX7_wantEither 12 = .ok (.ifCond .eq 20, 3) := by decide +kernel
theorem dX7_wantEither_15 : decode cX7_wantEither 15 = .ok (.iload 5, 2) := by decide +kernel
theorem dX7_wantEither_17 : decode cX7_wantEither 17 = .ok (.ifCond .ne 11, 3) := by decide +kernel
theorem dX7_wantEither_20 : decode cX7_wantEither 20 = .ok (.aload_n 0, 1) := by decide +kernel
theorem dX7_wantEither_21 : decode cX7_wantEither 21 = .ok (.lload_n 3, 1) := by decide +kernel
theorem dX7_wantEither_22 : decode cX7_wantEither 22 = .ok (.invokevirtual 258, 3) := by decide +kernel
theorem dX7_wantEither_25 : decode cX7_wantEither 25 = .ok (.ifCond .eq 7, 3) := by decide +kernel
theorem dX7_wantEither_28 : decode cX7_wantEither 28 = .ok (.iconst 1, 1) := by decide +kernel
theorem dX7_wantEither_29 : decode cX7_wantEither 29 = .ok (.goto 4, 3) := by decide +kernel
theorem dX7_wantEither_32 : decode cX7_wantEither 32 = .ok (.iconst 0, 1) := by decide +kernel
theorem dX7_wantEither_33 : decode cX7_wantEither 33 = .ok (.putfield 272, 3) := by decide +kernel
theorem dX7_wantEither_36 : decode cX7_wantEither 36 = .ok (.aload_n 0, 1) := by decide +kernel
theorem dX7_wantEither_37 : decode cX7_wantEither 37 = .ok (.getfield 272, 3) := by decide +kernel
theorem dX7_wantEither_40 : decode cX7_wantEither 40 = .ok (.ifCond .eq 7, 3) := by decide +kernel
theorem dX7_wantEither_43 : decode cX7_wantEither 43 = .ok (.aload_n 0, 1) := by decide +kernel
theorem dX7_wantEither_44 : decode cX7_wantEither 44 = .ok (.invokevirtual 276, 3) := by decide +kernel
theorem dX7_wantEither_47 : decode cX7_wantEither 47 = .ok (.iload 5, 2) := by decide +kernel
theorem dX7_wantEither_49 : decode cX7_wantEither 49 = .ok (.ireturn, 1) := by decide +kernel
theorem dX7_wantEntry_0 : decode cX7_wantEntry 0 = .ok (.aload_n 0, 1) := by decide +kernel
theorem dX7_wantEntry_1 : decode cX7_wantEntry 1 = .ok (.aload_n 0, 1) := by decide +kernel
theorem dX7_wantEntry_2 : decode cX7_wantEntry 2 = .ok (.getfield 93, 3) := by decide +kernel
theorem dX7_wantEntry_5 : decode cX7_wantEntry 5 = .ok (.bipush 30, 2) := by decide +kernel
theorem dX7_wantEntry_7 : decode cX7_wantEntry 7 = .ok (.if_icmp .ge 7, 3) := by decide +kernel
theorem dX7_wantEntry_10 : decode cX7_wantEntry 10 = .ok (.iconst 1, 1) := by decide +kernel
theorem dX7_wantEntry_11 : decode cX7_wantEntry 11 = .ok (.goto 4, 3) := by decide +kernel
theorem dX7_wantEntry_14 : decode cX7_wantEntry 14 = .ok (.iconst 0, 1) := by decide +kernel
theorem dX7_wantEntry_15 : decode cX7_wantEntry 15 = .ok (.putfield 272, 3) := by decide +kernel
theorem dX7_wantEntry_18 : decode cX7_wantEntry 18 = .ok (.aload_n 0, 1) := by decide +kernel
theorem dX7_wantEntry_19 : decode cX7_wantEntry 19 = .ok (.getfield 272, 3) := by decide +kernel
theorem dX7_wantEntry_22 : decode cX7_wantEntry 22 = .ok (.ifCond .eq 7, 3) := by decide +kernel
theorem dX7_wantEntry_25 : decode cX7_wantEntry 25 = .ok (.aload_n 0, 1) := by decide +kernel
theorem dX7_wantEntry_26 : decode cX7_wantEntry 26 = .ok (.invokevirtual 276, 3) := by decide +kernel
theorem dX7_wantEntry_29 : decode cX7_wantEntry 29 = .ok (.iconst 0, 1) := by decide +kernel
theorem dX7_wantEntry_30 : decode cX7_wantEntry 30 = .ok (.istore_n 2, 1) := by decide +kernel
theorem dX7_wantEntry_31 : decode cX7_wantEntry 31 = .ok (.aload_n 0, 1) := by decide +kernel
theorem dX7_wantEntry_32 : decode cX7_wantEntry 32 = .ok (.aload_n 0, 1) := by decide +kernel
theorem dX7_wantEntry_33 : decode cX7_wantEntry 33 = .ok (.getfield 272, 3) := by decide +kernel
theorem dX7_wantEntry_36 : decode cX7_wantEntry 36 = .ok (.ifCond .eq 15, 3) := by decide +kernel
theorem dX7_wantEntry_39 : decode cX7_wantEntry 39 = .ok (.aload_n 0, 1) := by decide +kernel
theorem dX7_wantEntry_40 : decode cX7_wantEntry 40 = .ok (.getfield 240, 3) := by decide +kernel
theorem dX7_wantEntry_43 : decode cX7_wantEntry 43 = .ok (.iconst 2, 1) := by decide +kernel
theorem dX7_wantEntry_44 : decode cX7_wantEntry 44 = .ok (.if_icmp .ne 7, 3) := by decide +kernel
theorem dX7_wantEntry_47 : decode cX7_wantEntry 47 = .ok (.iconst 1, 1) := by decide +kernel
theorem dX7_wantEntry_48 : decode cX7_wantEntry 48 = .ok (.goto 4, 3) := by decide +kernel
theorem dX7_wantEntry_51 : decode cX7_wantEntry 51 = .ok (.iconst 0, 1) := by decide +kernel
theorem dX7_wantEntry_52 : decode cX7_wantEntry 52 = .ok (.putfield 272, 3) := by decide +kernel
theorem dX7_wantEntry_55 : decode cX7_wantEntry 55 = .ok (.aload_n 0, 1) := by decide +kernel
theorem dX7_wantEntry_56 : decode cX7_wantEntry 56 = .ok (.getfield 272, 3) := by decide +kernel
theorem dX7_wantEntry_59 : decode cX7_wantEntry 59 = .ok (.ifCond .eq 86, 3) := by decide +kernel
theorem dX7_wantEntry_62 : decode cX7_wantEntry 62 = .ok (.aload_n 0, 1) := by decide +kernel
theorem dX7_wantEntry_63 : decode cX7_wantEntry 63 = .ok (.getfield 240, 3) := by decide +kernel
theorem dX7_wantEntry_66 : decode cX7_wantEntry 66 = .ok (.iconst 2, 1) := by decide +kernel
theorem dX7_wantEntry_67 : decode cX7_wantEntry 67 = .ok (.if_icmp .ne 78, 3) := by decide +kernel
theorem dX7_wantEntry_70 : decode cX7_wantEntry 70 = .ok (.aload_n 0, 1) := by decide +kernel
theorem dX7_wantEntry_71 : decode cX7_wantEntry 71 = .ok (.aload_n 0, 1) := by decide +kernel
theorem dX7_wantEntry_72 : decode cX7_wantEntry 72 = .ok (.getfield 247, 3) := by decide +kernel
theorem dX7_wantEntry_75 : decode cX7_wantEntry 75 = .ok (.invokestatic 97, 3) := by decide +kernel
theorem dX7_wantEntry_78 : decode cX7_wantEntry 78 = .ok (.ifCond .eq 40, 3) := by decide +kernel
theorem dX7_wantEntry_81 : decode cX7_wantEntry 81 = .ok (.iload_n 2, 1) := by decide +kernel
theorem dX7_wantEntry_82 : decode cX7_wantEntry 82 = .ok (.invokestatic 81, 3) := by decide +kernel
theorem dX7_wantEntry_85 : decode cX7_wantEntry 85 = .ok (.iconst 3, 1) := by decide +kernel
theorem dX7_wantEntry_86 : decode cX7_wantEntry 86 = .ok (.if_icmp .ge 32, 3) := by decide +kernel
theorem dX7_wantEntry_89 : decode cX7_wantEntry 89 = .ok (.iload_n 2, 1) := by decide +kernel
theorem dX7_wantEntry_90 : decode cX7_wantEntry 90 = .ok (.aload_n 0, 1) := by decide +kernel
theorem dX7_wantEntry_91 : decode cX7_wantEntry 91 = .ok (.getfield 247, 3) := by decide +kernel
theorem dX7_wantEntry_94 : decode cX7_wantEntry 94 = .ok (.invokestatic 97, 3) := by decide +kernel
theorem dX7_wantEntry_97 : decode cX7_wantEntry 97 = .ok (.ifCond .eq 10, 3) := by decide +kernel
theorem dX7_wantEntry_100 : decode cX7_wantEntry 100 = .ok (.aload_n 0, 1) := by decide +kernel
theorem dX7_wantEntry_101 : decode cX7_wantEntry 101 = .ok (.getfield 247, 3) := by decide +kernel
theorem dX7_wantEntry_104 : decode cX7_wantEntry 104 = .ok (.goto 4, 3) := by decide +kernel
theorem dX7_wantEntry_107 : decode cX7_wantEntry 107 = .ok (.iconst 0, 1) := by decide +kernel
theorem dX7_wantEntry_108 : decode cX7_wantEntry 108 = .ok (.invokestatic 120, 3) := by decide +kernel
theorem dX7_wantEntry_111 : decode cX7_wantEntry 111 = .ok (.ifCond .ne 7, 3) := by decide +kernel
theorem dX7_wantEntry_114 : decode cX7_wantEntry 114 = .ok (.iconst 1, 1) := by decide +kernel
theorem dX7_wantEntry_115 : decode cX7_wantEntry 115 = .ok (.goto 4, 3) := by decide +kernel
theorem dX7_wantEntry_118 : decode cX7_wantEntry 118 = .ok (.iconst 0, 1) := by decide +kernel
theorem dX7_wantEntry_119 : decode cX7_wantEntry 119 = .ok (.putfield 272, 3) := by decide +kernel
theorem dX7_wantEntry_122 : decode cX7_wantEntry 122 = .ok (.aload_n 0, 1) := by decide +kernel
theorem dX7_wantEntry_123 : decode cX7_wantEntry 123 = .ok (.getfield 272, 3) := by decide +kernel
theorem dX7_wantEntry_126 : decode cX7_wantEntry 126 = .ok (.ifCond .eq (-71), 3) := by decide +kernel
theorem dX7_wantEntry_129 : decode cX7_wantEntry 129 = .ok (.iload_n 2, 1) := by decide +kernel
theorem dX7_wantEntry_130 : decode cX7_wantEntry 130 = .ok (.iconst 1, 1) := by decide +kernel
theorem dX7_wantEntry_131 : decode cX7_wantEntry 131 = .ok (.aload_n 0, 1) := by decide +kernel
theorem dX7_wantEntry_132 : decode cX7_wantEntry 132 = .ok (.getfield 247, 3) := by decide +kernel
theorem dX7_wantEntry_135 : decode cX7_wantEntry 135 = .ok (.ishl, 1) := by decide +kernel
theorem dX7_wantEntry_136 : decode cX7_wantEntry 136 = .ok (.ior, 1) := by decide +kernel
theorem dX7_wantEntry_137 : decode cX7_wantEntry 137 = .ok (.istore_n 2, 1) := by decide +kernel
theorem dX7_wantEntry_138 : decode cX7_wantEntry 138 = .ok (.aload_n 0, 1) := by decide +kernel
theorem dX7_wantEntry_139 : decode cX7_wantEntry 139 = .ok (.invokevirtual 276, 3) := by decide +kernel
theorem dX7_wantEntry_142 : decode cX7_wantEntry 142 = .ok (.goto (-87), 3) := by decide +kernel
theorem dX7_wantEntry_145 : decode cX7_wantEntry 145 = .ok (.aload_n 0, 1) := by decide +kernel
theorem dX7_wantEntry_146 : decode cX7_wantEntry 146 = .ok (.ldc2_w 279, 3) := by decide +kernel
theorem dX7_wantEntry_149 : decode cX7_wantEntry 149 = .ok (.invokevirtual 281, 3) := by decide +kernel
theorem dX7_wantEntry_152 : decode cX7_wantEntry 152 = .ok (.aload_n 0, 1) := by decide +kernel
theorem dX7_wantEntry_153 : decode cX7_wantEntry 153 = .ok (.iconst 0, 1) := by decide +kernel
theorem dX7_wantEntry_154 : decode cX7_wantEntry 154 = .ok (.iconst 4, 1) := by decide +kernel
theorem dX7_wantEntry_155 : decode cX7_wantEntry 155 = .ok (.invokevirtual 285, 3) := by decide +kernel
theorem dX7_wantEntry_158 : decode cX7_wantEntry 158 = .ok (.istore_n 3, 1) := by decide +kernel
theorem dX7_wantEntry_159 : decode cX7_wantEntry 159 = .ok (.aload_n 0, 1) := by decide +kernel
theorem dX7_wantEntry_160 : decode cX7_wantEntry 160 = .ok (.ldc2_w 288, 3) := by decide +kernel
theorem dX7_wantEntry_163 : decode cX7_wantEntry 163 = .ok (.invokevirtual 281, 3) := by decide +kernel
theorem dX7_wantEntry_166 : decode cX7_wantEntry 166 = .ok (.aload_n 0, 1) := by decide +kernel
theorem dX7_wantEntry_167 : decode cX7_wantEntry 167 = .ok (.iconst 0, 1) := by decide +kernel
theorem dX7_wantEntry_168 : decode cX7_wantEntry 168 = .ok (.iconst 3, 1) := by decide +kernel
theorem dX7_wantEntry_169 : decode cX7_wantEntry 169 = .ok (.invokevirtual 285, 3) := by decide +kernel
theorem dX7_wantEntry_172 : decode cX7_wantEntry 172 = .ok (.istore 4, 2) := by decide +kernel
theorem dX7_wantEntry_174 : decode cX7_wantEntry 174 = .ok (.aload_n 0, 1) := by decide +kernel
theorem dX7_wantEntry_175 : decode cX7_wantEntry 175 = .ok (.getfield 272, 3) := by decide +kernel
theorem dX7_wantEntry_178 : decode cX7_wantEntry 178 = .ok (.ifCond .eq 23, 3) := by decide +kernel
theorem dX7_wantEntry_181 : decode cX7_wantEntry 181 = .ok (.aload_n 0, 1) := by decide +kernel
theorem dX7_wantEntry_182 : decode cX7_wantEntry 182 = .ok (.iload_n 1, 1) := by decide +kernel
theorem dX7_wantEntry_183 : decode cX7_wantEntry 183 = .ok (.bipush 20, 2) := by decide +kernel
theorem dX7_wantEntry_185 : decode cX7_wantEntry 185 = .ok (.iload_n 2, 1) := by decide +kernel
theorem dX7_wantEntry_186 : decode cX7_wantEntry 186 = .ok (.imul, 1) := by decide +kernel
theorem dX7_wantEntry_187 : decode cX7_wantEntry 187 = .ok (.iconst 4, 1) := by decide +kernel
theorem dX7_wantEntry_188 : decode cX7_wantEntry 188 = .ok (.iload_n 3, 1) := by decide +kernel
theorem dX7_wantEntry_189 : decode cX7_wantEntry 189 = .ok (.imul, 1) := by decide +kernel
theorem dX7_wantEntry_190 : decode cX7_wantEntry 190 = .ok (.iadd, 1) := by decide +kernel
theorem dX7_wantEntry_191 : decode cX7_wantEntry 191 = .ok (.iload 4, 2) := by decide +kernel
theorem dX7_wantEntry_193 : decode cX7_wantEntry 193 = .ok (.iadd, 1) := by decide +kernel
theorem dX7_wantEntry_194 : decode cX7_wantEntry 194 = .ok (.aload_n 0, 1) := by decide +kernel
theorem dX7_wantEntry_195 : decode cX7_wantEntry 195 = .ok (.getfield 163, 3) := by decide +kernel
theorem dX7_wantEntry_198 : decode cX7_wantEntry 198 = .ok (.invokevirtual 166, 3) := by decide +kernel
theorem dX7_wantEntry_201 : decode cX7_wantEntry 201 = .ok (.return_, 1) := by decide +kernel
theorem dX7_wantStore_0 : decode cX7_wantStore 0 = .ok (.aload_n 0, 1) := by decide +kernel
theorem dX7_wantStore_1 : decode cX7_wantStore 1 = .ok (.invokevirtual 276, 3) := by decide +kernel
theorem dX7_wantStore_4 : decode cX7_wantStore 4 = .ok (.aload_n 0, 1) := by decide +kernel
theorem dX7_wantStore_5 : decode cX7_wantStore 5 = .ok (.iconst 0, 1) := by decide +kernel
theorem dX7_wantStore_6 : decode cX7_wantStore 6 = .ok (.bipush 7, 2) := by decide +kernel
theorem dX7_wantStore_8 : decode cX7_wantStore 8 = .ok (.invokevirtual 285, 3) := by decide +kernel
theorem dX7_wantStore_11 : decode cX7_wantStore 11 = .ok (.istore_n 1, 1) := by decide +kernel
theorem dX7_wantStore_12 : decode cX7_wantStore 12 = .ok (.aload_n 0, 1) := by decide +kernel
theorem dX7_wantStore_13 : decode cX7_wantStore 13 = .ok (.iconst 0, 1) := by decide +kernel
theorem dX7_wantStore_14 : decode cX7_wantStore 14 = .ok (.bipush 99, 2) := by decide +kernel
theorem dX7_wantStore_16 : decode cX7_wantStore 16 = .ok (.invokevirtual 285, 3) := by decide +kernel
theorem dX7_wantStore_19 : decode cX7_wantStore 19 = .ok (.istore_n 2, 1) := by decide +kernel
theorem dX7_wantStore_20 : decode cX7_wantStore 20 = .ok (.aload_n 0, 1) := by decide +kernel
theorem dX7_wantStore_21 : decode cX7_wantStore 21 = .ok (.getfield 272, 3) := by decide +kernel
theorem dX7_wantStore_24 : decode cX7_wantStore 24 = .ok (.ifCond .eq 10, 3) := by decide +kernel
theorem dX7_wantStore_27 : decode cX7_wantStore 27 = .ok (.aload_n 0, 1) := by decide +kernel
theorem dX7_wantStore_28 : decode cX7_wantStore 28 = .ok (.getfield 7, 3) := by decide +kernel
theorem dX7_wantStore_31 : decode cX7_wantStore 31 = .ok (.iload_n 1, 1) := by decide +kernel
theorem dX7_wantStore_32 : decode cX7_wantStore 32 = .ok (.iload_n 2, 1) := by decide +kernel
theorem dX7_wantStore_33 : decode cX7_wantStore 33 = .ok (.iastore, 1) := by decide +kernel
theorem dX7_wantStore_34 : decode cX7_wantStore 34 = .ok (.return_, 1) := by decide +kernel
theorem dX7_wantLiking_0 : decode cX7_wantLiking 0 = .ok (.aload_n 0, 1) := by decide +kernel
theorem dX7_wantLiking_1 : decode cX7_wantLiking 1 = .ok (.invokevirtual 276, 3) := by decide +kernel
theorem dX7_wantLiking_4 : decode cX7_wantLiking 4 = .ok (.aload_n 0, 1) := by decide +kernel
theorem dX7_wantLiking_5 : decode cX7_wantLiking 5 = .ok (.ldc2_w 290, 3) := by decide +kernel
theorem dX7_wantLiking_8 : decode cX7_wantLiking 8 = .ok (.invokevirtual 258, 3) := by decide +kernel
theorem dX7_wantLiking_11 : decode cX7_wantLiking 11 = .ok (.ifCond .eq 7, 3) := by decide +kernel
theorem dX7_wantLiking_14 : decode cX7_wantLiking 14 = .ok (.iconst 0, 1) := by decide +kernel
theorem dX7_wantLiking_15 : decode cX7_wantLiking 15 = .ok (.goto 32, 3) := by decide +kernel
theorem dX7_wantLiking_18 : decode cX7_wantLiking 18 = .ok (.aload_n 0, 1) := by decide +kernel
theorem dX7_wantLiking_19 : decode cX7_wantLiking 19 = .ok (.ldc2_w 279, 3) := by decide +kernel
theorem dX7_wantLiking_22 : decode cX7_wantLiking 22 = .ok (.invokevirtual 258, 3) := by decide +kernel
theorem dX7_wantLiking_25 : decode cX7_wantLiking 25 = .ok (.ifCond .eq 7, 3) := by decide +kernel
theorem dX7_wantLiking_28 : decode cX7_wantLiking 28 = .ok (.iconst 1, 1) := by decide +kernel
theorem dX7_wantLiking_29 : decode cX7_wantLiking 29 = .ok (.goto 18, 3) := by decide +kernel
theorem dX7_wantLiking_32 : decode cX7_wantLiking 32 = .ok (.aload_n 0, 1) := by decide +kernel
theorem dX7_wantLiking_33 : decode cX7_wantLiking 33 = .ok (.ldc2_w 288, 3) := by decide +kernel
theorem dX7_wantLiking_36 : decode cX7_wantLiking 36 = .ok (.invokevirtual 258, 3) := by decide +kernel
theorem dX7_wantLiking_39 : decode cX7_wantLiking 39 = .ok (.ifCond .eq 7, 3) := by decide +kernel
theorem dX7_wantLiking_42 : decode cX7_wantLiking 42 = .ok (.iconst 2, 1) := by decide +kernel
theorem dX7_wantLiking_43 : decode cX7_wantLiking 43 = .ok (.goto 4, 3) := by decide +kernel
theorem dX7_wantLiking_46 : decode cX7_wantLiking 46 = .ok (.iconst (-1), 1) := by decide +kernel
theorem dX7_wantLiking_47 : decode cX7_wantLiking 47 = .ok (.istore_n 2, 1) := by decide +kernel
theorem dX7_wantLiking_48 : decode cX7_wantLiking 48 = .ok (.aload_n 0, 1) := by decide +kernel
theorem dX7_wantLiking_49 : decode cX7_wantLiking 49 = .ok (.iload_n 2, 1) := by decide +kernel
theorem dX7_wantLiking_50 : decode cX7_wantLiking 50 = .ok (.ifCond .lt 7, 3) := by decide +kernel
theorem dX7_wantLiking_53 : decode cX7_wantLiking 53 = .ok (.iconst 1, 1) := by decide +kernel
theorem dX7_wantLiking_54 : decode cX7_wantLiking 54 = .ok (.goto 4, 3) := by decide +kernel
theorem dX7_wantLiking_57 : decode cX7_wantLiking 57 = .ok (.iconst 0, 1) := by decide +kernel
theorem dX7_wantLiking_58 : decode cX7_wantLiking 58 = .ok (.putfield 272, 3) := by decide +kernel
theorem dX7_wantLiking_61 : decode cX7_wantLiking 61 = .ok (.aload_n 0, 1) := by decide +kernel
theorem dX7_wantLiking_62 : decode cX7_wantLiking 62 = .ok (.getfield 272, 3) := by decide +kernel
theorem dX7_wantLiking_65 : decode cX7_wantLiking 65 = .ok (.ifCond .eq 7, 3) := by decide +kernel
theorem dX7_wantLiking_68 : decode cX7_wantLiking 68 = .ok (.aload_n 0, 1) := by decide +kernel
theorem dX7_wantLiking_69 : decode cX7_wantLiking 69 = .ok (.invokevirtual 276, 3) := by decide +kernel
theorem dX7_wantLiking_72 : decode cX7_wantLiking 72 = .ok (.aload_n 0, 1) := by decide +kernel
theorem dX7_wantLiking_73 : decode cX7_wantLiking 73 = .ok (.iconst 0, 1) := by decide +kernel
theorem dX7_wantLiking_74 : decode cX7_wantLiking 74 = .ok (.iload_n 2, 1) := by decide +kernel
theorem dX7_wantLiking_75 : decode cX7_wantLiking 75 = .ok (.invokestatic 107, 3) := by decide +kernel
theorem dX7_wantLiking_78 : decode cX7_wantLiking 78 = .ok (.invokevirtual 285, 3) := by decide +kernel
theorem dX7_wantLiking_81 : decode cX7_wantLiking 81 = .ok (.istore_n 3, 1) := by decide +kernel
theorem dX7_wantLiking_82 : decode cX7_wantLiking 82 = .ok (.aload_n 0, 1) := by decide +kernel
theorem dX7_wantLiking_83 : decode cX7_wantLiking 83 = .ok (.iconst 0, 1) := by decide +kernel
theorem dX7_wantLiking_84 : decode cX7_wantLiking 84 = .ok (.bipush 9, 2) := by decide +kernel
theorem dX7_wantLiking_86 : decode cX7_wantLiking 86 = .ok (.invokevirtual 285, 3) := by decide +kernel
theorem dX7_wantLiking_89 : decode cX7_wantLiking 89 = .ok (.istore 4, 2) := by decide +kernel
theorem dX7_wantLiking_91 : decode cX7_wantLiking 91 = .ok (.aload_n 0, 1) := by decide +kernel
theorem dX7_wantLiking_92 : decode cX7_wantLiking 92 = .ok (.getfield 272, 3) := by decide +kernel
theorem dX7_wantLiking_95 : decode cX7_wantLiking 95 = .ok (.ifCond .eq 26, 3) := by decide +kernel
theorem dX7_wantLiking_98 : decode cX7_wantLiking 98 = .ok (.aload_n 0, 1) := by decide +kernel
theorem dX7_wantLiking_99 : decode cX7_wantLiking 99 = .ok (.getfield 13, 3) := by decide +kernel
theorem dX7_wantLiking_102 : decode cX7_wantLiking 102 = .ok (.iload_n 2, 1) := by decide +kernel
theorem dX7_wantLiking_103 : decode cX7_wantLiking 103 = .ok (.iload_n 3, 1) := by decide +kernel
theorem dX7_wantLiking_104 : decode cX7_wantLiking 104 = .ok (.invokestatic 110, 3) := by decide +kernel
theorem dX7_wantLiking_107 : decode cX7_wantLiking 107 = .ok (.iload_n 1, 1) := by decide +kernel
theorem dX7_wantLiking_108 : decode cX7_wantLiking 108 = .ok (.ifCond .eq 8, 3) := by decide +kernel
theorem dX7_wantLiking_111 : decode cX7_wantLiking 111 = .ok (.iload 4, 2) := by decide +kernel
theorem dX7_wantLiking_113 : decode cX7_wantLiking 113 = .ok (.goto 7, 3) := by decide +kernel
theorem dX7_wantLiking_116 : decode cX7_wantLiking 116 = .ok (.iconst 0, 1) := by decide +kernel
theorem dX7_wantLiking_117 : decode cX7_wantLiking 117 = .ok (.iload 4, 2) := by decide +kernel
theorem dX7_wantLiking_119 : decode cX7_wantLiking 119 = .ok (.isub, 1) := by decide +kernel
theorem dX7_wantLiking_120 : decode cX7_wantLiking 120 = .ok (.iastore, 1) := by decide +kernel
theorem dX7_wantLiking_121 : decode cX7_wantLiking 121 = .ok (.return_, 1) := by decide +kernel
theorem dX7_wantEdict_0 : decode cX7_wantEdict 0 = .ok (.aload_n 0, 1) := by decide +kernel
theorem dX7_wantEdict_1 : decode cX7_wantEdict 1 = .ok (.invokevirtual 276, 3) := by decide +kernel
theorem dX7_wantEdict_4 : decode cX7_wantEdict 4 = .ok (.aload_n 0, 1) := by decide +kernel
theorem dX7_wantEdict_5 : decode cX7_wantEdict 5 = .ok (.ldc2_w 292, 3) := by decide +kernel
theorem dX7_wantEdict_8 : decode cX7_wantEdict 8 = .ok (.ldc2_w 294, 3) := by decide +kernel
theorem dX7_wantEdict_11 : decode cX7_wantEdict 11 = .ok (.invokevirtual 296, 3) := by decide +kernel
theorem dX7_wantEdict_14 : decode cX7_wantEdict 14 = .ok (.istore_n 1, 1) := by decide +kernel
theorem dX7_wantEdict_15 : decode cX7_wantEdict 15 = .ok (.aload_n 0, 1) := by decide +kernel
theorem dX7_wantEdict_16 : decode cX7_wantEdict 16 = .ok (.ldc2_w 300, 3) := by decide +kernel
theorem dX7_wantEdict_19 : decode cX7_wantEdict 19 = .ok (.ldc2_w 302, 3) := by decide +kernel
theorem dX7_wantEdict_22 : decode cX7_wantEdict 22 = .ok (.invokevirtual 296, 3) := by decide +kernel
theorem dX7_wantEdict_25 : decode cX7_wantEdict 25 = .ok (.istore_n 2, 1) := by decide +kernel
theorem dX7_wantEdict_26 : decode cX7_wantEdict 26 = .ok (.aload_n 0, 1) := by decide +kernel
theorem dX7_wantEdict_27 : decode cX7_wantEdict 27 = .ok (.getfield 272, 3) := by decide +kernel
theorem dX7_wantEdict_30 : decode cX7_wantEdict 30 = .ok (.ifCond .eq 26, 3) := by decide +kernel
theorem dX7_wantEdict_33 : decode cX7_wantEdict 33 = .ok (.aload_n 0, 1) := by decide +kernel
theorem dX7_wantEdict_34 : decode cX7_wantEdict 34 = .ok (.getfield 16, 3) := by decide +kernel
theorem dX7_wantEdict_37 : decode cX7_wantEdict 37 = .ok (.iload_n 1, 1) := by decide +kernel
theorem dX7_wantEdict_38 : decode cX7_wantEdict 38 = .ok (.ifCond .eq 7, 3) := by decide +kernel
theorem dX7_wantEdict_41 : decode cX7_wantEdict 41 = .ok (.iconst 0, 1) := by decide +kernel
theorem dX7_wantEdict_42 : decode cX7_wantEdict 42 = .ok (.goto 4, 3) := by decide +kernel
theorem dX7_wantEdict_45 : decode cX7_wantEdict 45 = .ok (.iconst 1, 1) := by decide +kernel
theorem dX7_wantEdict_46 : decode cX7_wantEdict 46 = .ok (.iload_n 2, 1) := by decide +kernel
theorem dX7_wantEdict_47 : decode cX7_wantEdict 47 = .ok (.ifCond .eq 7, 3) := by decide +kernel
theorem dX7_wantEdict_50 : decode cX7_wantEdict 50 = .ok (.iconst 1, 1) := by decide +kernel
theorem dX7_wantEdict_51 : decode cX7_wantEdict 51 = .ok (.goto 4, 3) := by decide +kernel
theorem dX7_wantEdict_54 : decode cX7_wantEdict 54 = .ok (.iconst 0, 1) := by decide +kernel
theorem dX7_wantEdict_55 : decode cX7_wantEdict 55 = .ok (.iastore, 1) := by decide +kernel
theorem dX7_wantEdict_56 : decode cX7_wantEdict 56 = .ok (.return_, 1) := by decide +kernel
theorem dX7_wantDay_0 : decode cX7_wantDay 0 = .ok (.aload_n 0, 1) := by decide +kernel
theorem dX7_wantDay_1 : decode cX7_wantDay 1 = .ok (.invokevirtual 276, 3) := by decide +kernel
theorem dX7_wantDay_4 : decode cX7_wantDay 4 = .ok (.aload_n 0, 1) := by decide +kernel
theorem dX7_wantDay_5 : decode cX7_wantDay 5 = .ok (.iconst 0, 1) := by decide +kernel
theorem dX7_wantDay_6 : decode cX7_wantDay 6 = .ok (.sipush 9999, 3) := by decide +kernel
theorem dX7_wantDay_9 : decode cX7_wantDay 9 = .ok (.invokevirtual 285, 3) := by decide +kernel
theorem dX7_wantDay_12 : decode cX7_wantDay 12 = .ok (.istore_n 1, 1) := by decide +kernel
theorem dX7_wantDay_13 : decode cX7_wantDay 13 = .ok (.aload_n 0, 1) := by decide +kernel
theorem dX7_wantDay_14 : decode cX7_wantDay 14 = .ok (.getfield 272, 3) := by decide +kernel
theorem dX7_wantDay_17 : decode cX7_wantDay 17 = .ok (.ifCond .eq 8, 3) := by decide +kernel
theorem dX7_wantDay_20 : decode cX7_wantDay 20 = .ok (.aload_n 0, 1) := by decide +kernel
theorem dX7_wantDay_21 : decode cX7_wantDay 21 = .ok (.iload_n 1, 1) := by decide +kernel
theorem dX7_wantDay_22 : decode cX7_wantDay 22 = .ok (.putfield 163, 3) := by decide +kernel
theorem dX7_wantDay_25 : decode cX7_wantDay 25 = .ok (.return_, 1) := by decide +kernel
theorem dX7_wantItem_0 : decode cX7_wantItem 0 = .ok (.aload_n 0, 1) := by decide +kernel
theorem dX7_wantItem_1 : decode cX7_wantItem 1 = .ok (.invokevirtual 304, 3) := by decide +kernel
theorem dX7_wantItem_4 : decode cX7_wantItem 4 = .ok (.ifCond .lt 14, 3) := by decide +kernel
theorem dX7_wantItem_7 : decode cX7_wantItem 7 = .ok (.aload_n 0, 1) := by decide +kernel
theorem dX7_wantItem_8 : decode cX7_wantItem 8 = .ok (.aload_n 0, 1) := by decide +kernel
theorem dX7_wantItem_9 : decode cX7_wantItem 9 = .ok (.invokevirtual 304, 3) := by decide +kernel
theorem dX7_wantItem_12 : decode cX7_wantItem 12 = .ok (.invokevirtual 307, 3) := by decide +kernel
theorem dX7_wantItem_15 : decode cX7_wantItem 15 = .ok (.goto 93, 3) := by decide +kernel
theorem dX7_wantItem_18 : decode cX7_wantItem 18 = .ok (.aload_n 0, 1) := by decide +kernel
theorem dX7_wantItem_19 : decode cX7_wantItem 19 = .ok (.ldc2_w 310, 3) := by decide +kernel
theorem dX7_wantItem_22 : decode cX7_wantItem 22 = .ok (.invokevirtual 258, 3) := by decide +kernel
theorem dX7_wantItem_25 : decode cX7_wantItem 25 = .ok (.ifCond .eq 10, 3) := by decide +kernel
theorem dX7_wantItem_28 : decode cX7_wantItem 28 = .ok (.aload_n 0, 1) := by decide +kernel
theorem dX7_wantItem_29 : decode cX7_wantItem 29 = .ok (.invokevirtual 312, 3) := by decide +kernel
theorem dX7_wantItem_32 : decode cX7_wantItem 32 = .ok (.goto 76, 3) := by decide +kernel
theorem dX7_wantItem_35 : decode cX7_wantItem 35 = .ok (.aload_n 0, 1) := by decide +kernel
theorem dX7_wantItem_36 : decode cX7_wantItem 36 = .ok (.ldc2_w 315, 3) := by decide +kernel
theorem dX7_wantItem_39 : decode cX7_wantItem 39 = .ok (.invokevirtual 258, 3) := by decide +kernel
theorem dX7_wantItem_42 : decode cX7_wantItem 42 = .ok (.ifCond .ne 13, 3) := by decide +kernel
theorem dX7_wantItem_45 : decode cX7_wantItem 45 = .ok (.aload_n 0, 1) := by decide +kernel
theorem dX7_wantItem_46 : decode cX7_wantItem 46 = .ok (.ldc2_w 317, 3) := by decide +kernel
theorem dX7_wantItem_49 : decode cX7_wantItem 49 = .ok (.invokevirtual 258, 3) := by decide +kernel
theorem dX7_wantItem_52 : decode cX7_wantItem 52 = .ok (.ifCond .eq 17, 3) := by decide +kernel
theorem dX7_wantItem_55 : decode cX7_wantItem 55 = .ok (.aload_n 0, 1) := by decide +kernel
theorem dX7_wantItem_56 : decode cX7_wantItem 56 = .ok (.aload_n 0, 1) := by decide +kernel
theorem dX7_wantItem_57 : decode cX7_wantItem 57 = .ok (.ldc2_w 315, 3) := by decide +kernel
theorem dX7_wantItem_60 : decode cX7_wantItem 60 = .ok (.invokevirtual 258, 3) := by decide +kernel
theorem dX7_wantItem_63 : decode cX7_wantItem 63 = .ok (.invokevirtual 319, 3) := by decide +kernel
theorem dX7_wantItem_66 : decode cX7_wantItem 66 = .ok (.goto 42, 3) := by decide +kernel
theorem dX7_wantItem_69 : decode cX7_wantItem 69 = .ok (.aload_n 0, 1) := by decide +kernel
theorem dX7_wantItem_70 : decode cX7_wantItem 70 = .ok (.ldc2_w 323, 3) := by decide +kernel
theorem dX7_wantItem_73 : decode cX7_wantItem 73 = .ok (.invokevirtual 258, 3) := by decide +kernel
theorem dX7_wantItem_76 : decode cX7_wantItem 76 = .ok (.ifCond .eq 10, 3) := by decide +kernel
theorem dX7_wantItem_79 : decode cX7_wantItem 79 = .ok (.aload_n 0, 1) := by decide +kernel
theorem dX7_wantItem_80 : decode cX7_wantItem 80 = .ok (.invokevirtual 325, 3) := by decide +kernel
theorem dX7_wantItem_83 : decode cX7_wantItem 83 = .ok (.goto 25, 3) := by decide +kernel
theorem dX7_wantItem_86 : decode cX7_wantItem 86 = .ok (.aload_n 0, 1) := by decide +kernel
theorem dX7_wantItem_87 : decode cX7_wantItem 87 = .ok (.ldc2_w 328, 3) := by decide +kernel
theorem dX7_wantItem_90 : decode cX7_wantItem 90 = .ok (.invokevirtual 258, 3) := by decide +kernel
theorem dX7_wantItem_93 : decode cX7_wantItem 93 = .ok (.ifCond .eq 10, 3) := by decide +kernel
theorem dX7_wantItem_96 : decode cX7_wantItem 96 = .ok (.aload_n 0, 1) := by decide +kernel
theorem dX7_wantItem_97 : decode cX7_wantItem 97 = .ok (.invokevirtual 330, 3) := by decide +kernel
theorem dX7_wantItem_100 : decode cX7_wantItem 100 = .ok (.goto 8, 3) := by decide +kernel
theorem dX7_wantItem_103 : decode cX7_wantItem 103 = .ok (.aload_n 0, 1) := by decide +kernel
theorem dX7_wantItem_104 : decode cX7_wantItem 104 = .ok (.iconst 0, 1) := by decide +kernel
theorem dX7_wantItem_105 : decode cX7_wantItem 105 = .ok (.putfield 272, 3) := by decide +kernel
theorem dX7_wantItem_108 : decode cX7_wantItem 108 = .ok (.return_, 1) := by decide +kernel
theorem dX7_book_0 : decode cX7_book 0 = .ok (.aload_n 0, 1) := by decide +kernel
theorem dX7_book_1 : decode cX7_book 1 = .ok (.iconst 1, 1) := by decide +kernel
theorem dX7_book_2 : decode cX7_book 2 = .ok (.aload_n 0, 1) := by decide +kernel
theorem dX7_book_3 : decode cX7_book 3 = .ok (.getfield 75, 3) := by decide +kernel
theorem dX7_book_6 : decode cX7_book 6 = .ok (.invokevirtual 333, 3) := by decide +kernel
theorem dX7_book_9 : decode cX7_book 9 = .ok (.aload_n 0, 1) := by decide +kernel
theorem dX7_book_10 : decode cX7_book 10 = .ok (.iconst 0, 1) := by decide +kernel
theorem dX7_book_11 : decode cX7_book 11 = .ok (.putfield 225, 3) := by decide +kernel
theorem dX7_book_14 : decode cX7_book 14 = .ok (.aload_n 0, 1) := by decide +kernel
theorem dX7_book_15 : decode cX7_book 15 = .ok (.iconst 1, 1) := by decide +kernel
theorem dX7_book_16 : decode cX7_book 16 = .ok (.putfield 272, 3) := by decide +kernel
theorem dX7_book_19 : decode cX7_book 19 = .ok (.iconst 0, 1) := by decide +kernel
theorem dX7_book_20 : decode cX7_book 20 = .ok (.istore_n 1, 1) := by decide +kernel
theorem dX7_book_21 : decode cX7_book 21 = .ok (.iconst 1, 1) := by decide +kernel
theorem dX7_book_22 : decode cX7_book 22 = .ok (.istore_n 2, 1) := by decide +kernel
theorem dX7_book_23 : decode cX7_book 23 = .ok (.iload_n 2, 1) := by decide +kernel
theorem dX7_book_24 : decode cX7_book 24 = .ok (.ifCond .eq 47, 3) := by decide +kernel
theorem dX7_book_27 : decode cX7_book 27 = .ok (.aload_n 0, 1) := by decide +kernel
theorem dX7_book_28 : decode cX7_book 28 = .ok (.invokevirtual 276, 3) := by decide +kernel
theorem dX7_book_31 : decode cX7_book 31 = .ok (.aload_n 0, 1) := by decide +kernel
theorem dX7_book_32 : decode cX7_book 32 = .ok (.invokevirtual 337, 3) := by decide +kernel
theorem dX7_book_35 : decode cX7_book 35 = .ok (.iinc 1 1, 3) := by decide +kernel
theorem dX7_book_38 : decode cX7_book 38 = .ok (.aload_n 0, 1) := by decide +kernel
theorem dX7_book_39 : decode cX7_book 39 = .ok (.getfield 272, 3) := by decide +kernel
theorem dX7_book_42 : decode cX7_book 42 = .ok (.ifCond .eq 24, 3) := by decide +kernel
theorem dX7_book_45 : decode cX7_book 45 = .ok (.aload_n 0, 1) := by decide +kernel
theorem dX7_book_46 : decode cX7_book 46 = .ok (.getfield 240, 3) := by decide +kernel
theorem dX7_book_49 : decode cX7_book 49 = .ok (.iconst 3, 1) := by decide +kernel
theorem dX7_book_50 : decode cX7_book 50 = .ok (.if_icmp .ne 16, 3) := by decide +kernel
theorem dX7_book_53 : decode cX7_book 53 = .ok (.aload_n 0, 1) := by decide +kernel
theorem dX7_book_54 : decode cX7_book 54 = .ok (.getfield 247, 3) := by decide +kernel
theorem dX7_book_57 : decode cX7_book 57 = .ok (.bipush 59, 2) := by decide +kernel
theorem dX7_book_59 : decode cX7_book 59 = .ok (.if_icmp .ne 7, 3) := by decide +kernel
theorem dX7_book_62 : decode cX7_book 62 = .ok (.iconst 1, 1) := by decide +kernel
theorem dX7_book_63 : decode cX7_book 63 = .ok (.goto 4, 3) := by decide +kernel
theorem dX7_book_66 : decode cX7_book 66 = .ok (.iconst 0, 1) := by decide +kernel
theorem dX7_book_67 : decode cX7_book 67 = .ok (.istore_n 2, 1) := by decide +kernel
theorem dX7_book_68 : decode cX7_book 68 = .ok (.goto (-45), 3) := by decide +kernel
theorem dX7_book_71 : decode cX7_book 71 = .ok (.aload_n 0, 1) := by decide +kernel
theorem dX7_book_72 : decode cX7_book 72 = .ok (.aload_n 0, 1) := by decide +kernel
theorem dX7_book_73 : decode cX7_book 73 = .ok (.getfield 272, 3) := by decide +kernel
theorem dX7_book_76 : decode cX7_book 76 = .ok (.ifCond .eq 14, 3) := by decide +kernel
theorem dX7_book_79 : decode cX7_book 79 = .ok (.aload_n 0, 1) := by decide +kernel
theorem dX7_book_80 : decode cX7_book 80 = .ok (.getfield 240, 3) := by decide +kernel
theorem dX7_book_83 : decode cX7_book 83 = .ok (.ifCond .ne 7, 3) := by decide +kernel
theorem dX7_book_86 : decode cX7_book 86 = .ok (.iconst 1, 1) := by decide +kernel
theorem dX7_book_87 : decode cX7_book 87 = .ok (.goto 4, 3) := by decide +kernel
theorem dX7_book_90 : decode cX7_book 90 = .ok (.iconst 0, 1) := by decide +kernel
theorem dX7_book_91 : decode cX7_book 91 = .ok (.putfield 272, 3) := by decide +kernel
theorem dX7_book_94 : decode cX7_book 94 = .ok (.aload_n 0, 1) := by decide +kernel
theorem dX7_book_95 : decode cX7_book 95 = .ok (.iconst 0, 1) := by decide +kernel
theorem dX7_book_96 : decode cX7_book 96 = .ok (.putfield 222, 3) := by decide +kernel
theorem dX7_book_99 : decode cX7_book 99 = .ok (.aload_n 0, 1) := by decide +kernel
theorem dX7_book_100 : decode cX7_book 100 = .ok (.getfield 272, 3) := by decide +kernel
theorem dX7_book_103 : decode cX7_book 103 = .ok (.ifCond .ne 19, 3) := by decide +kernel
theorem dX7_book_106 : decode cX7_book 106 = .ok (.aload_n 0, 1) := by decide +kernel
theorem dX7_book_107 : decode cX7_book 107 = .ok (.iconst 0, 1) := by decide +kernel
theorem dX7_book_108 : decode cX7_book 108 = .ok (.aload_n 0, 1) := by decide +kernel
theorem dX7_book_109 : decode cX7_book 109 = .ok (.getfield 75, 3) := by decide +kernel
theorem dX7_book_112 : decode cX7_book 112 = .ok (.invokevirtual 333, 3) := by decide +kernel
theorem dX7_book_115 : decode cX7_book 115 = .ok (.iconst (-1), 1) := by decide +kernel
theorem dX7_book_116 : decode cX7_book 116 = .ok (.aload_n 0, 1) := by decide +kernel
theorem dX7_book_117 : decode cX7_book 117 = .ok (.getfield 228, 3) := by decide +kernel
theorem dX7_book_120 : decode cX7_book 120 = .ok (.isub, 1) := by decide +kernel
theorem dX7_book_121 : decode cX7_book 121 = .ok (.ireturn, 1) := by decide +kernel
theorem dX7_book_122 : decode cX7_book 122 = .ok (.iload_n 1, 1) := by decide +kernel
theorem dX7_book_123 : decode cX7_book 123 = .ok (.ireturn, 1) := by decide +kernel
theorem dX7_isSheet_0 : decode cX7_isSheet 0 = .ok (.iload_n 0, 1) := by decide +kernel
theorem dX7_isSheet_1 : decode cX7_isSheet 1 = .ok (.iconst 0, 1) := by decide +kernel
theorem dX7_isSheet_2 : decode cX7_isSheet 2 = .ok (.iconst 3, 1) := by decide +kernel
theorem dX7_isSheet_3 : decode cX7_isSheet 3 = .ok (.invokestatic 86, 3) := by decide +kernel
theorem dX7_isSheet_6 : decode cX7_isSheet 6 = .ok (.ireturn, 1) := by decide +kernel
theorem dX7_narrow_0 : decode cX7_narrow 0 = .ok (.iload_n 0, 1) := by decide +kernel
theorem dX7_narrow_1 : decode cX7_narrow 1 = .ok (.bipush 8, 2) := by decide +kernel
theorem dX7_narrow_3 : decode cX7_narrow 3 = .ok (.if_icmp .ne 13, 3) := by decide +kernel
theorem dX7_narrow_6 : decode cX7_narrow 6 = .ok (.lload_n 1, 1) := by decide +kernel
theorem dX7_narrow_7 : decode cX7_narrow 7 = .ok (.bipush 56, 2) := by decide +kernel
theorem dX7_narrow_9 : decode cX7_narrow 9 = .ok (.lshl, 1) := by decide +kernel
theorem dX7_narrow_10 : decode cX7_narrow 10 = .ok (.bipush 56, 2) := by decide +kernel
theorem dX7_narrow_12 : decode cX7_narrow 12 = .ok (.lshr, 1) := by decide +kernel
theorem dX7_narrow_13 : decode cX7_narrow 13 = .ok (.goto 20, 3) := by decide +kernel
theorem dX7_narrow_16 : decode cX7_narrow 16 = .ok (.iload_n 0, 1) := by decide +kernel
theorem dX7_narrow_17 : decode cX7_narrow 17 = .ok (.bipush 16, 2) := by decide +kernel
theorem dX7_narrow_19 : decode cX7_narrow 19 = .ok (.if_icmp .ne 13, 3) := by decide +kernel
theorem dX7_narrow_22 : decode cX7_narrow 22 = .ok (.lload_n 1, 1) := by decide +kernel
theorem dX7_narrow_23 : decode cX7_narrow 23 = .ok (.bipush 48, 2) := by decide +kernel
theorem dX7_narrow_25 : decode cX7_narrow 25 = .ok (.lshl, 1) := by decide +kernel
theorem dX7_narrow_26 : decode cX7_narrow 26 = .ok (.bipush 48, 2) := by decide +kernel
theorem dX7_narrow_28 : decode cX7_narrow 28 = .ok (.lshr, 1) := by decide +kernel
theorem dX7_narrow_29 : decode cX7_narrow 29 = .ok (.goto 4, 3) := by decide +kernel
theorem dX7_narrow_32 : decode cX7_narrow 32 = .ok (.lload_n 1, 1) := by decide +kernel
theorem dX7_narrow_33 : decode cX7_narrow 33 = .ok (.lreturn, 1) := by decide +kernel
theorem dX7_sheet_0 : decode cX7_sheet 0 = .ok (.iload_n 1, 1) := by decide +kernel
theorem dX7_sheet_1 : decode cX7_sheet 1 = .ok (.invokestatic 340, 3) := by decide +kernel
theorem dX7_sheet_4 : decode cX7_sheet 4 = .ok (.ifCond .eq 25, 3) := by decide +kernel
theorem dX7_sheet_7 : decode cX7_sheet 7 = .ok (.iload_n 2, 1) := by decide +kernel
theorem dX7_sheet_8 : decode cX7_sheet 8 = .ok (.ifCond .eq 28, 3) := by decide +kernel
theorem dX7_sheet_11 : decode cX7_sheet 11 = .ok (.iload_n 2, 1) := by decide +kernel
theorem dX7_sheet_12 : decode cX7_sheet 12 = .ok (.bipush 8, 2) := by decide +kernel
theorem dX7_sheet_14 : decode cX7_sheet 14 = .ok (.if_icmp .eq 22, 3) := by decide +kernel
theorem dX7_sheet_17 : decode cX7_sheet 17 = .ok (.iload_n 2, 1) := by decide +kernel
theorem dX7_sheet_18 : decode cX7_sheet 18 = .ok (.bipush 16, 2) := by decide +kernel
theorem dX7_sheet_20 : decode cX7_sheet 20 = .ok (.if_icmp .eq 16, 3) := by decide +kernel
theorem dX7_sheet_23 : decode cX7_sheet 23 = .ok (.iload_n 2, 1) := by decide +kernel
theorem dX7_sheet_24 : decode cX7_sheet 24 = .ok (.bipush 64, 2) := by decide +kernel
theorem dX7_sheet_26 : decode cX7_sheet 26 = .ok (.if_icmp .eq 10, 3) := by decide +kernel
theorem dX7_sheet_29 : decode cX7_sheet 29 = .ok (.aload_n 0, 1) := by decide +kernel
theorem dX7_sheet_30 : decode cX7_sheet 30 = .ok (.ldc 85, 2) := by decide +kernel
theorem dX7_sheet_32 : decode cX7_sheet 32 = .ok (.invokevirtual 104, 3) := by decide +kernel
theorem dX7_sheet_35 : decode cX7_sheet 35 = .ok (.ireturn, 1) := by decide +kernel
theorem dX7_sheet_36 : decode cX7_sheet 36 = .ok (.iload_n 3, 1) := by decide +kernel
theorem dX7_sheet_37 : decode cX7_sheet 37 = .ok (.ifCond .ge 11, 3) := by decide +kernel
theorem dX7_sheet_40 : decode cX7_sheet 40 = .ok (.aload_n 0, 1) := by decide +kernel
theorem dX7_sheet_41 : decode cX7_sheet 41 = .ok (.ldc_w 343, 3) := by decide +kernel
theorem dX7_sheet_44 : decode cX7_sheet 44 = .ok (.invokevirtual 104, 3) := by decide +kernel
theorem dX7_sheet_47 : decode cX7_sheet 47 = .ok (.ireturn, 1) := by decide +kernel
theorem dX7_sheet_48 : decode cX7_sheet 48 = .ok (.iload_n 3, 1) := by decide +kernel
theorem dX7_sheet_49 : decode cX7_sheet 49 = .ok (.bipush 40, 2) := by decide +kernel
theorem dX7_sheet_51 : decode cX7_sheet 51 = .ok (.if_icmp .le 10, 3) := by decide +kernel
theorem dX7_sheet_54 : decode cX7_sheet 54 = .ok (.aload_n 0, 1) := by decide +kernel
theorem dX7_sheet_55 : decode cX7_sheet 55 = .ok (.ldc 85, 2) := by decide +kernel
theorem dX7_sheet_57 : decode cX7_sheet 57 = .ok (.invokevirtual 104, 3) := by decide +kernel
theorem dX7_sheet_60 : decode cX7_sheet 60 = .ok (.ireturn, 1) := by decide +kernel
theorem dX7_sheet_61 : decode cX7_sheet 61 = .ok (.aload_n 0, 1) := by decide +kernel
theorem dX7_sheet_62 : decode cX7_sheet 62 = .ok (.getfield 59, 3) := by decide +kernel
theorem dX7_sheet_65 : decode cX7_sheet 65 = .ok (.iload_n 1, 1) := by decide +kernel
theorem dX7_sheet_66 : decode cX7_sheet 66 = .ok (.iload_n 2, 1) := by decide +kernel
theorem dX7_sheet_67 : decode cX7_sheet 67 = .ok (.iastore, 1) := by decide +kernel
theorem dX7_sheet_68 : decode cX7_sheet 68 = .ok (.aload_n 0, 1) := by decide +kernel
theorem dX7_sheet_69 : decode cX7_sheet 69 = .ok (.getfield 62, 3) := by decide +kernel
theorem dX7_sheet_72 : decode cX7_sheet 72 = .ok (.iload_n 1, 1) := by decide +kernel
theorem dX7_sheet_73 : decode cX7_sheet 73 = .ok (.iload_n 2, 1) := by decide +kernel
theorem dX7_sheet_74 : decode cX7_sheet 74 = .ok (.ifCond .ne 7, 3) := by decide +kernel
theorem dX7_sheet_77 : decode cX7_sheet 77 = .ok (.iconst 0, 1) := by decide +kernel
theorem dX7_sheet_78 : decode cX7_sheet 78 = .ok (.goto 4, 3) := by decide +kernel
theorem dX7_sheet_81 : decode cX7_sheet 81 = .ok (.iload_n 3, 1) := by decide +kernel
theorem dX7_sheet_82 : decode cX7_sheet 82 = .ok (.iastore, 1) := by decide +kernel
theorem dX7_sheet_83 : decode cX7_sheet 83 = .ok (.iconst 0, 1) := by decide +kernel
theorem dX7_sheet_84 : decode cX7_sheet 84 = .ok (.istore 4, 2) := by decide +kernel
theorem dX7_sheet_86 : decode cX7_sheet 86 = .ok (.iload 4, 2) := by decide +kernel
theorem dX7_sheet_88 : decode cX7_sheet 88 = .ok (.bipush 40, 2) := by decide +kernel
theorem dX7_sheet_90 : decode cX7_sheet 90 = .ok (.if_icmp .ge 22, 3) := by decide +kernel
theorem dX7_sheet_93 : decode cX7_sheet 93 = .ok (.aload_n 0, 1) := by decide +kernel
theorem dX7_sheet_94 : decode cX7_sheet 94 = .ok (.getfield 65, 3) := by decide +kernel
theorem dX7_sheet_97 : decode cX7_sheet 97 = .ok (.bipush 40, 2) := by decide +kernel
theorem dX7_sheet_99 : decode cX7_sheet 99 = .ok (.iload_n 1, 1) := by decide +kernel
theorem dX7_sheet_100 : decode cX7_sheet 100 = .ok (.imul, 1) := by decide +kernel
theorem dX7_sheet_101 : decode cX7_sheet 101 = .ok (.iload 4, 2) := by decide +kernel
theorem dX7_sheet_103 : decode cX7_sheet 103 = .ok (.iadd, 1) := by decide +kernel
theorem dX7_sheet_104 : decode cX7_sheet 104 = .ok (.lconst 0, 1) := by decide +kernel
theorem dX7_sheet_105 : decode cX7_sheet 105 = .ok (.lastore, 1) := by decide +kernel
theorem dX7_sheet_106 : decode cX7_sheet 106 = .ok (.iinc 4 1, 3) := by decide +kernel
theorem dX7_sheet_109 : decode cX7_sheet 109 = .ok (.goto (-23), 3) := by decide +kernel
theorem dX7_sheet_112 : decode cX7_sheet 112 = .ok (.aload_n 0, 1) := by decide +kernel
theorem dX7_sheet_113 : decode cX7_sheet 113 = .ok (.getfield 62, 3) := by decide +kernel
theorem dX7_sheet_116 : decode cX7_sheet 116 = .ok (.iload_n 1, 1) := by decide +kernel
theorem dX7_sheet_117 : decode cX7_sheet 117 = .ok (.iaload, 1) := by decide +kernel
theorem dX7_sheet_118 : decode cX7_sheet 118 = .ok (.ireturn, 1) := by decide +kernel
theorem dX7_write_0 : decode cX7_write 0 = .ok (.iload_n 1, 1) := by decide +kernel
theorem dX7_write_1 : decode cX7_write 1 = .ok (.invokestatic 340, 3) := by decide +kernel
theorem dX7_write_4 : decode cX7_write 4 = .ok (.ifCond .ne 11, 3) := by decide +kernel
theorem dX7_write_7 : decode cX7_write 7 = .ok (.aload_n 0, 1) := by decide +kernel
theorem dX7_write_8 : decode cX7_write 8 = .ok (.ldc 85, 2) := by decide +kernel
theorem dX7_write_10 : decode cX7_write 10 = .ok (.invokevirtual 104, 3) := by decide +kernel
theorem dX7_write_13 : decode cX7_write 13 = .ok (.i2l, 1) := by decide +kernel
theorem dX7_write_14 : decode cX7_write 14 = .ok (.lreturn, 1) := by decide +kernel
theorem dX7_write_15 : decode cX7_write 15 = .ok (.aload_n 0, 1) := by decide +kernel
theorem dX7_write_16 : decode cX7_write 16 = .ok (.getfield 59, 3) := by decide +kernel
theorem dX7_write_19 : decode cX7_write 19 = .ok (.iload_n 1, 1) := by decide +kernel
theorem dX7_write_20 : decode cX7_write 20 = .ok (.iaload, 1) := by decide +kernel
theorem dX7_write_21 : decode cX7_write 21 = .ok (.ifCond .ne 12, 3) := by decide +kernel
theorem dX7_write_24 : decode cX7_write 24 = .ok (.aload_n 0, 1) := by decide +kernel
theorem dX7_write_25 : decode cX7_write 25 = .ok (.ldc_w 344, 3) := by decide +kernel
theorem dX7_write_28 : decode cX7_write 28 = .ok (.invokevirtual 104, 3) := by decide +kernel
theorem dX7_write_31 : decode cX7_write 31 = .ok (.i2l, 1) := by decide +kernel
theorem dX7_write_32 : decode cX7_write 32 = .ok (.lreturn, 1) := by decide +kernel
theorem dX7_write_33 : decode cX7_write 33 = .ok (.iload_n 2, 1) := by decide +kernel
theorem dX7_write_34 : decode cX7_write 34 = .ok (.iconst 0, 1) := by decide +kernel
theorem dX7_write_35 : decode cX7_write 35 = .ok (.aload_n 0, 1) := by decide +kernel
theorem dX7_write_36 : decode cX7_write 36 = .ok (.getfield 62, 3) := by decide +kernel
theorem dX7_write_39 : decode cX7_write 39 = .ok (.iload_n 1, 1) := by decide +kernel
theorem dX7_write_40 : decode cX7_write 40 = .ok (.iaload, 1) := by decide +kernel
theorem dX7_write_41 : decode cX7_write 41 = .ok (.iconst 1, 1) := by decide +kernel
theorem dX7_write_42 : decode cX7_write 42 = .ok (.isub, 1) := by decide +kernel
theorem dX7_write_43 : decode cX7_write 43 = .ok (.invokestatic 86, 3) := by decide +kernel
theorem dX7_write_46 : decode cX7_write 46 = .ok (.ifCond .ne 11, 3) := by decide +kernel
theorem dX7_write_49 : decode cX7_write 49 = .ok (.aload_n 0, 1) := by decide +kernel
theorem dX7_write_50 : decode cX7_write 50 = .ok (.ldc 85, 2) := by decide +kernel
theorem dX7_write_52 : decode cX7_write 52 = .ok (.invokevirtual 104, 3) := by decide +kernel
theorem dX7_write_55 : decode cX7_write 55 = .ok (.i2l, 1) := by decide +kernel
theorem dX7_write_56 : decode cX7_write 56 = .ok (.lreturn, 1) := by decide +kernel
theorem dX7_write_57 : decode cX7_write 57 = .ok (.aload_n 0, 1) := by decide +kernel
theorem dX7_write_58 : decode cX7_write 58 = .ok (.getfield 65, 3) := by decide +kernel
theorem dX7_write_61 : decode cX7_write 61 = .ok (.bipush 40, 2) := by decide +kernel
theorem dX7_write_63 : decode cX7_write 63 = .ok (.iload_n 1, 1) := by decide +kernel
theorem dX7_write_64 : decode cX7_write 64 = .ok (.imul, 1) := by decide +kernel
theorem dX7_write_65 : decode cX7_write 65 = .ok (.iload_n 2, 1) := by decide +kernel
theorem dX7_write_66 : decode cX7_write 66 = .ok (.iadd, 1) := by decide +kernel
theorem dX7_write_67 : decode cX7_write 67 = .ok (.laload, 1) := by decide +kernel
theorem dX7_write_68 : decode cX7_write 68 = .ok (.lstore 5, 2) := by decide +kernel
theorem dX7_write_70 : decode cX7_write 70 = .ok (.aload_n 0, 1) := by decide +kernel
theorem dX7_write_71 : decode cX7_write 71 = .ok (.getfield 65, 3) := by decide +kernel
theorem dX7_write_74 : decode cX7_write 74 = .ok (.bipush 40, 2) := by decide +kernel
theorem dX7_write_76 : decode cX7_write 76 = .ok (.iload_n 1, 1) := by decide +kernel
theorem dX7_write_77 : decode cX7_write 77 = .ok (.imul, 1) := by decide +kernel
theorem dX7_write_78 : decode cX7_write 78 = .ok (.iload_n 2, 1) := by decide +kernel
theorem dX7_write_79 : decode cX7_write 79 = .ok (.iadd, 1) := by decide +kernel
theorem dX7_write_80 : decode cX7_write 80 = .ok (.aload_n 0, 1) := by decide +kernel
theorem dX7_write_81 : decode cX7_write 81 = .ok (.getfield 59, 3) := by decide +kernel
theorem dX7_write_84 : decode cX7_write 84 = .ok (.iload_n 1, 1) := by decide +kernel
theorem dX7_write_85 : decode cX7_write 85 = .ok (.iaload, 1) := by decide +kernel
theorem dX7_write_86 : decode cX7_write 86 = .ok (.lload_n 3, 1) := by decide +kernel
theorem dX7_write_87 : decode cX7_write 87 = .ok (.invokestatic 345, 3) := by decide +kernel
theorem dX7_write_90 : decode cX7_write 90 = .ok (.lastore, 1) := by decide +kernel
theorem dX7_write_91 : decode cX7_write 91 = .ok (.lload 5, 2) := by decide +kernel
theorem dX7_write_93 : decode cX7_write 93 = .ok (.lreturn, 1) := by decide +kernel
theorem dX7_isPart_0 : decode cX7_isPart 0 = .ok (.iload_n 2, 1) := by decide +kernel
theorem dX7_isPart_1 : decode cX7_isPart 1 = .ok (.ifCond .lt 33, 3) := by decide +kernel
theorem dX7_isPart_4 : decode cX7_isPart 4 = .ok (.iload_n 3, 1) := by decide +kernel
theorem dX7_isPart_5 : decode cX7_isPart 5 = .ok (.ifCond .lt 29, 3) := by decide +kernel
theorem dX7_isPart_8 : decode cX7_isPart 8 = .ok (.iload_n 3, 1) := by decide +kernel
theorem dX7_isPart_9 : decode cX7_isPart 9 = .ok (.aload_n 0, 1) := by decide +kernel
theorem dX7_isPart_10 : decode cX7_isPart 10 = .ok (.getfield 62, 3) := by decide +kernel
theorem dX7_isPart_13 : decode cX7_isPart 13 = .ok (.iload_n 1, 1) := by decide +kernel
theorem dX7_isPart_14 : decode cX7_isPart 14 = .ok (.iaload, 1) := by decide +kernel
theorem dX7_isPart_15 : decode cX7_isPart 15 = .ok (.if_icmp .gt 19, 3) := by decide +kernel
theorem dX7_isPart_18 : decode cX7_isPart 18 = .ok (.iload_n 2, 1) := by decide +kernel
theorem dX7_isPart_19 : decode cX7_isPart 19 = .ok (.aload_n 0, 1) := by decide +kernel
theorem dX7_isPart_20 : decode cX7_isPart 20 = .ok (.getfield 62, 3) := by decide +kernel
theorem dX7_isPart_23 : decode cX7_isPart 23 = .ok (.iload_n 1, 1) := by decide +kernel
theorem dX7_isPart_24 : decode cX7_isPart 24 = .ok (.iaload, 1) := by decide +kernel
theorem dX7_isPart_25 : decode cX7_isPart 25 = .ok (.iload_n 3, 1) := by decide +kernel
theorem dX7_isPart_26 : decode cX7_isPart 26 = .ok (.isub, 1) := by decide +kernel
theorem dX7_isPart_27 : decode cX7_isPart 27 = .ok (.if_icmp .gt 7, 3) := by decide +kernel
theorem dX7_isPart_30 : decode cX7_isPart 30 = .ok (.iconst 1, 1) := by decide +kernel
theorem dX7_isPart_31 : decode cX7_isPart 31 = .ok (.goto 4, 3) := by decide +kernel
theorem dX7_isPart_34 : decode cX7_isPart 34 = .ok (.iconst 0, 1) := by decide +kernel
theorem dX7_isPart_35 : decode cX7_isPart 35 = .ok (.ireturn, 1) := by decide +kernel
theorem dX7_copy_0 : decode cX7_copy 0 = .ok (.iload_n 1, 1) := by decide +kernel
theorem dX7_copy_1 : decode cX7_copy 1 = .ok (.invokestatic 340, 3) := by decide +kernel
theorem dX7_copy_4 : decode cX7_copy 4 = .ok (.ifCond .eq 10, 3) := by decide +kernel
theorem dX7_copy_7 : decode cX7_copy 7 = .ok (.iload_n 3, 1) := by decide +kernel
theorem dX7_copy_8 : decode cX7_copy 8 = .ok (.invokestatic 340, 3) := by decide +kernel
theorem dX7_copy_11 : decode cX7_copy 11 = .ok (.ifCond .ne 10, 3) := by decide +kernel
theorem dX7_copy_14 : decode cX7_copy 14 = .ok (.aload_n 0, 1) := by decide +kernel
theorem dX7_copy_15 : decode cX7_copy 15 = .ok (.ldc 85, 2) := by decide +kernel
theorem dX7_copy_17 : decode cX7_copy 17 = .ok (.invokevirtual 104, 3) := by decide +kernel
theorem dX7_copy_20 : decode cX7_copy 20 = .ok (.ireturn, 1) := by decide +kernel
theorem dX7_copy_21 : decode cX7_copy 21 = .ok (.aload_n 0, 1) := by decide +kernel
theorem dX7_copy_22 : decode cX7_copy 22 = .ok (.getfield 59, 3) := by decide +kernel
theorem dX7_copy_25 : decode cX7_copy 25 = .ok (.iload_n 1, 1) := by decide +kernel
theorem dX7_copy_26 : decode cX7_copy 26 = .ok (.iaload, 1) := by decide +kernel
theorem dX7_copy_27 : decode cX7_copy 27 = .ok (.ifCond .eq 12, 3) := by decide +kernel
theorem dX7_copy_30 : decode cX7_copy 30 = .ok (.aload_n 0, 1) := by decide +kernel
theorem dX7_copy_31 : decode cX7_copy 31 = .ok (.getfield 59, 3) := by decide +kernel
theorem dX7_copy_34 : decode cX7_copy 34 = .ok (.iload_n 3, 1) := by decide +kernel
theorem dX7_copy_35 : decode cX7_copy 35 = .ok (.iaload, 1) := by decide +kernel
theorem dX7_copy_36 : decode cX7_copy 36 = .ok (.ifCond .ne 11, 3) := by decide +kernel
theorem dX7_copy_39 : decode cX7_copy 39 = .ok (.aload_n 0, 1) := by decide +kernel
theorem dX7_copy_40 : decode cX7_copy 40 = .ok (.ldc_w 344, 3) := by decide +kernel
theorem dX7_copy_43 : decode cX7_copy 43 = .ok (.invokevirtual 104, 3) := by decide +kernel
theorem dX7_copy_46 : decode cX7_copy 46 = .ok (.ireturn, 1) := by decide +kernel
theorem dX7_copy_47 : decode cX7_copy 47 = .ok (.aload_n 0, 1) := by decide +kernel
theorem dX7_copy_48 : decode cX7_copy 48 = .ok (.getfield 59, 3) := by decide +kernel
theorem dX7_copy_51 : decode cX7_copy 51 = .ok (.iload_n 1, 1) := by decide +kernel
theorem dX7_copy_52 : decode cX7_copy 52 = .ok (.iaload, 1) := by decide +kernel
theorem dX7_copy_53 : decode cX7_copy 53 = .ok (.aload_n 0, 1) := by decide +kernel
theorem dX7_copy_54 : decode cX7_copy 54 = .ok (.getfield 59, 3) := by decide +kernel
theorem dX7_copy_57 : decode cX7_copy 57 = .ok (.iload_n 3, 1) := by decide +kernel
theorem dX7_copy_58 : decode cX7_copy 58 = .ok (.iaload, 1) := by decide +kernel
theorem dX7_copy_59 : decode cX7_copy 59 = .ok (.if_icmp .eq 10, 3) := by decide +kernel
theorem dX7_copy_62 : decode cX7_copy 62 = .ok (.aload_n 0, 1) := by decide +kernel
theorem dX7_copy_63 : decode cX7_copy 63 = .ok (.ldc 179, 2) := by decide +kernel
theorem dX7_copy_65 : decode cX7_copy 65 = .ok (.invokevirtual 104, 3) := by decide +kernel
theorem dX7_copy_68 : decode cX7_copy 68 = .ok (.ireturn, 1) := by decide +kernel
theorem dX7_copy_69 : decode cX7_copy 69 = .ok (.aload_n 0, 1) := by decide +kernel
theorem dX7_copy_70 : decode cX7_copy 70 = .ok (.iload_n 1, 1) := by decide +kernel
theorem dX7_copy_71 : decode cX7_copy 71 = .ok (.iload_n 2, 1) := by decide +kernel
theorem dX7_copy_72 : decode cX7_copy 72 = .ok (.iload 5, 2) := by decide +kernel
theorem dX7_copy_74 : decode cX7_copy 74 = .ok (.invokevirtual 349, 3) := by decide +kernel
theorem dX7_copy_77 : decode cX7_copy 77 = .ok (.ifCond .eq 15, 3) := by decide +kernel
theorem dX7_copy_80 : decode cX7_copy 80 = .ok (.aload_n 0, 1) := by decide +kernel
theorem dX7_copy_81 : decode cX7_copy 81 = .ok (.iload_n 3, 1) := by decide +kernel
theorem dX7_copy_82 : decode cX7_copy 82 = .ok (.iload 4, 2) := by decide +kernel
theorem dX7_copy_84 : decode cX7_copy 84 = .ok (.iload 5, 2) := by decide +kernel
theorem dX7_copy_86 : decode cX7_copy 86 = .ok (.invokevirtual 349, 3) := by decide +kernel
theorem dX7_copy_89 : decode cX7_copy 89 = .ok (.ifCond .ne 10, 3) := by decide +kernel
theorem dX7_copy_92 : decode cX7_copy 92 = .ok (.aload_n 0, 1) := by decide +kernel
theorem dX7_copy_93 : decode cX7_copy 93 = .ok (.ldc 85, 2) := by decide +kernel
theorem dX7_copy_95 : decode cX7_copy 95 = .ok (.invokevirtual 104, 3) := by decide +kernel
theorem dX7_copy_98 : decode cX7_copy 98 = .ok (.ireturn, 1) := by decide +kernel
theorem dX7_copy_99 : decode cX7_copy 99 = .ok (.iconst 0, 1) := by decide +kernel
theorem dX7_copy_100 : decode cX7_copy 100 = .ok (.istore 6, 2) := by decide +kernel
theorem dX7_copy_102 : decode cX7_copy 102 = .ok (.iload 6, 2) := by decide +kernel
theorem dX7_copy_104 : decode cX7_copy 104 = .ok (.iload 5, 2) := by decide +kernel
theorem dX7_copy_106 : decode cX7_copy 106 = .ok (.if_icmp .ge 30, 3) := by decide +kernel
theorem dX7_copy_109 : decode cX7_copy 109 = .ok (.aload_n 0, 1) := by decide +kernel
theorem dX7_copy_110 : decode cX7_copy 110 = .ok (.getfield 69, 3) := by decide +kernel
theorem dX7_copy_113 : decode cX7_copy 113 = .ok (.iload 6, 2) := by decide +kernel
theorem dX7_copy_115 : decode cX7_copy 115 = .ok (.aload_n 0, 1) := by decide +kernel
theorem dX7_copy_116 : decode cX7_copy 116 = .ok (.getfield 65, 3) := by decide +kernel
theorem dX7_copy_119 : decode cX7_copy 119 = .ok (.bipush 40, 2) := by decide +kernel
theorem dX7_copy_121 : decode cX7_copy 121 = .ok (.iload_n 1, 1) := by decide +kernel
theorem dX7_copy_122 : decode cX7_copy 122 = .ok (.imul, 1) := by decide +kernel
theorem dX7_copy_123 : decode cX7_copy 123 = .ok (.iload_n 2, 1) := by decide +kernel
theorem dX7_copy_124 : decode cX7_copy 124 = .ok (.iadd, 1) := by decide +kernel
theorem dX7_copy_125 : decode cX7_copy 125 = .ok (.iload 6, 2) := by decide +kernel
theorem dX7_copy_127 : decode cX7_copy 127 = .ok (.iadd, 1) := by decide +kernel
theorem dX7_copy_128 : decode cX7_copy 128 = .ok (.laload, 1) := by decide +kernel
theorem dX7_copy_129 : decode cX7_copy 129 = .ok (.lastore, 1) := by decide +kernel
theorem dX7_copy_130 : decode cX7_copy 130 = .ok (.iinc 6 1, 3) := by decide +kernel
theorem dX7_copy_133 : decode cX7_copy 133 = .ok (.goto (-31), 3) := by decide +kernel
theorem dX7_copy_136 : decode cX7_copy 136 = .ok (.iconst 0, 1) := by decide +kernel
theorem dX7_copy_137 : decode cX7_copy 137 = .ok (.istore 6, 2) := by decide +kernel
theorem dX7_copy_139 : decode cX7_copy 139 = .ok (.iload 6, 2) := by decide +kernel
theorem dX7_copy_141 : decode cX7_copy 141 = .ok (.iload 5, 2) := by decide +kernel
theorem dX7_copy_143 : decode cX7_copy 143 = .ok (.if_icmp .ge 31, 3) := by decide +kernel
theorem dX7_copy_146 : decode cX7_copy 146 = .ok (.aload_n 0, 1) := by decide +kernel
theorem dX7_copy_147 : decode cX7_copy 147 = .ok (.getfield 65, 3) := by decide +kernel
theorem dX7_copy_150 : decode cX7_copy 150 = .ok (.bipush 40, 2) := by decide +kernel
theorem dX7_copy_152 : decode cX7_copy 152 = .ok (.iload_n 3, 1) := by decide +kernel
theorem dX7_copy_153 : decode cX7_copy 153 = .ok (.imul, 1) := by decide +kernel
theorem dX7_copy_154 : decode cX7_copy 154 = .ok (.iload 4, 2) := by decide +kernel
theorem dX7_copy_156 : decode cX7_copy 156 = .ok (.iadd, 1) := by decide +kernel
theorem dX7_copy_157 : decode cX7_copy 157 = .ok (.iload 6, 2) := by decide +kernel
theorem dX7_copy_159 : decode cX7_copy 159 = .ok (.iadd, 1) := by decide +kernel
theorem dX7_copy_160 : decode cX7_copy 160 = .ok (.aload_n 0, 1) := by decide +kernel
theorem dX7_copy_161 : decode cX7_copy 161 = .ok (.getfield 69, 3) := by decide +kernel
theorem dX7_copy_164 : decode cX7_copy 164 = .ok (.iload 6, 2) := by decide +kernel
theorem dX7_copy_166 : decode cX7_copy 166 = .ok (.laload, 1) := by decide +kernel
theorem dX7_copy_167 : decode cX7_copy 167 = .ok (.lastore, 1) := by decide +kernel
theorem dX7_copy_168 : decode cX7_copy 168 = .ok (.iinc 6 1, 3) := by decide +kernel
theorem dX7_copy_171 : decode cX7_copy 171 = .ok (.goto (-32), 3) := by decide +kernel
theorem dX7_copy_174 : decode cX7_copy 174 = .ok (.iload 5, 2) := by decide +kernel
theorem dX7_copy_176 : decode cX7_copy 176 = .ok (.ireturn, 1) := by decide +kernel
theorem dX7_lays_0 : decode cX7_lays 0 = .ok (.iload_n 1, 1) := by decide +kernel
theorem dX7_lays_1 : decode cX7_lays 1 = .ok (.invokestatic 340, 3) := by decide +kernel
theorem dX7_lays_4 : decode cX7_lays 4 = .ok (.ifCond .ne 10, 3) := by decide +kernel
theorem dX7_lays_7 : decode cX7_lays 7 = .ok (.aload_n 0, 1) := by decide +kernel
theorem dX7_lays_8 : decode cX7_lays 8 = .ok (.ldc 85, 2) := by decide +kernel
theorem dX7_lays_10 : decode cX7_lays 10 = .ok (.invokevirtual 104, 3) := by decide +kernel
theorem dX7_lays_13 : decode cX7_lays 13 = .ok (.ireturn, 1) := by decide +kernel
theorem dX7_lays_14 : decode cX7_lays 14 = .ok (.aload_n 0, 1) := by decide +kernel
theorem dX7_lays_15 : decode cX7_lays 15 = .ok (.getfield 59, 3) := by decide +kernel
theorem dX7_lays_18 : decode cX7_lays 18 = .ok (.iload_n 1, 1) := by decide +kernel
theorem dX7_lays_19 : decode cX7_lays 19 = .ok (.iaload, 1) := by decide +kernel
theorem dX7_lays_20 : decode cX7_lays 20 = .ok (.ifCond .ne 11, 3) := by decide +kernel
theorem dX7_lays_23 : decode cX7_lays 23 = .ok (.aload_n 0, 1) := by decide +kernel
theorem dX7_lays_24 : decode cX7_lays 24 = .ok (.ldc_w 344, 3) := by decide +kernel
theorem dX7_lays_27 : decode cX7_lays 27 = .ok (.invokevirtual 104, 3) := by decide +kernel
theorem dX7_lays_30 : decode cX7_lays 30 = .ok (.ireturn, 1) := by decide +kernel
theorem dX7_lays_31 : decode cX7_lays 31 = .ok (.iconst 0, 1) := by decide +kernel
theorem dX7_lays_32 : decode cX7_lays 32 = .ok (.istore_n 2, 1) := by decide +kernel
theorem dX7_lays_33 : decode cX7_lays 33 = .ok (.iconst 0, 1) := by decide +kernel
theorem dX7_lays_34 : decode cX7_lays 34 = .ok (.istore_n 3, 1) := by decide +kernel
theorem dX7_lays_35 : decode cX7_lays 35 = .ok (.iload_n 3, 1) := by decide +kernel
theorem dX7_lays_36 : decode cX7_lays 36 = .ok (.bipush 8, 2) := by decide +kernel
theorem dX7_lays_38 : decode cX7_lays 38 = .ok (.if_icmp .ge 60, 3) := by decide +kernel
theorem dX7_lays_41 : decode cX7_lays 41 = .ok (.iload_n 3, 1) := by decide +kernel
theorem dX7_lays_42 : decode cX7_lays 42 = .ok (.aload_n 0, 1) := by decide +kernel
theorem dX7_lays_43 : decode cX7_lays 43 = .ok (.getfield 62, 3) := by decide +kernel
theorem dX7_lays_46 : decode cX7_lays 46 = .ok (.iload_n 1, 1) := by decide +kernel
theorem dX7_lays_47 : decode cX7_lays 47 = .ok (.iaload, 1) := by decide +kernel
theorem dX7_lays_48 : decode cX7_lays 48 = .ok (.if_icmp .ge 50, 3) := by decide +kernel
theorem dX7_lays_51 : decode cX7_lays 51 = .ok (.aload_n 0, 1) := by decide +kernel
theorem dX7_lays_52 : decode cX7_lays 52 = .ok (.getfield 65, 3) := by decide +kernel
theorem dX7_lays_55 : decode cX7_lays 55 = .ok (.bipush 40, 2) := by decide +kernel
theorem dX7_lays_57 : decode cX7_lays 57 = .ok (.iload_n 1, 1) := by decide +kernel
theorem dX7_lays_58 : decode cX7_lays 58 = .ok (.imul, 1) := by decide +kernel
theorem dX7_lays_59 : decode cX7_lays 59 = .ok (.iload_n 3, 1) := by decide +kernel
theorem dX7_lays_60 : decode cX7_lays 60 = .ok (.iadd, 1) := by decide +kernel
theorem dX7_lays_61 : decode cX7_lays 61 = .ok (.laload, 1) := by decide +kernel
theorem dX7_lays_62 : decode cX7_lays 62 = .ok (.lstore 4, 2) := by decide +kernel
theorem dX7_lays_64 : decode cX7_lays 64 = .ok (.lload 4, 2) := by decide +kernel
theorem dX7_lays_66 : decode cX7_lays 66 = .ok (.lconst 0, 1) := by decide +kernel
theorem dX7_lays_67 : decode cX7_lays 67 = .ok (.lcmp, 1) := by decide +kernel
theorem dX7_lays_68 : decode cX7_lays 68 = .ok (.ifCond .lt 24, 3) := by decide +kernel
theorem dX7_lays_71 : decode cX7_lays 71 = .ok (.lload 4, 2) := by decide +kernel
theorem dX7_lays_73 : decode cX7_lays 73 = .ok (.ldc2_w 352, 3) := by decide +kernel
theorem dX7_lays_76 : decode cX7_lays 76 = .ok (.lcmp, 1) := by decide +kernel
theorem dX7_lays_77 : decode cX7_lays 77 = .ok (.ifCond .gt 15, 3) := by decide +kernel
theorem dX7_lays_80 : decode cX7_lays 80 = .ok (.aload_n 0, 1) := by decide +kernel
theorem dX7_lays_81 : decode cX7_lays 81 = .ok (.getfield 7, 3) := by decide +kernel
theorem dX7_lays_84 : decode cX7_lays 84 = .ok (.iload_n 3, 1) := by decide +kernel
theorem dX7_lays_85 : decode cX7_lays 85 = .ok (.lload 4, 2) := by decide +kernel
theorem dX7_lays_87 : decode cX7_lays 87 = .ok (.l2i, 1) := by decide +kernel
theorem dX7_lays_88 : decode cX7_lays 88 = .ok (.iastore, 1) := by decide +kernel
theorem dX7_lays_89 : decode cX7_lays 89 = .ok (.iinc 2 1, 3) := by decide +kernel
theorem dX7_lays_92 : decode cX7_lays 92 = .ok (.iinc 3 1, 3) := by decide +kernel
theorem dX7_lays_95 : decode cX7_lays 95 = .ok (.goto (-60), 3) := by decide +kernel
theorem dX7_lays_98 : decode cX7_lays 98 = .ok (.iload_n 2, 1) := by decide +kernel
theorem dX7_lays_99 : decode cX7_lays 99 = .ok (.ireturn, 1) := by decide +kernel
theorem dX7_noMenu_0 : decode cX7_noMenu 0 = .ok (.iload_n 1, 1) := by decide +kernel
theorem dX7_noMenu_1 : decode cX7_noMenu 1 = .ok (.invokestatic 340, 3) := by decide +kernel
theorem dX7_noMenu_4 : decode cX7_noMenu 4 = .ok (.ifCond .ne 8, 3) := by decide +kernel
theorem dX7_noMenu_7 : decode cX7_noMenu 7 = .ok (.ldc 85, 2) := by decide +kernel
theorem dX7_noMenu_9 : decode cX7_noMenu 9 = .ok (.goto 31, 3) := by decide +kernel
theorem dX7_noMenu_12 : decode cX7_noMenu 12 = .ok (.aload_n 0, 1) := by decide +kernel
theorem dX7_noMenu_13 : decode cX7_noMenu 13 = .ok (.getfield 59, 3) := by decide +kernel
theorem dX7_noMenu_16 : decode cX7_noMenu 16 = .ok (.iload_n 1, 1) := by decide +kernel
theorem dX7_noMenu_17 : decode cX7_noMenu 17 = .ok (.iaload, 1) := by decide +kernel
theorem dX7_noMenu_18 : decode cX7_noMenu 18 = .ok (.ifCond .ne 9, 3) := by decide +kernel
theorem dX7_noMenu_21 : decode cX7_noMenu 21 = .ok (.ldc_w 344, 3) := by decide +kernel
theorem dX7_noMenu_24 : decode cX7_noMenu 24 = .ok (.goto 16, 3) := by decide +kernel
theorem dX7_noMenu_27 : decode cX7_noMenu 27 = .ok (.iload_n 2, 1) := by decide +kernel
theorem dX7_noMenu_28 : decode cX7_noMenu 28 = .ok (.invokestatic 159, 3) := by decide +kernel
theorem dX7_noMenu_31 : decode cX7_noMenu 31 = .ok (.ifCond .ne 8, 3) := by decide +kernel
theorem dX7_noMenu_34 : decode cX7_noMenu 34 = .ok (.ldc 85, 2) := by decide +kernel
theorem dX7_noMenu_36 : decode cX7_noMenu 36 = .ok (.goto 4, 3) := by decide +kernel
theorem dX7_noMenu_39 : decode cX7_noMenu 39 = .ok (.iconst 0, 1) := by decide +kernel
theorem dX7_noMenu_40 : decode cX7_noMenu 40 = .ok (.ireturn, 1) := by decide +kernel
theorem dX7_menu_0 : decode cX7_menu 0 = .ok (.aload_n 0, 1) := by decide +kernel
theorem dX7_menu_1 : decode cX7_menu 1 = .ok (.iload_n 1, 1) := by decide +kernel
theorem dX7_menu_2 : decode cX7_menu 2 = .ok (.iload_n 2, 1) := by decide +kernel
theorem dX7_menu_3 : decode cX7_menu 3 = .ok (.invokevirtual 354, 3) := by decide +kernel
theorem dX7_menu_6 : decode cX7_menu 6 = .ok (.istore_n 3, 1) := by decide +kernel
theorem dX7_menu_7 : decode cX7_menu 7 = .ok (.iload_n 3, 1) := by decide +kernel
theorem dX7_menu_8 : decode cX7_menu 8 = .ok (.ifCond .eq 9, 3) := by decide +kernel
theorem dX7_menu_11 : decode cX7_menu 11 = .ok (.aload_n 0, 1) := by decide +kernel
theorem dX7_menu_12 : decode cX7_menu 12 = .ok (.iload_n 3, 1) := by decide +kernel
theorem dX7_menu_13 : decode cX7_menu 13 = .ok (.invokevirtual 104, 3) := by decide +kernel
theorem dX7_menu_16 : decode cX7_menu 16 = .ok (.ireturn, 1) := by decide +kernel
theorem dX7_menu_17 : decode cX7_menu 17 = .ok (.aload_n 0, 1) := by decide +kernel
theorem dX7_menu_18 : decode cX7_menu 18 = .ok (.invokevirtual 194, 3) := by decide +kernel
theorem dX7_menu_21 : decode cX7_menu 21 = .ok (.iconst 0, 1) := by decide +kernel
theorem dX7_menu_22 : decode cX7_menu 22 = .ok (.istore 4, 2) := by decide +kernel
theorem dX7_menu_24 : decode cX7_menu 24 = .ok (.iconst 0, 1) := by decide +kernel
theorem dX7_menu_25 : decode cX7_menu 25 = .ok (.istore 5, 2) := by decide +kernel
theorem dX7_menu_27 : decode cX7_menu 27 = .ok (.iload 4, 2) := by decide +kernel
theorem dX7_menu_29 : decode cX7_menu 29 = .ok (.aload_n 0, 1) := by decide +kernel
theorem dX7_menu_30 : decode cX7_menu 30 = .ok (.getfield 62, 3) := by decide +kernel
theorem dX7_menu_33 : decode cX7_menu 33 = .ok (.iload_n 1, 1) := by decide +kernel
theorem dX7_menu_34 : decode cX7_menu 34 = .ok (.iaload, 1) := by decide +kernel
theorem dX7_menu_35 : decode cX7_menu 35 = .ok (.if_icmp .ge 50, 3) := by decide +kernel
theorem dX7_menu_38 : decode cX7_menu 38 = .ok (.iload 5, 2) := by decide +kernel
theorem dX7_menu_40 : decode cX7_menu 40 = .ok (.ifCond .lt 45, 3) := by decide +kernel
theorem dX7_menu_43 : decode cX7_menu 43 = .ok (.aload_n 0, 1) := by decide +kernel
theorem dX7_menu_44 : decode cX7_menu 44 = .ok (.iload_n 2, 1) := by decide +kernel
theorem dX7_menu_45 : decode cX7_menu 45 = .ok (.invokevirtual 197, 3) := by decide +kernel
theorem dX7_menu_48 : decode cX7_menu 48 = .ok (.istore 5, 2) := by decide +kernel
theorem dX7_menu_50 : decode cX7_menu 50 = .ok (.iload 5, 2) := by decide +kernel
theorem dX7_menu_52 : decode cX7_menu 52 = .ok (.ifCond .lt (-25), 3) := by decide +kernel
theorem dX7_menu_55 : decode cX7_menu 55 = .ok (.aload_n 0, 1) := by decide +kernel
theorem dX7_menu_56 : decode cX7_menu 56 = .ok (.getfield 65, 3) := by decide +kernel
theorem dX7_menu_59 : decode cX7_menu 59 = .ok (.bipush 40, 2) := by decide +kernel
theorem dX7_menu_61 : decode cX7_menu 61 = .ok (.iload_n 1, 1) := by decide +kernel
theorem dX7_menu_62 : decode cX7_menu 62 = .ok (.imul, 1) := by decide +kernel
theorem dX7_menu_63 : decode cX7_menu 63 = .ok (.iload 4, 2) := by decide +kernel
theorem dX7_menu_65 : decode cX7_menu 65 = .ok (.iadd, 1) := by decide +kernel
theorem dX7_menu_66 : decode cX7_menu 66 = .ok (.aload_n 0, 1) := by decide +kernel
theorem dX7_menu_67 : decode cX7_menu 67 = .ok (.getfield 59, 3) := by decide +kernel
theorem dX7_menu_70 : decode cX7_menu 70 = .ok (.iload_n 1, 1) := by decide +kernel
theorem dX7_menu_71 : decode cX7_menu 71 = .ok (.iaload, 1) := by decide +kernel
theorem dX7_menu_72 : decode cX7_menu 72 = .ok (.iload 5, 2) := by decide +kernel
theorem dX7_menu_74 : decode cX7_menu 74 = .ok (.i2l, 1) := by decide +kernel
theorem dX7_menu_75 : decode cX7_menu 75 = .ok (.invokestatic 345, 3) := by decide +kernel
theorem dX7_menu_78 : decode cX7_menu 78 = .ok (.lastore, 1) := by decide +kernel
theorem dX7_menu_79 : decode cX7_menu 79 = .ok (.iinc 4 1, 3) := by decide +kernel
theorem dX7_menu_82 : decode cX7_menu 82 = .ok (.goto (-55), 3) := by decide +kernel
theorem dX7_menu_85 : decode cX7_menu 85 = .ok (.aload_n 0, 1) := by decide +kernel
theorem dX7_menu_86 : decode cX7_menu 86 = .ok (.invokevirtual 200, 3) := by decide +kernel
theorem dX7_menu_89 : decode cX7_menu 89 = .ok (.iload 4, 2) := by decide +kernel
theorem dX7_menu_91 : decode cX7_menu 91 = .ok (.ireturn, 1) := by decide +kernel
theorem dX7_canServe_0 : decode cX7_canServe 0 = .ok (.lload_n 1, 1) := by decide +kernel
theorem dX7_canServe_1 : decode cX7_canServe 1 = .ok (.lconst 0, 1) := by decide +kernel
theorem dX7_canServe_2 : decode cX7_canServe 2 = .ok (.lcmp, 1) := by decide +kernel
theorem dX7_canServe_3 : decode cX7_canServe 3 = .ok (.ifCond .lt 16, 3) := by decide +kernel
theorem dX7_canServe_6 : decode cX7_canServe 6 = .ok (.lload_n 1, 1) := by decide +kernel
theorem dX7_canServe_7 : decode cX7_canServe 7 = .ok (.ldc2_w 357, 3) := by decide +kernel
theorem dX7_canServe_10 : decode cX7_canServe 10 = .ok (.lcmp, 1) := by decide +kernel
theorem dX7_canServe_11 : decode cX7_canServe 11 = .ok (.ifCond .ge 8, 3) := by decide +kernel
theorem dX7_canServe_14 : decode cX7_canServe 14 = .ok (.lload_n 1, 1) := by decide +kernel
theorem dX7_canServe_15 : decode cX7_canServe 15 = .ok (.l2i, 1) := by decide +kernel
theorem dX7_canServe_16 : decode cX7_canServe 16 = .ok (.goto 4, 3) := by decide +kernel
theorem dX7_canServe_19 : decode cX7_canServe 19 = .ok (.iconst 0, 1) := by decide +kernel
theorem dX7_canServe_20 : decode cX7_canServe 20 = .ok (.istore 4, 2) := by decide +kernel
theorem dX7_canServe_22 : decode cX7_canServe 22 = .ok (.iload 4, 2) := by decide +kernel
theorem dX7_canServe_24 : decode cX7_canServe 24 = .ok (.ifCond .le 58, 3) := by decide +kernel
theorem dX7_canServe_27 : decode cX7_canServe 27 = .ok (.aload_n 0, 1) := by decide +kernel
theorem dX7_canServe_28 : decode cX7_canServe 28 = .ok (.iload 4, 2) := by decide +kernel
theorem dX7_canServe_30 : decode cX7_canServe 30 = .ok (.invokevirtual 131, 3) := by decide +kernel
theorem dX7_canServe_33 : decode cX7_canServe 33 = .ok (.ifCond .eq 49, 3) := by decide +kernel
theorem dX7_canServe_36 : decode cX7_canServe 36 = .ok (.aload_n 0, 1) := by decide +kernel
theorem dX7_canServe_37 : decode cX7_canServe 37 = .ok (.iload 4, 2) := by decide +kernel
theorem dX7_canServe_39 : decode cX7_canServe 39 = .ok (.invokevirtual 137, 3) := by decide +kernel
theorem dX7_canServe_42 : decode cX7_canServe 42 = .ok (.ifCond .eq 40, 3) := by decide +kernel
theorem dX7_canServe_45 : decode cX7_canServe 45 = .ok (.iload_n 3, 1) := by decide +kernel
theorem dX7_canServe_46 : decode cX7_canServe 46 = .ok (.iconst 2, 1) := by decide +kernel
theorem dX7_canServe_47 : decode cX7_canServe 47 = .ok (.if_icmp .eq 31, 3) := by decide +kernel
theorem dX7_canServe_50 : decode cX7_canServe 50 = .ok (.aload_n 0, 1) := by decide +kernel
theorem dX7_canServe_51 : decode cX7_canServe 51 = .ok (.getfield 37, 3) := by decide +kernel
theorem dX7_canServe_54 : decode cX7_canServe 54 = .ok (.aload_n 0, 1) := by decide +kernel
theorem dX7_canServe_55 : decode cX7_canServe 55 = .ok (.aload_n 0, 1) := by decide +kernel
theorem dX7_canServe_56 : decode cX7_canServe 56 = .ok (.iload 4, 2) := by decide +kernel
theorem dX7_canServe_58 : decode cX7_canServe 58 = .ok (.invokevirtual 131, 3) := by decide +kernel
theorem dX7_canServe_61 : decode cX7_canServe 61 = .ok (.ifCond .eq 8, 3) := by decide +kernel
theorem dX7_canServe_64 : decode cX7_canServe 64 = .ok (.iload 4, 2) := by decide +kernel
theorem dX7_canServe_66 : decode cX7_canServe 66 = .ok (.goto 5, 3) := by decide +kernel
theorem dX7_canServe_69 : decode cX7_canServe 69 = .ok (.bipush 20, 2) := by decide +kernel
theorem dX7_canServe_71 : decode cX7_canServe 71 = .ok (.invokevirtual 213, 3) := by decide +kernel
theorem dX7_canServe_74 : decode cX7_canServe 74 = .ok (.baload, 1) := by decide +kernel
theorem dX7_canServe_75 : decode cX7_canServe 75 = .ok (.ifCond .ne 7, 3) := by decide +kernel
theorem dX7_canServe_78 : decode cX7_canServe 78 = .ok (.iconst 1, 1) := by decide +kernel
theorem dX7_canServe_79 : decode cX7_canServe 79 = .ok (.goto 4, 3) := by decide +kernel
theorem dX7_canServe_82 : decode cX7_canServe 82 = .ok (.iconst 0, 1) := by decide +kernel
theorem dX7_canServe_83 : decode cX7_canServe 83 = .ok (.ireturn, 1) := by decide +kernel
theorem dX7_read_0 : decode cX7_read 0 = .ok (.aload_n 0, 1) := by decide +kernel
theorem dX7_read_1 : decode cX7_read 1 = .ok (.iload_n 1, 1) := by decide +kernel
theorem dX7_read_2 : decode cX7_read 2 = .ok (.iload_n 2, 1) := by decide +kernel
theorem dX7_read_3 : decode cX7_read 3 = .ok (.invokevirtual 354, 3) := by decide +kernel
theorem dX7_read_6 : decode cX7_read 6 = .ok (.istore_n 3, 1) := by decide +kernel
theorem dX7_read_7 : decode cX7_read 7 = .ok (.iload_n 3, 1) := by decide +kernel
theorem dX7_read_8 : decode cX7_read 8 = .ok (.ifCond .eq 9, 3) := by decide +kernel
theorem dX7_read_11 : decode cX7_read 11 = .ok (.aload_n 0, 1) := by decide +kernel
theorem dX7_read_12 : decode cX7_read 12 = .ok (.iload_n 3, 1) := by decide +kernel
theorem dX7_read_13 : decode cX7_read 13 = .ok (.invokevirtual 104, 3) := by decide +kernel
theorem dX7_read_16 : decode cX7_read 16 = .ok (.ireturn, 1) := by decide +kernel
theorem dX7_read_17 : decode cX7_read 17 = .ok (.aload_n 0, 1) := by decide +kernel
theorem dX7_read_18 : decode cX7_read 18 = .ok (.invokevirtual 194, 3) := by decide +kernel
theorem dX7_read_21 : decode cX7_read 21 = .ok (.iconst 0, 1) := by decide +kernel
theorem dX7_read_22 : decode cX7_read 22 = .ok (.istore 4, 2) := by decide +kernel
theorem dX7_read_24 : decode cX7_read 24 = .ok (.iconst 0, 1) := by decide +kernel
theorem dX7_read_25 : decode cX7_read 25 = .ok (.istore 5, 2) := by decide +kernel
theorem dX7_read_27 : decode cX7_read 27 = .ok (.iload 5, 2) := by decide +kernel
theorem dX7_read_29 : decode cX7_read 29 = .ok (.aload_n 0, 1) := by decide +kernel
theorem dX7_read_30 : decode cX7_read 30 = .ok (.getfield 62, 3) := by decide +kernel
theorem dX7_read_33 : decode cX7_read 33 = .ok (.iload_n 1, 1) := by decide +kernel
theorem dX7_read_34 : decode cX7_read 34 = .ok (.iaload, 1) := by decide +kernel
theorem dX7_read_35 : decode cX7_read 35 = .ok (.if_icmp .ge 66, 3) := by decide +kernel
theorem dX7_read_38 : decode cX7_read 38 = .ok (.iload 4, 2) := by decide +kernel
theorem dX7_read_40 : decode cX7_read 40 = .ok (.ifCond .ne 61, 3) := by decide +kernel
theorem dX7_read_43 : decode cX7_read 43 = .ok (.aload_n 0, 1) := by decide +kernel
theorem dX7_read_44 : decode cX7_read 44 = .ok (.getfield 65, 3) := by decide +kernel
theorem dX7_read_47 : decode cX7_read 47 = .ok (.bipush 40, 2) := by decide +kernel
theorem dX7_read_49 : decode cX7_read 49 = .ok (.iload_n 1, 1) := by decide +kernel
theorem dX7_read_50 : decode cX7_read 50 = .ok (.imul, 1) := by decide +kernel
theorem dX7_read_51 : decode cX7_read 51 = .ok (.iload 5, 2) := by decide +kernel
theorem dX7_read_53 : decode cX7_read 53 = .ok (.iadd, 1) := by decide +kernel
theorem dX7_read_54 : decode cX7_read 54 = .ok (.laload, 1) := by decide +kernel
theorem dX7_read_55 : decode cX7_read 55 = .ok (.lstore 6, 2) := by decide +kernel
theorem dX7_read_57 : decode cX7_read 57 = .ok (.aload_n 0, 1) := by decide +kernel
theorem dX7_read_58 : decode cX7_read 58 = .ok (.lload 6, 2) := by decide +kernel
theorem dX7_read_60 : decode cX7_read 60 = .ok (.iload_n 2, 1) := by decide +kernel
theorem dX7_read_61 : decode cX7_read 61 = .ok (.invokevirtual 359, 3) := by decide +kernel
theorem dX7_read_64 : decode cX7_read 64 = .ok (.ifCond .eq 25, 3) := by decide +kernel
theorem dX7_read_67 : decode cX7_read 67 = .ok (.aload_n 0, 1) := by decide +kernel
theorem dX7_read_68 : decode cX7_read 68 = .ok (.iload_n 2, 1) := by decide +kernel
theorem dX7_read_69 : decode cX7_read 69 = .ok (.lload 6, 2) := by decide +kernel
theorem dX7_read_71 : decode cX7_read 71 = .ok (.l2i, 1) := by decide +kernel
theorem dX7_read_72 : decode cX7_read 72 = .ok (.iconst 0, 1) := by decide +kernel
theorem dX7_read_73 : decode cX7_read 73 = .ok (.invokevirtual 188, 3) := by decide +kernel
theorem dX7_read_76 : decode cX7_read 76 = .ok (.aload_n 0, 1) := by decide +kernel
theorem dX7_read_77 : decode cX7_read 77 = .ok (.aload_n 0, 1) := by decide +kernel
theorem dX7_read_78 : decode cX7_read 78 = .ok (.getfield 93, 3) := by decide +kernel
theorem dX7_read_81 : decode cX7_read 81 = .ok (.iconst 1, 1) := by decide +kernel
theorem dX7_read_82 : decode cX7_read 82 = .ok (.isub, 1) := by decide +kernel
theorem dX7_read_83 : decode cX7_read 83 = .ok (.invokevirtual 146, 3) := by decide +kernel
theorem dX7_read_86 : decode cX7_read 86 = .ok (.goto 9, 3) := by decide +kernel
theorem dX7_read_89 : decode cX7_read 89 = .ok (.iload 5, 2) := by decide +kernel
theorem dX7_read_91 : decode cX7_read 91 = .ok (.iconst 1, 1) := by decide +kernel
theorem dX7_read_92 : decode cX7_read 92 = .ok (.iadd, 1) := by decide +kernel
theorem dX7_read_93 : decode cX7_read 93 = .ok (.istore 4, 2) := by decide +kernel
theorem dX7_read_95 : decode cX7_read 95 = .ok (.iinc 5 1, 3) := by decide +kernel
theorem dX7_read_98 : decode cX7_read 98 = .ok (.goto (-71), 3) := by decide +kernel
theorem dX7_read_101 : decode cX7_read 101 = .ok (.aload_n 0, 1) := by decide +kernel
theorem dX7_read_102 : decode cX7_read 102 = .ok (.invokevirtual 200, 3) := by decide +kernel
theorem dX7_read_105 : decode cX7_read 105 = .ok (.iload 4, 2) := by decide +kernel
theorem dX7_read_107 : decode cX7_read 107 = .ok (.ireturn, 1) := by decide +kernel
theorem dX7_moveRow_0 : decode cX7_moveRow 0 = .ok (.iconst 0, 1) := by decide +kernel
theorem dX7_moveRow_1 : decode cX7_moveRow 1 = .ok (.istore 5, 2) := by decide +kernel
theorem dX7_moveRow_3 : decode cX7_moveRow 3 = .ok (.iload 5, 2) := by decide +kernel
theorem dX7_moveRow_5 : decode cX7_moveRow 5 = .ok (.iload_n 2, 1) := by decide +kernel
theorem dX7_moveRow_6 : decode cX7_moveRow 6 = .ok (.if_icmp .ge 48, 3) := by decide +kernel
theorem dX7_moveRow_9 : decode cX7_moveRow 9 = .ok (.iload_n 3, 1) := by decide +kernel
theorem dX7_moveRow_10 : decode cX7_moveRow 10 = .ok (.ifCond .eq 17, 3) := by decide +kernel
theorem dX7_moveRow_13 : decode cX7_moveRow 13 = .ok (.aload 4, 2) := by decide +kernel
theorem dX7_moveRow_15 : decode cX7_moveRow 15 = .ok (.aload_n 0, 1) := by decide +kernel
theorem dX7_moveRow_16 : decode cX7_moveRow 16 = .ok (.getfield 363, 3) := by decide +kernel
theorem dX7_moveRow_19 : decode cX7_moveRow 19 = .ok (.aload_n 1, 1) := by decide +kernel
theorem dX7_moveRow_20 : decode cX7_moveRow 20 = .ok (.iload 5, 2) := by decide +kernel
theorem dX7_moveRow_22 : decode cX7_moveRow 22 = .ok (.iaload, 1) := by decide +kernel
theorem dX7_moveRow_23 : decode cX7_moveRow 23 = .ok (.iastore, 1) := by decide +kernel
theorem dX7_moveRow_24 : decode cX7_moveRow 24 = .ok (.goto 14, 3) := by decide +kernel
theorem dX7_moveRow_27 : decode cX7_moveRow 27 = .ok (.aload_n 1, 1) := by decide +kernel
theorem dX7_moveRow_28 : decode cX7_moveRow 28 = .ok (.iload 5, 2) := by decide +kernel
theorem dX7_moveRow_30 : decode cX7_moveRow 30 = .ok (.aload 4, 2) := by decide +kernel
theorem dX7_moveRow_32 : decode cX7_moveRow 32 = .ok (.aload_n 0, 1) := by decide +kernel
theorem dX7_moveRow_33 : decode cX7_moveRow 33 = .ok (.getfield 363, 3) := by decide +kernel
theorem dX7_moveRow_36 : decode cX7_moveRow 36 = .ok (.iaload, 1) := by decide +kernel
theorem dX7_moveRow_37 : decode cX7_moveRow 37 = .ok (.iastore, 1) := by decide +kernel
theorem dX7_moveRow_38 : decode cX7_moveRow 38 = .ok (.aload_n 0, 1) := by decide +kernel
theorem dX7_moveRow_39 : decode cX7_moveRow 39 = .ok (.dup, 1) := by decide +kernel
theorem dX7_moveRow_40 : decode cX7_moveRow 40 = .ok (.getfield 363, 3) := by decide +kernel
theorem dX7_moveRow_43 : decode cX7_moveRow 43 = .ok (.iconst 1, 1) := by decide +kernel
theorem dX7_moveRow_44 : decode cX7_moveRow 44 = .ok (.iadd, 1) := by decide +kernel
theorem dX7_moveRow_45 : decode cX7_moveRow 45 = .ok (.putfield 363, 3) := by decide +kernel
theorem dX7_moveRow_48 : decode cX7_moveRow 48 = .ok (.iinc 5 1, 3) := by decide +kernel
theorem dX7_moveRow_51 : decode cX7_moveRow 51 = .ok (.goto (-48), 3) := by decide +kernel
theorem dX7_moveRow_54 : decode cX7_moveRow 54 = .ok (.return_, 1) := by decide +kernel
theorem dX7_moveAll_0 : decode cX7_moveAll 0 = .ok (.aload_n 0, 1) := by decide +kernel
theorem dX7_moveAll_1 : decode cX7_moveAll 1 = .ok (.iconst 0, 1) := by decide +kernel
theorem dX7_moveAll_2 : decode cX7_moveAll 2 = .ok (.putfield 363, 3) := by decide +kernel
theorem dX7_moveAll_5 : decode cX7_moveAll 5 = .ok (.aload_n 0, 1) := by decide +kernel
theorem dX7_moveAll_6 : decode cX7_moveAll 6 = .ok (.getfield 78, 3) := by decide +kernel
theorem dX7_moveAll_9 : decode cX7_moveAll 9 = .ok (.iconst 0, 1) := by decide +kernel
theorem dX7_moveAll_10 : decode cX7_moveAll 10 = .ok (.aload_n 0, 1) := by decide +kernel
theorem dX7_moveAll_11 : decode cX7_moveAll 11 = .ok (.getfield 93, 3) := by decide +kernel
theorem dX7_moveAll_14 : decode cX7_moveAll 14 = .ok (.iastore, 1) := by decide +kernel
theorem dX7_moveAll_15 : decode cX7_moveAll 15 = .ok (.aload_n 0, 1) := by decide +kernel
theorem dX7_moveAll_16 : decode cX7_moveAll 16 = .ok (.getfield 78, 3) := by decide +kernel
theorem dX7_moveAll_19 : decode cX7_moveAll 19 = .ok (.iconst 1, 1) := by decide +kernel
theorem dX7_moveAll_20 : decode cX7_moveAll 20 = .ok (.aload_n 0, 1) := by decide +kernel
theorem dX7_moveAll_21 : decode cX7_moveAll 21 = .ok (.getfield 163, 3) := by decide +kernel
theorem dX7_moveAll_24 : decode cX7_moveAll 24 = .ok (.iastore, 1) := by decide +kernel
theorem dX7_moveAll_25 : decode cX7_moveAll 25 = .ok (.aload_n 0, 1) := by decide +kernel
theorem dX7_moveAll_26 : decode cX7_moveAll 26 = .ok (.aload_n 0, 1) := by decide +kernel
theorem dX7_moveAll_27 : decode cX7_moveAll 27 = .ok (.getfield 78, 3) := by decide +kernel
theorem dX7_moveAll_30 : decode cX7_moveAll 30 = .ok (.iconst 2, 1) := by decide +kernel
theorem dX7_moveAll_31 : decode cX7_moveAll 31 = .ok (.iload_n 1, 1) := by decide +kernel
theorem dX7_moveAll_32 : decode cX7_moveAll 32 = .ok (.aload_n 2, 1) := by decide +kernel
theorem dX7_moveAll_33 : decode cX7_moveAll 33 = .ok (.invokevirtual 366, 3) := by decide +kernel
theorem dX7_moveAll_36 : decode cX7_moveAll 36 = .ok (.aload_n 0, 1) := by decide +kernel
theorem dX7_moveAll_37 : decode cX7_moveAll 37 = .ok (.aload_n 0, 1) := by decide +kernel
theorem dX7_moveAll_38 : decode cX7_moveAll 38 = .ok (.getfield 78, 3) := by decide +kernel
theorem dX7_moveAll_41 : decode cX7_moveAll 41 = .ok (.iconst 0, 1) := by decide +kernel
theorem dX7_moveAll_42 : decode cX7_moveAll 42 = .ok (.iaload, 1) := by decide +kernel
theorem dX7_moveAll_43 : decode cX7_moveAll 43 = .ok (.putfield 93, 3) := by decide +kernel
theorem dX7_moveAll_46 : decode cX7_moveAll 46 = .ok (.aload_n 0, 1) := by decide +kernel
theorem dX7_moveAll_47 : decode cX7_moveAll 47 = .ok (.aload_n 0, 1) := by decide +kernel
theorem dX7_moveAll_48 : decode cX7_moveAll 48 = .ok (.getfield 78, 3) := by decide +kernel
theorem dX7_moveAll_51 : decode cX7_moveAll 51 = .ok (.iconst 1, 1) := by decide +kernel
theorem dX7_moveAll_52 : decode cX7_moveAll 52 = .ok (.iaload, 1) := by decide +kernel
theorem dX7_moveAll_53 : decode cX7_moveAll 53 = .ok (.putfield 163, 3) := by decide +kernel
theorem dX7_moveAll_56 : decode cX7_moveAll 56 = .ok (.aload_n 0, 1) := by decide +kernel
theorem dX7_moveAll_57 : decode cX7_moveAll 57 = .ok (.aload_n 0, 1) := by decide +kernel
theorem dX7_moveAll_58 : decode cX7_moveAll 58 = .ok (.getfield 7, 3) := by decide +kernel
theorem dX7_moveAll_61 : decode cX7_moveAll 61 = .ok (.bipush 8, 2) := by decide +kernel
theorem dX7_moveAll_63 : decode cX7_moveAll 63 = .ok (.iload_n 1, 1) := by decide +kernel
theorem dX7_moveAll_64 : decode cX7_moveAll 64 = .ok (.aload_n 2, 1) := by decide +kernel
theorem dX7_moveAll_65 : decode cX7_moveAll 65 = .ok (.invokevirtual 366, 3) := by decide +kernel
theorem dX7_moveAll_68 : decode cX7_moveAll 68 = .ok (.aload_n 0, 1) := by decide +kernel
theorem dX7_moveAll_69 : decode cX7_moveAll 69 = .ok (.aload_n 0, 1) := by decide +kernel
theorem dX7_moveAll_70 : decode cX7_moveAll 70 = .ok (.getfield 13, 3) := by decide +kernel
theorem dX7_moveAll_73 : decode cX7_moveAll 73 = .ok (.bipush 17, 2) := by decide +kernel
theorem dX7_moveAll_75 : decode cX7_moveAll 75 = .ok (.iload_n 1, 1) := by decide +kernel
theorem dX7_moveAll_76 : decode cX7_moveAll 76 = .ok (.aload_n 2, 1) := by decide +kernel
theorem dX7_moveAll_77 : decode cX7_moveAll 77 = .ok (.invokevirtual 366, 3) := by decide +kernel
theorem dX7_moveAll_80 : decode cX7_moveAll 80 = .ok (.aload_n 0, 1) := by decide +kernel
theorem dX7_moveAll_81 : decode cX7_moveAll 81 = .ok (.aload_n 0, 1) := by decide +kernel
theorem dX7_moveAll_82 : decode cX7_moveAll 82 = .ok (.getfield 16, 3) := by decide +kernel
theorem dX7_moveAll_85 : decode cX7_moveAll 85 = .ok (.iconst 2, 1) := by decide +kernel
theorem dX7_moveAll_86 : decode cX7_moveAll 86 = .ok (.iload_n 1, 1) := by decide +kernel
theorem dX7_moveAll_87 : decode cX7_moveAll 87 = .ok (.aload_n 2, 1) := by decide +kernel
theorem dX7_moveAll_88 : decode cX7_moveAll 88 = .ok (.invokevirtual 366, 3) := by decide +kernel
theorem dX7_moveAll_91 : decode cX7_moveAll 91 = .ok (.aload_n 0, 1) := by decide +kernel
theorem dX7_moveAll_92 : decode cX7_moveAll 92 = .ok (.aload_n 0, 1) := by decide +kernel
theorem dX7_moveAll_93 : decode cX7_moveAll 93 = .ok (.getfield 19, 3) := by decide +kernel
theorem dX7_moveAll_96 : decode cX7_moveAll 96 = .ok (.bipush 30, 2) := by decide +kernel
theorem dX7_moveAll_98 : decode cX7_moveAll 98 = .ok (.iload_n 1, 1) := by decide +kernel
theorem dX7_moveAll_99 : decode cX7_moveAll 99 = .ok (.aload_n 2, 1) := by decide +kernel
theorem dX7_moveAll_100 : decode cX7_moveAll 100 = .ok (.invokevirtual 366, 3) := by decide +kernel
theorem dX7_moveAll_103 : decode cX7_moveAll 103 = .ok (.aload_n 0, 1) := by decide +kernel
theorem dX7_moveAll_104 : decode cX7_moveAll 104 = .ok (.aload_n 0, 1) := by decide +kernel
theorem dX7_moveAll_105 : decode cX7_moveAll 105 = .ok (.getfield 22, 3) := by decide +kernel
theorem dX7_moveAll_108 : decode cX7_moveAll 108 = .ok (.bipush 30, 2) := by decide +kernel
theorem dX7_moveAll_110 : decode cX7_moveAll 110 = .ok (.iload_n 1, 1) := by decide +kernel
theorem dX7_moveAll_111 : decode cX7_moveAll 111 = .ok (.aload_n 2, 1) := by decide +kernel
theorem dX7_moveAll_112 : decode cX7_moveAll 112 = .ok (.invokevirtual 366, 3) := by decide +kernel
theorem dX7_moveAll_115 : decode cX7_moveAll 115 = .ok (.aload_n 0, 1) := by decide +kernel
theorem dX7_moveAll_116 : decode cX7_moveAll 116 = .ok (.aload_n 0, 1) := by decide +kernel
theorem dX7_moveAll_117 : decode cX7_moveAll 117 = .ok (.getfield 25, 3) := by decide +kernel
theorem dX7_moveAll_120 : decode cX7_moveAll 120 = .ok (.bipush 30, 2) := by decide +kernel
theorem dX7_moveAll_122 : decode cX7_moveAll 122 = .ok (.iload_n 1, 1) := by decide +kernel
theorem dX7_moveAll_123 : decode cX7_moveAll 123 = .ok (.aload_n 2, 1) := by decide +kernel
theorem dX7_moveAll_124 : decode cX7_moveAll 124 = .ok (.invokevirtual 366, 3) := by decide +kernel
theorem dX7_moveAll_127 : decode cX7_moveAll 127 = .ok (.return_, 1) := by decide +kernel
theorem dX7_image_0 : decode cX7_image 0 = .ok (.aload_n 0, 1) := by decide +kernel
theorem dX7_image_1 : decode cX7_image 1 = .ok (.iconst 1, 1) := by decide +kernel
theorem dX7_image_2 : decode cX7_image 2 = .ok (.aload_n 0, 1) := by decide +kernel
theorem dX7_image_3 : decode cX7_image 3 = .ok (.getfield 72, 3) := by decide +kernel
theorem dX7_image_6 : decode cX7_image 6 = .ok (.invokevirtual 333, 3) := by decide +kernel
theorem dX7_image_9 : decode cX7_image 9 = .ok (.aload_n 0, 1) := by decide +kernel
theorem dX7_image_10 : decode cX7_image 10 = .ok (.iconst 1, 1) := by decide +kernel
theorem dX7_image_11 : decode cX7_image 11 = .ok (.putfield 370, 3) := by decide +kernel
theorem dX7_image_14 : decode cX7_image 14 = .ok (.iconst 1, 1) := by decide +kernel
theorem dX7_image_15 : decode cX7_image 15 = .ok (.ireturn, 1) := by decide +kernel
theorem dX7_undo_0 : decode cX7_undo 0 = .ok (.aload_n 0, 1) := by decide +kernel
theorem dX7_undo_1 : decode cX7_undo 1 = .ok (.getfield 370, 3) := by decide +kernel
theorem dX7_undo_4 : decode cX7_undo 4 = .ok (.ifCond .ne 10, 3) := by decide +kernel
theorem dX7_undo_7 : decode cX7_undo 7 = .ok (.aload_n 0, 1) := by decide +kernel
theorem dX7_undo_8 : decode cX7_undo 8 = .ok (.ldc 127, 2) := by decide +kernel
theorem dX7_undo_10 : decode cX7_undo 10 = .ok (.invokevirtual 104, 3) := by decide +kernel
theorem dX7_undo_13 : decode cX7_undo 13 = .ok (.ireturn, 1) := by decide +kernel
theorem dX7_undo_14 : decode cX7_undo 14 = .ok (.aload_n 0, 1) := by decide +kernel
theorem dX7_undo_15 : decode cX7_undo 15 = .ok (.iconst 0, 1) := by decide +kernel
theorem dX7_undo_16 : decode cX7_undo 16 = .ok (.aload_n 0, 1) := by decide +kernel
theorem dX7_undo_17 : decode cX7_undo 17 = .ok (.getfield 72, 3) := by decide +kernel
theorem dX7_undo_20 : decode cX7_undo 20 = .ok (.invokevirtual 333, 3) := by decide +kernel
theorem dX7_undo_23 : decode cX7_undo 23 = .ok (.aload_n 0, 1) := by decide +kernel
theorem dX7_undo_24 : decode cX7_undo 24 = .ok (.getfield 93, 3) := by decide +kernel
theorem dX7_undo_27 : decode cX7_undo 27 = .ok (.ireturn, 1) := by decide +kernel
theorem dX7_tear_0 : decode cX7_tear 0 = .ok (.aload_n 0, 1) := by decide +kernel
theorem dX7_tear_1 : decode cX7_tear 1 = .ok (.getfield 370, 3) := by decide +kernel
theorem dX7_tear_4 : decode cX7_tear 4 = .ok (.ifCond .eq 7, 3) := by decide +kernel
theorem dX7_tear_7 : decode cX7_tear 7 = .ok (.iconst 1, 1) := by decide +kernel
theorem dX7_tear_8 : decode cX7_tear 8 = .ok (.goto 4, 3) := by decide +kernel
theorem dX7_tear_11 : decode cX7_tear 11 = .ok (.iconst 0, 1) := by decide +kernel
theorem dX7_tear_12 : decode cX7_tear 12 = .ok (.istore_n 1, 1) := by decide +kernel
theorem dX7_tear_13 : decode cX7_tear 13 = .ok (.aload_n 0, 1) := by decide +kernel
theorem dX7_tear_14 : decode cX7_tear 14 = .ok (.iconst 0, 1) := by decide +kernel
theorem dX7_tear_15 : decode cX7_tear 15 = .ok (.putfield 370, 3) := by decide +kernel
theorem dX7_tear_18 : decode cX7_tear 18 = .ok (.iload_n 1, 1) := by decide +kernel
theorem dX7_tear_19 : decode cX7_tear 19 = .ok (.ireturn, 1) := by decide +kernel
theorem dX7_count_0 : decode cX7_count 0 = .ok (.iload_n 1, 1) := by decide +kernel
theorem dX7_count_1 : decode cX7_count 1 = .ok (.ifCond .ne 10, 3) := by decide +kernel
theorem dX7_count_4 : decode cX7_count 4 = .ok (.aload_n 0, 1) := by decide +kernel
theorem dX7_count_5 : decode cX7_count 5 = .ok (.getfield 222, 3) := by decide +kernel
theorem dX7_count_8 : decode cX7_count 8 = .ok (.goto 30, 3) := by decide +kernel
theorem dX7_count_11 : decode cX7_count 11 = .ok (.iload_n 1, 1) := by decide +kernel
theorem dX7_count_12 : decode cX7_count 12 = .ok (.iconst 1, 1) := by decide +kernel
theorem dX7_count_13 : decode cX7_count 13 = .ok (.if_icmp .ne 19, 3) := by decide +kernel
theorem dX7_count_16 : decode cX7_count 16 = .ok (.aload_n 0, 1) := by decide +kernel
theorem dX7_count_17 : decode cX7_count 17 = .ok (.getfield 16, 3) := by decide +kernel
theorem dX7_count_20 : decode cX7_count 20 = .ok (.iconst 0, 1) := by decide +kernel
theorem dX7_count_21 : decode cX7_count 21 = .ok (.iaload, 1) := by decide +kernel
theorem dX7_count_22 : decode cX7_count 22 = .ok (.aload_n 0, 1) := by decide +kernel
theorem dX7_count_23 : decode cX7_count 23 = .ok (.getfield 16, 3) := by decide +kernel
theorem dX7_count_26 : decode cX7_count 26 = .ok (.iconst 1, 1) := by decide +kernel
theorem dX7_count_27 : decode cX7_count 27 = .ok (.iaload, 1) := by decide +kernel
theorem dX7_count_28 : decode cX7_count 28 = .ok (.iadd, 1) := by decide +kernel
theorem dX7_count_29 : decode cX7_count 29 = .ok (.goto 9, 3) := by decide +kernel
theorem dX7_count_32 : decode cX7_count 32 = .ok (.aload_n 0, 1) := by decide +kernel
theorem dX7_count_33 : decode cX7_count 33 = .ok (.ldc 85, 2) := by decide +kernel
theorem dX7_count_35 : decode cX7_count 35 = .ok (.invokevirtual 104, 3) := by decide +kernel
theorem dX7_count_38 : decode cX7_count 38 = .ok (.ireturn, 1) := by decide +kernel
theorem dX7_status_0 : decode cX7_status 0 = .ok (.iload_n 1, 1) := by decide +kernel
theorem dX7_status_1 : decode cX7_status 1 = .ok (.iconst (-1), 1) := by decide +kernel
theorem dX7_status_2 : decode cX7_status 2 = .ok (.bipush 6, 2) := by decide +kernel
theorem dX7_status_4 : decode cX7_status 4 = .ok (.invokestatic 86, 3) := by decide +kernel
theorem dX7_status_7 : decode cX7_status 7 = .ok (.ifCond .ne 10, 3) := by decide +kernel
theorem dX7_status_10 : decode cX7_status 10 = .ok (.aload_n 0, 1) := by decide +kernel
theorem dX7_status_11 : decode cX7_status 11 = .ok (.ldc 85, 2) := by decide +kernel
theorem dX7_status_13 : decode cX7_status 13 = .ok (.invokevirtual 104, 3) := by decide +kernel
theorem dX7_status_16 : decode cX7_status 16 = .ok (.ireturn, 1) := by decide +kernel
theorem dX7_status_17 : decode cX7_status 17 = .ok (.iconst 0, 1) := by decide +kernel
theorem dX7_status_18 : decode cX7_status 18 = .ok (.istore_n 2, 1) := by decide +kernel
theorem dX7_status_19 : decode cX7_status 19 = .ok (.iconst 0, 1) := by decide +kernel
theorem dX7_status_20 : decode cX7_status 20 = .ok (.istore_n 3, 1) := by decide +kernel
theorem dX7_status_21 : decode cX7_status 21 = .ok (.iload_n 3, 1) := by decide +kernel
theorem dX7_status_22 : decode cX7_status 22 = .ok (.bipush 7, 2) := by decide +kernel
theorem dX7_status_24 : decode cX7_status 24 = .ok (.if_icmp .ge 18, 3) := by decide +kernel
theorem dX7_status_27 : decode cX7_status 27 = .ok (.iload_n 2, 1) := by decide +kernel
theorem dX7_status_28 : decode cX7_status 28 = .ok (.aload_n 0, 1) := by decide +kernel
theorem dX7_status_29 : decode cX7_status 29 = .ok (.getfield 28, 3) := by decide +kernel
theorem dX7_status_32 : decode cX7_status 32 = .ok (.iload_n 3, 1) := by decide +kernel
theorem dX7_status_33 : decode cX7_status 33 = .ok (.iaload, 1) := by decide +kernel
theorem dX7_status_34 : decode cX7_status 34 = .ok (.iadd, 1) := by decide +kernel
theorem dX7_status_35 : decode cX7_status 35 = .ok (.istore_n 2, 1) := by decide +kernel
theorem dX7_status_36 : decode cX7_status 36 = .ok (.iinc 3 1, 3) := by decide +kernel
theorem dX7_status_39 : decode cX7_status 39 = .ok (.goto (-18), 3) := by decide +kernel
theorem dX7_status_42 : decode cX7_status 42 = .ok (.iload_n 1, 1) := by decide +kernel
theorem dX7_status_43 : decode cX7_status 43 = .ok (.ifCond .ge 7, 3) := by decide +kernel
theorem dX7_status_46 : decode cX7_status 46 = .ok (.iload_n 2, 1) := by decide +kernel
theorem dX7_status_47 : decode cX7_status 47 = .ok (.goto 17, 3) := by decide +kernel
theorem dX7_status_50 : decode cX7_status 50 = .ok (.aload_n 0, 1) := by decide +kernel
theorem dX7_status_51 : decode cX7_status 51 = .ok (.getfield 28, 3) := by decide +kernel
theorem dX7_status_54 : decode cX7_status 54 = .ok (.iload_n 1, 1) := by decide +kernel
theorem dX7_status_55 : decode cX7_status 55 = .ok (.ifCond .ge 7, 3) := by decide +kernel
theorem dX7_status_58 : decode cX7_status 58 = .ok (.iconst 0, 1) := by decide +kernel
theorem dX7_status_59 : decode cX7_status 59 = .ok (.goto 4, 3) := by decide +kernel
theorem dX7_status_62 : decode cX7_status 62 = .ok (.iload_n 1, 1) := by decide +kernel
theorem dX7_status_63 : decode cX7_status 63 = .ok (.iaload, 1) := by decide +kernel
theorem dX7_status_64 : decode cX7_status 64 = .ok (.ireturn, 1) := by decide +kernel
