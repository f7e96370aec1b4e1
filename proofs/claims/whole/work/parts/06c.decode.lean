theorem okL_law_0 : chkD cL_law [(0, .new 7, 3), (3, .dup, 1), (4, .invokespecial 9, 3), (7, .astore_n 1, 1), (8, .new 10, 3), (11, .dup, 1), (12, .invokespecial 12, 3), (15, .astore_n 2, 1), (16, .iconst 0, 1), (17, .istore_n 3, 1), (18, .iload_n 3, 1), (19, .aload_n 0, 1), (20, .arraylength, 1), (21, .bipush 6, 2), (23, .isub, 1), (24, .if_icmp .gt 1485, 3), (27, .aload_n 0, 1), (28, .iload_n 3, 1), (29, .iaload, 1), (30, .bipush 63, 2), (32, .iand, 1), (33, .tableswitch 1470 0 43 #[191, 224, 247, 290, 339, 382, 415, 448, 481, 504, 527, 560, 593, 626, 659, 672, 705, 728, 741, 754, 777, 790, 823, 856, 889, 912, 935, 968, 1001, 1034, 1057, 1090, 1103, 1116, 1159, 1233, 1296, 1319, 1352, 1385, 1398, 1411, 1424, 1447], 191), (224, .aload_n 1, 1), (225, .aload_n 0, 1), (226, .iload_n 3, 1), (227, .iconst 1, 1), (228, .iadd, 1), (229, .iaload, 1), (230, .aload_n 0, 1), (231, .iload_n 3, 1), (232, .iconst 2, 1), (233, .iadd, 1), (234, .iaload, 1), (235, .invokevirtual 13, 3), (238, .aload_n 2, 1), (239, .aload_n 0, 1), (240, .iload_n 3, 1), (241, .iconst 1, 1), (242, .iadd, 1), (243, .iaload, 1), (244, .aload_n 0, 1), (245, .iload_n 3, 1), (246, .iconst 2, 1), (247, .iadd, 1), (248, .iaload, 1), (249, .invokevirtual 17, 3), (252, .if_icmp .eq 1251, 3), (255, .iconst 0, 1), (256, .ireturn, 1), (257, .aload_n 1, 1), (258, .aload_n 0, 1), (259, .iload_n 3, 1), (260, .iconst 1, 1), (261, .iadd, 1), (262, .iaload, 1), (263, .invokevirtual 18, 3), (266, .aload_n 2, 1), (267, .aload_n 0, 1), (268, .iload_n 3, 1), (269, .iconst 1, 1), (270, .iadd, 1), (271, .iaload, 1), (272, .invokevirtual 22, 3), (275, .if_icmp .eq 1228, 3), (278, .iconst 0, 1), (279, .ireturn, 1), (280, .aload_n 1, 1), (281, .aload_n 0, 1), (282, .iload_n 3, 1), (283, .iconst 1, 1), (284, .iadd, 1), (285, .iaload, 1), (286, .aload_n 0, 1), (287, .iload_n 3, 1), (288, .iconst 2, 1), (289, .iadd, 1), (290, .iaload, 1), (291, .aload_n 0, 1), (292, .iload_n 3, 1), (293, .iconst 3, 1)] = true := by decide +kernel
theorem dL_law_0 : decode cL_law 0 = .ok (.new 7, 3) := chkD_at okL_law_0 0 rfl
theorem dL_law_3 : decode cL_law 3 = .ok (.dup, 1) := chkD_at okL_law_0 1 rfl
theorem dL_law_4 : decode cL_law 4 = .ok (.invokespecial 9, 3) := chkD_at okL_law_0 2 rfl
theorem dL_law_7 : decode cL_law 7 = .ok (.astore_n 1, 1) := chkD_at okL_law_0 3 rfl
theorem dL_law_8 : decode cL_law 8 = .ok (.new 10, 3) := chkD_at okL_law_0 4 rfl
theorem dL_law_11 : decode cL_law 11 = .ok (.dup, 1) := chkD_at okL_law_0 5 rfl
theorem dL_law_12 : decode cL_law 12 = .ok (.invokespecial 12, 3) := chkD_at okL_law_0 6 rfl
theorem dL_law_15 : decode cL_law 15 = .ok (.astore_n 2, 1) := chkD_at okL_law_0 7 rfl
theorem dL_law_16 : decode cL_law 16 = .ok (.iconst 0, 1) := chkD_at okL_law_0 8 rfl
theorem dL_law_17 : decode cL_law 17 = .ok (.istore_n 3, 1) := chkD_at okL_law_0 9 rfl
theorem dL_law_18 : decode cL_law 18 = .ok (.iload_n 3, 1) := chkD_at okL_law_0 10 rfl
theorem dL_law_19 : decode cL_law 19 = .ok (.aload_n 0, 1) := chkD_at okL_law_0 11 rfl
theorem dL_law_20 : decode cL_law 20 = .ok (.arraylength, 1) := chkD_at okL_law_0 12 rfl
theorem dL_law_21 : decode cL_law 21 = .ok (.bipush 6, 2) := chkD_at okL_law_0 13 rfl
theorem dL_law_23 : decode cL_law 23 = .ok (.isub, 1) := chkD_at okL_law_0 14 rfl
theorem dL_law_24 : decode cL_law 24 = .ok (.if_icmp .gt 1485, 3) := chkD_at okL_law_0 15 rfl
theorem dL_law_27 : decode cL_law 27 = .ok (.aload_n 0, 1) := chkD_at okL_law_0 16 rfl
theorem dL_law_28 : decode cL_law 28 = .ok (.iload_n 3, 1) := chkD_at okL_law_0 17 rfl
theorem dL_law_29 : decode cL_law 29 = .ok (.iaload, 1) := chkD_at okL_law_0 18 rfl
theorem dL_law_30 : decode cL_law 30 = .ok (.bipush 63, 2) := chkD_at okL_law_0 19 rfl
theorem dL_law_32 : decode cL_law 32 = .ok (.iand, 1) := chkD_at okL_law_0 20 rfl
theorem dL_law_33 : decode cL_law 33 = .ok (.tableswitch 1470 0 43 #[191, 224, 247, 290, 339, 382, 415, 448, 481, 504, 527, 560, 593, 626, 659, 672, 705, 728, 741, 754, 777, 790, 823, 856, 889, 912, 935, 968, 1001, 1034, 1057, 1090, 1103, 1116, 1159, 1233, 1296, 1319, 1352, 1385, 1398, 1411, 1424, 1447], 191) := chkD_at okL_law_0 21 rfl
theorem dL_law_224 : decode cL_law 224 = .ok (.aload_n 1, 1) := chkD_at okL_law_0 22 rfl
theorem dL_law_225 : decode cL_law 225 = .ok (.aload_n 0, 1) := chkD_at okL_law_0 23 rfl
theorem dL_law_226 : decode cL_law 226 = .ok (.iload_n 3, 1) := chkD_at okL_law_0 24 rfl
theorem dL_law_227 : decode cL_law 227 = .ok (.iconst 1, 1) := chkD_at okL_law_0 25 rfl
theorem dL_law_228 : decode cL_law 228 = .ok (.iadd, 1) := chkD_at okL_law_0 26 rfl
theorem dL_law_229 : decode cL_law 229 = .ok (.iaload, 1) := chkD_at okL_law_0 27 rfl
theorem dL_law_230 : decode cL_law 230 = .ok (.aload_n 0, 1) := chkD_at okL_law_0 28 rfl
theorem dL_law_231 : decode cL_law 231 = .ok (.iload_n 3, 1) := chkD_at okL_law_0 29 rfl
theorem dL_law_232 : decode cL_law 232 = .ok (.iconst 2, 1) := chkD_at okL_law_0 30 rfl
theorem dL_law_233 : decode cL_law 233 = .ok (.iadd, 1) := chkD_at okL_law_0 31 rfl
theorem dL_law_234 : decode cL_law 234 = .ok (.iaload, 1) := chkD_at okL_law_0 32 rfl
theorem dL_law_235 : decode cL_law 235 = .ok (.invokevirtual 13, 3) := chkD_at okL_law_0 33 rfl
theorem dL_law_238 : decode cL_law 238 = .ok (.aload_n 2, 1) := chkD_at okL_law_0 34 rfl
theorem dL_law_239 : decode cL_law 239 = .ok (.aload_n 0, 1) := chkD_at okL_law_0 35 rfl
theorem dL_law_240 : decode cL_law 240 = .ok (.iload_n 3, 1) := chkD_at okL_law_0 36 rfl
theorem dL_law_241 : decode cL_law 241 = .ok (.iconst 1, 1) := chkD_at okL_law_0 37 rfl
theorem dL_law_242 : decode cL_law 242 = .ok (.iadd, 1) := chkD_at okL_law_0 38 rfl
theorem dL_law_243 : decode cL_law 243 = .ok (.iaload, 1) := chkD_at okL_law_0 39 rfl
theorem dL_law_244 : decode cL_law 244 = .ok (.aload_n 0, 1) := chkD_at okL_law_0 40 rfl
theorem dL_law_245 : decode cL_law 245 = .ok (.iload_n 3, 1) := chkD_at okL_law_0 41 rfl
theorem dL_law_246 : decode cL_law 246 = .ok (.iconst 2, 1) := chkD_at okL_law_0 42 rfl
theorem dL_law_247 : decode cL_law 247 = .ok (.iadd, 1) := chkD_at okL_law_0 43 rfl
theorem dL_law_248 : decode cL_law 248 = .ok (.iaload, 1) := chkD_at okL_law_0 44 rfl
theorem dL_law_249 : decode cL_law 249 = .ok (.invokevirtual 17, 3) := chkD_at okL_law_0 45 rfl
theorem dL_law_252 : decode cL_law 252 = .ok (.if_icmp .eq 1251, 3) := chkD_at okL_law_0 46 rfl
theorem dL_law_255 : decode cL_law 255 = .ok (.iconst 0, 1) := chkD_at okL_law_0 47 rfl
theorem dL_law_256 : decode cL_law 256 = .ok (.ireturn, 1) := chkD_at okL_law_0 48 rfl
theorem dL_law_257 : decode cL_law 257 = .ok (.aload_n 1, 1) := chkD_at okL_law_0 49 rfl
theorem dL_law_258 : decode cL_law 258 = .ok (.aload_n 0, 1) := chkD_at okL_law_0 50 rfl
theorem dL_law_259 : decode cL_law 259 = .ok (.iload_n 3, 1) := chkD_at okL_law_0 51 rfl
theorem dL_law_260 : decode cL_law 260 = .ok (.iconst 1, 1) := chkD_at okL_law_0 52 rfl
theorem dL_law_261 : decode cL_law 261 = .ok (.iadd, 1) := chkD_at okL_law_0 53 rfl
theorem dL_law_262 : decode cL_law 262 = .ok (.iaload, 1) := chkD_at okL_law_0 54 rfl
theorem dL_law_263 : decode cL_law 263 = .ok (.invokevirtual 18, 3) := chkD_at okL_law_0 55 rfl
theorem dL_law_266 : decode cL_law 266 = .ok (.aload_n 2, 1) := chkD_at okL_law_0 56 rfl
theorem dL_law_267 : decode cL_law 267 = .ok (.aload_n 0, 1) := chkD_at okL_law_0 57 rfl
theorem dL_law_268 : decode cL_law 268 = .ok (.iload_n 3, 1) := chkD_at okL_law_0 58 rfl
theorem dL_law_269 : decode cL_law 269 = .ok (.iconst 1, 1) := chkD_at okL_law_0 59 rfl
theorem dL_law_270 : decode cL_law 270 = .ok (.iadd, 1) := chkD_at okL_law_0 60 rfl
theorem dL_law_271 : decode cL_law 271 = .ok (.iaload, 1) := chkD_at okL_law_0 61 rfl
theorem dL_law_272 : decode cL_law 272 = .ok (.invokevirtual 22, 3) := chkD_at okL_law_0 62 rfl
theorem dL_law_275 : decode cL_law 275 = .ok (.if_icmp .eq 1228, 3) := chkD_at okL_law_0 63 rfl
theorem dL_law_278 : decode cL_law 278 = .ok (.iconst 0, 1) := chkD_at okL_law_0 64 rfl
theorem dL_law_279 : decode cL_law 279 = .ok (.ireturn, 1) := chkD_at okL_law_0 65 rfl
theorem dL_law_280 : decode cL_law 280 = .ok (.aload_n 1, 1) := chkD_at okL_law_0 66 rfl
theorem dL_law_281 : decode cL_law 281 = .ok (.aload_n 0, 1) := chkD_at okL_law_0 67 rfl
theorem dL_law_282 : decode cL_law 282 = .ok (.iload_n 3, 1) := chkD_at okL_law_0 68 rfl
theorem dL_law_283 : decode cL_law 283 = .ok (.iconst 1, 1) := chkD_at okL_law_0 69 rfl
theorem dL_law_284 : decode cL_law 284 = .ok (.iadd, 1) := chkD_at okL_law_0 70 rfl
theorem dL_law_285 : decode cL_law 285 = .ok (.iaload, 1) := chkD_at okL_law_0 71 rfl
theorem dL_law_286 : decode cL_law 286 = .ok (.aload_n 0, 1) := chkD_at okL_law_0 72 rfl
theorem dL_law_287 : decode cL_law 287 = .ok (.iload_n 3, 1) := chkD_at okL_law_0 73 rfl
theorem dL_law_288 : decode cL_law 288 = .ok (.iconst 2, 1) := chkD_at okL_law_0 74 rfl
theorem dL_law_289 : decode cL_law 289 = .ok (.iadd, 1) := chkD_at okL_law_0 75 rfl
theorem dL_law_290 : decode cL_law 290 = .ok (.iaload, 1) := chkD_at okL_law_0 76 rfl
theorem dL_law_291 : decode cL_law 291 = .ok (.aload_n 0, 1) := chkD_at okL_law_0 77 rfl
theorem dL_law_292 : decode cL_law 292 = .ok (.iload_n 3, 1) := chkD_at okL_law_0 78 rfl
theorem dL_law_293 : decode cL_law 293 = .ok (.iconst 3, 1) := chkD_at okL_law_0 79 rfl
theorem okL_law_1 : chkD cL_law [(294, .iadd, 1), (295, .iaload, 1), (296, .invokevirtual 23, 3), (299, .aload_n 2, 1), (300, .aload_n 0, 1), (301, .iload_n 3, 1), (302, .iconst 1, 1), (303, .iadd, 1), (304, .iaload, 1), (305, .aload_n 0, 1), (306, .iload_n 3, 1), (307, .iconst 2, 1), (308, .iadd, 1), (309, .iaload, 1), (310, .aload_n 0, 1), (311, .iload_n 3, 1), (312, .iconst 3, 1), (313, .iadd, 1), (314, .iaload, 1), (315, .invokevirtual 27, 3), (318, .if_icmp .eq 1185, 3), (321, .iconst 0, 1), (322, .ireturn, 1), (323, .aload_n 1, 1), (324, .aload_n 0, 1), (325, .iload_n 3, 1), (326, .iconst 1, 1), (327, .iadd, 1), (328, .iaload, 1), (329, .aload_n 0, 1), (330, .iload_n 3, 1), (331, .iconst 2, 1), (332, .iadd, 1), (333, .iaload, 1), (334, .ifCond .eq 7, 3), (337, .iconst 1, 1), (338, .goto 4, 3), (341, .iconst 0, 1), (342, .invokevirtual 28, 3), (345, .aload_n 2, 1), (346, .aload_n 0, 1), (347, .iload_n 3, 1), (348, .iconst 1, 1), (349, .iadd, 1), (350, .iaload, 1), (351, .aload_n 0, 1), (352, .iload_n 3, 1), (353, .iconst 2, 1), (354, .iadd, 1), (355, .iaload, 1), (356, .ifCond .eq 7, 3), (359, .iconst 1, 1), (360, .goto 4, 3), (363, .iconst 0, 1), (364, .invokevirtual 32, 3), (367, .if_icmp .eq 1136, 3), (370, .iconst 0, 1), (371, .ireturn, 1), (372, .aload_n 1, 1), (373, .aload_n 0, 1), (374, .iload_n 3, 1), (375, .iconst 1, 1), (376, .iadd, 1), (377, .iaload, 1), (378, .aload_n 0, 1), (379, .iload_n 3, 1), (380, .iconst 2, 1), (381, .iadd, 1), (382, .iaload, 1), (383, .aload_n 0, 1), (384, .iload_n 3, 1), (385, .iconst 3, 1), (386, .iadd, 1), (387, .iaload, 1), (388, .invokevirtual 33, 3), (391, .aload_n 2, 1), (392, .aload_n 0, 1), (393, .iload_n 3, 1), (394, .iconst 1, 1), (395, .iadd, 1)] = true := by decide +kernel
theorem dL_law_294 : decode cL_law 294 = .ok (.iadd, 1) := chkD_at okL_law_1 0 rfl
theorem dL_law_295 : decode cL_law 295 = .ok (.iaload, 1) := chkD_at okL_law_1 1 rfl
theorem dL_law_296 : decode cL_law 296 = .ok (.invokevirtual 23, 3) := chkD_at okL_law_1 2 rfl
theorem dL_law_299 : decode cL_law 299 = .ok (.aload_n 2, 1) := chkD_at okL_law_1 3 rfl
theorem dL_law_300 : decode cL_law 300 = .ok (.aload_n 0, 1) := chkD_at okL_law_1 4 rfl
theorem dL_law_301 : decode cL_law 301 = .ok (.iload_n 3, 1) := chkD_at okL_law_1 5 rfl
theorem dL_law_302 : decode cL_law 302 = .ok (.iconst 1, 1) := chkD_at okL_law_1 6 rfl
theorem dL_law_303 : decode cL_law 303 = .ok (.iadd, 1) := chkD_at okL_law_1 7 rfl
theorem dL_law_304 : decode cL_law 304 = .ok (.iaload, 1) := chkD_at okL_law_1 8 rfl
theorem dL_law_305 : decode cL_law 305 = .ok (.aload_n 0, 1) := chkD_at okL_law_1 9 rfl
theorem dL_law_306 : decode cL_law 306 = .ok (.iload_n 3, 1) := chkD_at okL_law_1 10 rfl
theorem dL_law_307 : decode cL_law 307 = .ok (.iconst 2, 1) := chkD_at okL_law_1 11 rfl
theorem dL_law_308 : decode cL_law 308 = .ok (.iadd, 1) := chkD_at okL_law_1 12 rfl
theorem dL_law_309 : decode cL_law 309 = .ok (.iaload, 1) := chkD_at okL_law_1 13 rfl
theorem dL_law_310 : decode cL_law 310 = .ok (.aload_n 0, 1) := chkD_at okL_law_1 14 rfl
theorem dL_law_311 : decode cL_law 311 = .ok (.iload_n 3, 1) := chkD_at okL_law_1 15 rfl
theorem dL_law_312 : decode cL_law 312 = .ok (.iconst 3, 1) := chkD_at okL_law_1 16 rfl
theorem dL_law_313 : decode cL_law 313 = .ok (.iadd, 1) := chkD_at okL_law_1 17 rfl
theorem dL_law_314 : decode cL_law 314 = .ok (.iaload, 1) := chkD_at okL_law_1 18 rfl
theorem dL_law_315 : decode cL_law 315 = .ok (.invokevirtual 27, 3) := chkD_at okL_law_1 19 rfl
theorem dL_law_318 : decode cL_law 318 = .ok (.if_icmp .eq 1185, 3) := chkD_at okL_law_1 20 rfl
theorem dL_law_321 : decode cL_law 321 = .ok (.iconst 0, 1) := chkD_at okL_law_1 21 rfl
theorem dL_law_322 : decode cL_law 322 = .ok (.ireturn, 1) := chkD_at okL_law_1 22 rfl
theorem dL_law_323 : decode cL_law 323 = .ok (.aload_n 1, 1) := chkD_at okL_law_1 23 rfl
theorem dL_law_324 : decode cL_law 324 = .ok (.aload_n 0, 1) := chkD_at okL_law_1 24 rfl
theorem dL_law_325 : decode cL_law 325 = .ok (.iload_n 3, 1) := chkD_at okL_law_1 25 rfl
theorem dL_law_326 : decode cL_law 326 = .ok (.iconst 1, 1) := chkD_at okL_law_1 26 rfl
theorem dL_law_327 : decode cL_law 327 = .ok (.iadd, 1) := chkD_at okL_law_1 27 rfl
theorem dL_law_328 : decode cL_law 328 = .ok (.iaload, 1) := chkD_at okL_law_1 28 rfl
theorem dL_law_329 : decode cL_law 329 = .ok (.aload_n 0, 1) := chkD_at okL_law_1 29 rfl
theorem dL_law_330 : decode cL_law 330 = .ok (.iload_n 3, 1) := chkD_at okL_law_1 30 rfl
theorem dL_law_331 : decode cL_law 331 = .ok (.iconst 2, 1) := chkD_at okL_law_1 31 rfl
theorem dL_law_332 : decode cL_law 332 = .ok (.iadd, 1) := chkD_at okL_law_1 32 rfl
theorem dL_law_333 : decode cL_law 333 = .ok (.iaload, 1) := chkD_at okL_law_1 33 rfl
theorem dL_law_334 : decode cL_law 334 = .ok (.ifCond .eq 7, 3) := chkD_at okL_law_1 34 rfl
theorem dL_law_337 : decode cL_law 337 = .ok (.iconst 1, 1) := chkD_at okL_law_1 35 rfl
theorem dL_law_338 : decode cL_law 338 = .ok (.goto 4, 3) := chkD_at okL_law_1 36 rfl
theorem dL_law_341 : decode cL_law 341 = .ok (.iconst 0, 1) := chkD_at okL_law_1 37 rfl
theorem dL_law_342 : decode cL_law 342 = .ok (.invokevirtual 28, 3) := chkD_at okL_law_1 38 rfl
theorem dL_law_345 : decode cL_law 345 = .ok (.aload_n 2, 1) := chkD_at okL_law_1 39 rfl
theorem dL_law_346 : decode cL_law 346 = .ok (.aload_n 0, 1) := chkD_at okL_law_1 40 rfl
theorem dL_law_347 : decode cL_law 347 = .ok (.iload_n 3, 1) := chkD_at okL_law_1 41 rfl
theorem dL_law_348 : decode cL_law 348 = .ok (.iconst 1, 1) := chkD_at okL_law_1 42 rfl
theorem dL_law_349 : decode cL_law 349 = .ok (.iadd, 1) := chkD_at okL_law_1 43 rfl
theorem dL_law_350 : decode cL_law 350 = .ok (.iaload, 1) := chkD_at okL_law_1 44 rfl
theorem dL_law_351 : decode cL_law 351 = .ok (.aload_n 0, 1) := chkD_at okL_law_1 45 rfl
theorem dL_law_352 : decode cL_law 352 = .ok (.iload_n 3, 1) := chkD_at okL_law_1 46 rfl
theorem dL_law_353 : decode cL_law 353 = .ok (.iconst 2, 1) := chkD_at okL_law_1 47 rfl
theorem dL_law_354 : decode cL_law 354 = .ok (.iadd, 1) := chkD_at okL_law_1 48 rfl
theorem dL_law_355 : decode cL_law 355 = .ok (.iaload, 1) := chkD_at okL_law_1 49 rfl
theorem dL_law_356 : decode cL_law 356 = .ok (.ifCond .eq 7, 3) := chkD_at okL_law_1 50 rfl
theorem dL_law_359 : decode cL_law 359 = .ok (.iconst 1, 1) := chkD_at okL_law_1 51 rfl
theorem dL_law_360 : decode cL_law 360 = .ok (.goto 4, 3) := chkD_at okL_law_1 52 rfl
theorem dL_law_363 : decode cL_law 363 = .ok (.iconst 0, 1) := chkD_at okL_law_1 53 rfl
theorem dL_law_364 : decode cL_law 364 = .ok (.invokevirtual 32, 3) := chkD_at okL_law_1 54 rfl
theorem dL_law_367 : decode cL_law 367 = .ok (.if_icmp .eq 1136, 3) := chkD_at okL_law_1 55 rfl
theorem dL_law_370 : decode cL_law 370 = .ok (.iconst 0, 1) := chkD_at okL_law_1 56 rfl
theorem dL_law_371 : decode cL_law 371 = .ok (.ireturn, 1) := chkD_at okL_law_1 57 rfl
theorem dL_law_372 : decode cL_law 372 = .ok (.aload_n 1, 1) := chkD_at okL_law_1 58 rfl
theorem dL_law_373 : decode cL_law 373 = .ok (.aload_n 0, 1) := chkD_at okL_law_1 59 rfl
theorem dL_law_374 : decode cL_law 374 = .ok (.iload_n 3, 1) := chkD_at okL_law_1 60 rfl
theorem dL_law_375 : decode cL_law 375 = .ok (.iconst 1, 1) := chkD_at okL_law_1 61 rfl
theorem dL_law_376 : decode cL_law 376 = .ok (.iadd, 1) := chkD_at okL_law_1 62 rfl
theorem dL_law_377 : decode cL_law 377 = .ok (.iaload, 1) := chkD_at okL_law_1 63 rfl
theorem dL_law_378 : decode cL_law 378 = .ok (.aload_n 0, 1) := chkD_at okL_law_1 64 rfl
theorem dL_law_379 : decode cL_law 379 = .ok (.iload_n 3, 1) := chkD_at okL_law_1 65 rfl
theorem dL_law_380 : decode cL_law 380 = .ok (.iconst 2, 1) := chkD_at okL_law_1 66 rfl
theorem dL_law_381 : decode cL_law 381 = .ok (.iadd, 1) := chkD_at okL_law_1 67 rfl
theorem dL_law_382 : decode cL_law 382 = .ok (.iaload, 1) := chkD_at okL_law_1 68 rfl
theorem dL_law_383 : decode cL_law 383 = .ok (.aload_n 0, 1) := chkD_at okL_law_1 69 rfl
theorem dL_law_384 : decode cL_law 384 = .ok (.iload_n 3, 1) := chkD_at okL_law_1 70 rfl
theorem dL_law_385 : decode cL_law 385 = .ok (.iconst 3, 1) := chkD_at okL_law_1 71 rfl
theorem dL_law_386 : decode cL_law 386 = .ok (.iadd, 1) := chkD_at okL_law_1 72 rfl
theorem dL_law_387 : decode cL_law 387 = .ok (.iaload, 1) := chkD_at okL_law_1 73 rfl
theorem dL_law_388 : decode cL_law 388 = .ok (.invokevirtual 33, 3) := chkD_at okL_law_1 74 rfl
theorem dL_law_391 : decode cL_law 391 = .ok (.aload_n 2, 1) := chkD_at okL_law_1 75 rfl
theorem dL_law_392 : decode cL_law 392 = .ok (.aload_n 0, 1) := chkD_at okL_law_1 76 rfl
theorem dL_law_393 : decode cL_law 393 = .ok (.iload_n 3, 1) := chkD_at okL_law_1 77 rfl
theorem dL_law_394 : decode cL_law 394 = .ok (.iconst 1, 1) := chkD_at okL_law_1 78 rfl
theorem dL_law_395 : decode cL_law 395 = .ok (.iadd, 1) := chkD_at okL_law_1 79 rfl
theorem okL_law_2 : chkD cL_law [(396, .iaload, 1), (397, .aload_n 0, 1), (398, .iload_n 3, 1), (399, .iconst 2, 1), (400, .iadd, 1), (401, .iaload, 1), (402, .aload_n 0, 1), (403, .iload_n 3, 1), (404, .iconst 3, 1), (405, .iadd, 1), (406, .iaload, 1), (407, .invokevirtual 36, 3), (410, .if_icmp .eq 1093, 3), (413, .iconst 0, 1), (414, .ireturn, 1), (415, .aload_n 1, 1), (416, .aload_n 0, 1), (417, .iload_n 3, 1), (418, .iconst 1, 1), (419, .iadd, 1), (420, .iaload, 1), (421, .aload_n 0, 1), (422, .iload_n 3, 1), (423, .iconst 2, 1), (424, .iadd, 1), (425, .iaload, 1), (426, .invokevirtual 37, 3), (429, .aload_n 2, 1), (430, .aload_n 0, 1), (431, .iload_n 3, 1), (432, .iconst 1, 1), (433, .iadd, 1), (434, .iaload, 1), (435, .aload_n 0, 1), (436, .iload_n 3, 1), (437, .iconst 2, 1), (438, .iadd, 1), (439, .iaload, 1), (440, .invokevirtual 40, 3), (443, .if_icmp .eq 1060, 3), (446, .iconst 0, 1), (447, .ireturn, 1), (448, .aload_n 1, 1), (449, .aload_n 0, 1), (450, .iload_n 3, 1), (451, .iconst 1, 1), (452, .iadd, 1), (453, .iaload, 1), (454, .aload_n 0, 1), (455, .iload_n 3, 1), (456, .iconst 2, 1), (457, .iadd, 1), (458, .iaload, 1), (459, .invokevirtual 41, 3), (462, .aload_n 2, 1), (463, .aload_n 0, 1), (464, .iload_n 3, 1), (465, .iconst 1, 1), (466, .iadd, 1), (467, .iaload, 1), (468, .aload_n 0, 1), (469, .iload_n 3, 1), (470, .iconst 2, 1), (471, .iadd, 1), (472, .iaload, 1), (473, .invokevirtual 44, 3), (476, .if_icmp .eq 1027, 3), (479, .iconst 0, 1), (480, .ireturn, 1), (481, .aload_n 1, 1), (482, .aload_n 0, 1), (483, .iload_n 3, 1), (484, .iconst 1, 1), (485, .iadd, 1), (486, .iaload, 1), (487, .aload_n 0, 1), (488, .iload_n 3, 1), (489, .iconst 2, 1), (490, .iadd, 1), (491, .iaload, 1)] = true := by decide +kernel
theorem dL_law_396 : decode cL_law 396 = .ok (.iaload, 1) := chkD_at okL_law_2 0 rfl
theorem dL_law_397 : decode cL_law 397 = .ok (.aload_n 0, 1) := chkD_at okL_law_2 1 rfl
theorem dL_law_398 : decode cL_law 398 = .ok (.iload_n 3, 1) := chkD_at okL_law_2 2 rfl
theorem dL_law_399 : decode cL_law 399 = .ok (.iconst 2, 1) := chkD_at okL_law_2 3 rfl
theorem dL_law_400 : decode cL_law 400 = .ok (.iadd, 1) := chkD_at okL_law_2 4 rfl
theorem dL_law_401 : decode cL_law 401 = .ok (.iaload, 1) := chkD_at okL_law_2 5 rfl
theorem dL_law_402 : decode cL_law 402 = .ok (.aload_n 0, 1) := chkD_at okL_law_2 6 rfl
theorem dL_law_403 : decode cL_law 403 = .ok (.iload_n 3, 1) := chkD_at okL_law_2 7 rfl
theorem dL_law_404 : decode cL_law 404 = .ok (.iconst 3, 1) := chkD_at okL_law_2 8 rfl
theorem dL_law_405 : decode cL_law 405 = .ok (.iadd, 1) := chkD_at okL_law_2 9 rfl
theorem dL_law_406 : decode cL_law 406 = .ok (.iaload, 1) := chkD_at okL_law_2 10 rfl
theorem dL_law_407 : decode cL_law 407 = .ok (.invokevirtual 36, 3) := chkD_at okL_law_2 11 rfl
theorem dL_law_410 : decode cL_law 410 = .ok (.if_icmp .eq 1093, 3) := chkD_at okL_law_2 12 rfl
theorem dL_law_413 : decode cL_law 413 = .ok (.iconst 0, 1) := chkD_at okL_law_2 13 rfl
theorem dL_law_414 : decode cL_law 414 = .ok (.ireturn, 1) := chkD_at okL_law_2 14 rfl
theorem dL_law_415 : decode cL_law 415 = .ok (.aload_n 1, 1) := chkD_at okL_law_2 15 rfl
theorem dL_law_416 : decode cL_law 416 = .ok (.aload_n 0, 1) := chkD_at okL_law_2 16 rfl
theorem dL_law_417 : decode cL_law 417 = .ok (.iload_n 3, 1) := chkD_at okL_law_2 17 rfl
theorem dL_law_418 : decode cL_law 418 = .ok (.iconst 1, 1) := chkD_at okL_law_2 18 rfl
theorem dL_law_419 : decode cL_law 419 = .ok (.iadd, 1) := chkD_at okL_law_2 19 rfl
theorem dL_law_420 : decode cL_law 420 = .ok (.iaload, 1) := chkD_at okL_law_2 20 rfl
theorem dL_law_421 : decode cL_law 421 = .ok (.aload_n 0, 1) := chkD_at okL_law_2 21 rfl
theorem dL_law_422 : decode cL_law 422 = .ok (.iload_n 3, 1) := chkD_at okL_law_2 22 rfl
theorem dL_law_423 : decode cL_law 423 = .ok (.iconst 2, 1) := chkD_at okL_law_2 23 rfl
theorem dL_law_424 : decode cL_law 424 = .ok (.iadd, 1) := chkD_at okL_law_2 24 rfl
theorem dL_law_425 : decode cL_law 425 = .ok (.iaload, 1) := chkD_at okL_law_2 25 rfl
theorem dL_law_426 : decode cL_law 426 = .ok (.invokevirtual 37, 3) := chkD_at okL_law_2 26 rfl
theorem dL_law_429 : decode cL_law 429 = .ok (.aload_n 2, 1) := chkD_at okL_law_2 27 rfl
theorem dL_law_430 : decode cL_law 430 = .ok (.aload_n 0, 1) := chkD_at okL_law_2 28 rfl
theorem dL_law_431 : decode cL_law 431 = .ok (.iload_n 3, 1) := chkD_at okL_law_2 29 rfl
theorem dL_law_432 : decode cL_law 432 = .ok (.iconst 1, 1) := chkD_at okL_law_2 30 rfl
theorem dL_law_433 : decode cL_law 433 = .ok (.iadd, 1) := chkD_at okL_law_2 31 rfl
theorem dL_law_434 : decode cL_law 434 = .ok (.iaload, 1) := chkD_at okL_law_2 32 rfl
theorem dL_law_435 : decode cL_law 435 = .ok (.aload_n 0, 1) := chkD_at okL_law_2 33 rfl
theorem dL_law_436 : decode cL_law 436 = .ok (.iload_n 3, 1) := chkD_at okL_law_2 34 rfl
theorem dL_law_437 : decode cL_law 437 = .ok (.iconst 2, 1) := chkD_at okL_law_2 35 rfl
theorem dL_law_438 : decode cL_law 438 = .ok (.iadd, 1) := chkD_at okL_law_2 36 rfl
theorem dL_law_439 : decode cL_law 439 = .ok (.iaload, 1) := chkD_at okL_law_2 37 rfl
theorem dL_law_440 : decode cL_law 440 = .ok (.invokevirtual 40, 3) := chkD_at okL_law_2 38 rfl
theorem dL_law_443 : decode cL_law 443 = .ok (.if_icmp .eq 1060, 3) := chkD_at okL_law_2 39 rfl
theorem dL_law_446 : decode cL_law 446 = .ok (.iconst 0, 1) := chkD_at okL_law_2 40 rfl
theorem dL_law_447 : decode cL_law 447 = .ok (.ireturn, 1) := chkD_at okL_law_2 41 rfl
theorem dL_law_448 : decode cL_law 448 = .ok (.aload_n 1, 1) := chkD_at okL_law_2 42 rfl
theorem dL_law_449 : decode cL_law 449 = .ok (.aload_n 0, 1) := chkD_at okL_law_2 43 rfl
theorem dL_law_450 : decode cL_law 450 = .ok (.iload_n 3, 1) := chkD_at okL_law_2 44 rfl
theorem dL_law_451 : decode cL_law 451 = .ok (.iconst 1, 1) := chkD_at okL_law_2 45 rfl
theorem dL_law_452 : decode cL_law 452 = .ok (.iadd, 1) := chkD_at okL_law_2 46 rfl
theorem dL_law_453 : decode cL_law 453 = .ok (.iaload, 1) := chkD_at okL_law_2 47 rfl
theorem dL_law_454 : decode cL_law 454 = .ok (.aload_n 0, 1) := chkD_at okL_law_2 48 rfl
theorem dL_law_455 : decode cL_law 455 = .ok (.iload_n 3, 1) := chkD_at okL_law_2 49 rfl
theorem dL_law_456 : decode cL_law 456 = .ok (.iconst 2, 1) := chkD_at okL_law_2 50 rfl
theorem dL_law_457 : decode cL_law 457 = .ok (.iadd, 1) := chkD_at okL_law_2 51 rfl
theorem dL_law_458 : decode cL_law 458 = .ok (.iaload, 1) := chkD_at okL_law_2 52 rfl
theorem dL_law_459 : decode cL_law 459 = .ok (.invokevirtual 41, 3) := chkD_at okL_law_2 53 rfl
theorem dL_law_462 : decode cL_law 462 = .ok (.aload_n 2, 1) := chkD_at okL_law_2 54 rfl
theorem dL_law_463 : decode cL_law 463 = .ok (.aload_n 0, 1) := chkD_at okL_law_2 55 rfl
theorem dL_law_464 : decode cL_law 464 = .ok (.iload_n 3, 1) := chkD_at okL_law_2 56 rfl
theorem dL_law_465 : decode cL_law 465 = .ok (.iconst 1, 1) := chkD_at okL_law_2 57 rfl
theorem dL_law_466 : decode cL_law 466 = .ok (.iadd, 1) := chkD_at okL_law_2 58 rfl
theorem dL_law_467 : decode cL_law 467 = .ok (.iaload, 1) := chkD_at okL_law_2 59 rfl
theorem dL_law_468 : decode cL_law 468 = .ok (.aload_n 0, 1) := chkD_at okL_law_2 60 rfl
theorem dL_law_469 : decode cL_law 469 = .ok (.iload_n 3, 1) := chkD_at okL_law_2 61 rfl
theorem dL_law_470 : decode cL_law 470 = .ok (.iconst 2, 1) := chkD_at okL_law_2 62 rfl
theorem dL_law_471 : decode cL_law 471 = .ok (.iadd, 1) := chkD_at okL_law_2 63 rfl
theorem dL_law_472 : decode cL_law 472 = .ok (.iaload, 1) := chkD_at okL_law_2 64 rfl
theorem dL_law_473 : decode cL_law 473 = .ok (.invokevirtual 44, 3) := chkD_at okL_law_2 65 rfl
theorem dL_law_476 : decode cL_law 476 = .ok (.if_icmp .eq 1027, 3) := chkD_at okL_law_2 66 rfl
theorem dL_law_479 : decode cL_law 479 = .ok (.iconst 0, 1) := chkD_at okL_law_2 67 rfl
theorem dL_law_480 : decode cL_law 480 = .ok (.ireturn, 1) := chkD_at okL_law_2 68 rfl
theorem dL_law_481 : decode cL_law 481 = .ok (.aload_n 1, 1) := chkD_at okL_law_2 69 rfl
theorem dL_law_482 : decode cL_law 482 = .ok (.aload_n 0, 1) := chkD_at okL_law_2 70 rfl
theorem dL_law_483 : decode cL_law 483 = .ok (.iload_n 3, 1) := chkD_at okL_law_2 71 rfl
theorem dL_law_484 : decode cL_law 484 = .ok (.iconst 1, 1) := chkD_at okL_law_2 72 rfl
theorem dL_law_485 : decode cL_law 485 = .ok (.iadd, 1) := chkD_at okL_law_2 73 rfl
theorem dL_law_486 : decode cL_law 486 = .ok (.iaload, 1) := chkD_at okL_law_2 74 rfl
theorem dL_law_487 : decode cL_law 487 = .ok (.aload_n 0, 1) := chkD_at okL_law_2 75 rfl
theorem dL_law_488 : decode cL_law 488 = .ok (.iload_n 3, 1) := chkD_at okL_law_2 76 rfl
theorem dL_law_489 : decode cL_law 489 = .ok (.iconst 2, 1) := chkD_at okL_law_2 77 rfl
theorem dL_law_490 : decode cL_law 490 = .ok (.iadd, 1) := chkD_at okL_law_2 78 rfl
theorem dL_law_491 : decode cL_law 491 = .ok (.iaload, 1) := chkD_at okL_law_2 79 rfl
theorem okL_law_3 : chkD cL_law [(492, .invokevirtual 45, 3), (495, .aload_n 2, 1), (496, .aload_n 0, 1), (497, .iload_n 3, 1), (498, .iconst 1, 1), (499, .iadd, 1), (500, .iaload, 1), (501, .aload_n 0, 1), (502, .iload_n 3, 1), (503, .iconst 2, 1), (504, .iadd, 1), (505, .iaload, 1), (506, .invokevirtual 48, 3), (509, .if_icmp .eq 994, 3), (512, .iconst 0, 1), (513, .ireturn, 1), (514, .aload_n 1, 1), (515, .aload_n 0, 1), (516, .iload_n 3, 1), (517, .iconst 1, 1), (518, .iadd, 1), (519, .iaload, 1), (520, .invokevirtual 49, 3), (523, .aload_n 2, 1), (524, .aload_n 0, 1), (525, .iload_n 3, 1), (526, .iconst 1, 1), (527, .iadd, 1), (528, .iaload, 1), (529, .invokevirtual 52, 3), (532, .if_icmp .eq 971, 3), (535, .iconst 0, 1), (536, .ireturn, 1), (537, .aload_n 1, 1), (538, .aload_n 0, 1), (539, .iload_n 3, 1), (540, .iconst 1, 1), (541, .iadd, 1), (542, .iaload, 1), (543, .invokevirtual 53, 3), (546, .aload_n 2, 1), (547, .aload_n 0, 1), (548, .iload_n 3, 1), (549, .iconst 1, 1), (550, .iadd, 1), (551, .iaload, 1), (552, .invokevirtual 56, 3), (555, .if_icmp .eq 948, 3), (558, .iconst 0, 1), (559, .ireturn, 1), (560, .aload_n 1, 1), (561, .aload_n 0, 1), (562, .iload_n 3, 1), (563, .iconst 1, 1), (564, .iadd, 1), (565, .iaload, 1), (566, .aload_n 0, 1), (567, .iload_n 3, 1), (568, .iconst 2, 1), (569, .iadd, 1), (570, .iaload, 1), (571, .invokevirtual 57, 3), (574, .aload_n 2, 1), (575, .aload_n 0, 1), (576, .iload_n 3, 1), (577, .iconst 1, 1), (578, .iadd, 1), (579, .iaload, 1), (580, .aload_n 0, 1), (581, .iload_n 3, 1), (582, .iconst 2, 1), (583, .iadd, 1), (584, .iaload, 1), (585, .invokevirtual 60, 3), (588, .if_icmp .eq 915, 3), (591, .iconst 0, 1), (592, .ireturn, 1), (593, .aload_n 1, 1), (594, .aload_n 0, 1), (595, .iload_n 3, 1)] = true := by decide +kernel
theorem dL_law_492 : decode cL_law 492 = .ok (.invokevirtual 45, 3) := chkD_at okL_law_3 0 rfl
theorem dL_law_495 : decode cL_law 495 = .ok (.aload_n 2, 1) := chkD_at okL_law_3 1 rfl
theorem dL_law_496 : decode cL_law 496 = .ok (.aload_n 0, 1) := chkD_at okL_law_3 2 rfl
theorem dL_law_497 : decode cL_law 497 = .ok (.iload_n 3, 1) := chkD_at okL_law_3 3 rfl
theorem dL_law_498 : decode cL_law 498 = .ok (.iconst 1, 1) := chkD_at okL_law_3 4 rfl
theorem dL_law_499 : decode cL_law 499 = .ok (.iadd, 1) := chkD_at okL_law_3 5 rfl
theorem dL_law_500 : decode cL_law 500 = .ok (.iaload, 1) := chkD_at okL_law_3 6 rfl
theorem dL_law_501 : decode cL_law 501 = .ok (.aload_n 0, 1) := chkD_at okL_law_3 7 rfl
theorem dL_law_502 : decode cL_law 502 = .ok (.iload_n 3, 1) := chkD_at okL_law_3 8 rfl
theorem dL_law_503 : decode cL_law 503 = .ok (.iconst 2, 1) := chkD_at okL_law_3 9 rfl
theorem dL_law_504 : decode cL_law 504 = .ok (.iadd, 1) := chkD_at okL_law_3 10 rfl
theorem dL_law_505 : decode cL_law 505 = .ok (.iaload, 1) := chkD_at okL_law_3 11 rfl
theorem dL_law_506 : decode cL_law 506 = .ok (.invokevirtual 48, 3) := chkD_at okL_law_3 12 rfl
theorem dL_law_509 : decode cL_law 509 = .ok (.if_icmp .eq 994, 3) := chkD_at okL_law_3 13 rfl
theorem dL_law_512 : decode cL_law 512 = .ok (.iconst 0, 1) := chkD_at okL_law_3 14 rfl
theorem dL_law_513 : decode cL_law 513 = .ok (.ireturn, 1) := chkD_at okL_law_3 15 rfl
theorem dL_law_514 : decode cL_law 514 = .ok (.aload_n 1, 1) := chkD_at okL_law_3 16 rfl
theorem dL_law_515 : decode cL_law 515 = .ok (.aload_n 0, 1) := chkD_at okL_law_3 17 rfl
theorem dL_law_516 : decode cL_law 516 = .ok (.iload_n 3, 1) := chkD_at okL_law_3 18 rfl
theorem dL_law_517 : decode cL_law 517 = .ok (.iconst 1, 1) := chkD_at okL_law_3 19 rfl
theorem dL_law_518 : decode cL_law 518 = .ok (.iadd, 1) := chkD_at okL_law_3 20 rfl
theorem dL_law_519 : decode cL_law 519 = .ok (.iaload, 1) := chkD_at okL_law_3 21 rfl
theorem dL_law_520 : decode cL_law 520 = .ok (.invokevirtual 49, 3) := chkD_at okL_law_3 22 rfl
theorem dL_law_523 : decode cL_law 523 = .ok (.aload_n 2, 1) := chkD_at okL_law_3 23 rfl
theorem dL_law_524 : decode cL_law 524 = .ok (.aload_n 0, 1) := chkD_at okL_law_3 24 rfl
theorem dL_law_525 : decode cL_law 525 = .ok (.iload_n 3, 1) := chkD_at okL_law_3 25 rfl
theorem dL_law_526 : decode cL_law 526 = .ok (.iconst 1, 1) := chkD_at okL_law_3 26 rfl
theorem dL_law_527 : decode cL_law 527 = .ok (.iadd, 1) := chkD_at okL_law_3 27 rfl
theorem dL_law_528 : decode cL_law 528 = .ok (.iaload, 1) := chkD_at okL_law_3 28 rfl
theorem dL_law_529 : decode cL_law 529 = .ok (.invokevirtual 52, 3) := chkD_at okL_law_3 29 rfl
theorem dL_law_532 : decode cL_law 532 = .ok (.if_icmp .eq 971, 3) := chkD_at okL_law_3 30 rfl
theorem dL_law_535 : decode cL_law 535 = .ok (.iconst 0, 1) := chkD_at okL_law_3 31 rfl
theorem dL_law_536 : decode cL_law 536 = .ok (.ireturn, 1) := chkD_at okL_law_3 32 rfl
theorem dL_law_537 : decode cL_law 537 = .ok (.aload_n 1, 1) := chkD_at okL_law_3 33 rfl
theorem dL_law_538 : decode cL_law 538 = .ok (.aload_n 0, 1) := chkD_at okL_law_3 34 rfl
theorem dL_law_539 : decode cL_law 539 = .ok (.iload_n 3, 1) := chkD_at okL_law_3 35 rfl
theorem dL_law_540 : decode cL_law 540 = .ok (.iconst 1, 1) := chkD_at okL_law_3 36 rfl
theorem dL_law_541 : decode cL_law 541 = .ok (.iadd, 1) := chkD_at okL_law_3 37 rfl
theorem dL_law_542 : decode cL_law 542 = .ok (.iaload, 1) := chkD_at okL_law_3 38 rfl
theorem dL_law_543 : decode cL_law 543 = .ok (.invokevirtual 53, 3) := chkD_at okL_law_3 39 rfl
theorem dL_law_546 : decode cL_law 546 = .ok (.aload_n 2, 1) := chkD_at okL_law_3 40 rfl
theorem dL_law_547 : decode cL_law 547 = .ok (.aload_n 0, 1) := chkD_at okL_law_3 41 rfl
theorem dL_law_548 : decode cL_law 548 = .ok (.iload_n 3, 1) := chkD_at okL_law_3 42 rfl
theorem dL_law_549 : decode cL_law 549 = .ok (.iconst 1, 1) := chkD_at okL_law_3 43 rfl
theorem dL_law_550 : decode cL_law 550 = .ok (.iadd, 1) := chkD_at okL_law_3 44 rfl
theorem dL_law_551 : decode cL_law 551 = .ok (.iaload, 1) := chkD_at okL_law_3 45 rfl
theorem dL_law_552 : decode cL_law 552 = .ok (.invokevirtual 56, 3) := chkD_at okL_law_3 46 rfl
theorem dL_law_555 : decode cL_law 555 = .ok (.if_icmp .eq 948, 3) := chkD_at okL_law_3 47 rfl
theorem dL_law_558 : decode cL_law 558 = .ok (.iconst 0, 1) := chkD_at okL_law_3 48 rfl
theorem dL_law_559 : decode cL_law 559 = .ok (.ireturn, 1) := chkD_at okL_law_3 49 rfl
theorem dL_law_560 : decode cL_law 560 = .ok (.aload_n 1, 1) := chkD_at okL_law_3 50 rfl
theorem dL_law_561 : decode cL_law 561 = .ok (.aload_n 0, 1) := chkD_at okL_law_3 51 rfl
theorem dL_law_562 : decode cL_law 562 = .ok (.iload_n 3, 1) := chkD_at okL_law_3 52 rfl
theorem dL_law_563 : decode cL_law 563 = .ok (.iconst 1, 1) := chkD_at okL_law_3 53 rfl
theorem dL_law_564 : decode cL_law 564 = .ok (.iadd, 1) := chkD_at okL_law_3 54 rfl
theorem dL_law_565 : decode cL_law 565 = .ok (.iaload, 1) := chkD_at okL_law_3 55 rfl
theorem dL_law_566 : decode cL_law 566 = .ok (.aload_n 0, 1) := chkD_at okL_law_3 56 rfl
theorem dL_law_567 : decode cL_law 567 = .ok (.iload_n 3, 1) := chkD_at okL_law_3 57 rfl
theorem dL_law_568 : decode cL_law 568 = .ok (.iconst 2, 1) := chkD_at okL_law_3 58 rfl
theorem dL_law_569 : decode cL_law 569 = .ok (.iadd, 1) := chkD_at okL_law_3 59 rfl
theorem dL_law_570 : decode cL_law 570 = .ok (.iaload, 1) := chkD_at okL_law_3 60 rfl
theorem dL_law_571 : decode cL_law 571 = .ok (.invokevirtual 57, 3) := chkD_at okL_law_3 61 rfl
theorem dL_law_574 : decode cL_law 574 = .ok (.aload_n 2, 1) := chkD_at okL_law_3 62 rfl
theorem dL_law_575 : decode cL_law 575 = .ok (.aload_n 0, 1) := chkD_at okL_law_3 63 rfl
theorem dL_law_576 : decode cL_law 576 = .ok (.iload_n 3, 1) := chkD_at okL_law_3 64 rfl
theorem dL_law_577 : decode cL_law 577 = .ok (.iconst 1, 1) := chkD_at okL_law_3 65 rfl
theorem dL_law_578 : decode cL_law 578 = .ok (.iadd, 1) := chkD_at okL_law_3 66 rfl
theorem dL_law_579 : decode cL_law 579 = .ok (.iaload, 1) := chkD_at okL_law_3 67 rfl
theorem dL_law_580 : decode cL_law 580 = .ok (.aload_n 0, 1) := chkD_at okL_law_3 68 rfl
theorem dL_law_581 : decode cL_law 581 = .ok (.iload_n 3, 1) := chkD_at okL_law_3 69 rfl
theorem dL_law_582 : decode cL_law 582 = .ok (.iconst 2, 1) := chkD_at okL_law_3 70 rfl
theorem dL_law_583 : decode cL_law 583 = .ok (.iadd, 1) := chkD_at okL_law_3 71 rfl
theorem dL_law_584 : decode cL_law 584 = .ok (.iaload, 1) := chkD_at okL_law_3 72 rfl
theorem dL_law_585 : decode cL_law 585 = .ok (.invokevirtual 60, 3) := chkD_at okL_law_3 73 rfl
theorem dL_law_588 : decode cL_law 588 = .ok (.if_icmp .eq 915, 3) := chkD_at okL_law_3 74 rfl
theorem dL_law_591 : decode cL_law 591 = .ok (.iconst 0, 1) := chkD_at okL_law_3 75 rfl
theorem dL_law_592 : decode cL_law 592 = .ok (.ireturn, 1) := chkD_at okL_law_3 76 rfl
theorem dL_law_593 : decode cL_law 593 = .ok (.aload_n 1, 1) := chkD_at okL_law_3 77 rfl
theorem dL_law_594 : decode cL_law 594 = .ok (.aload_n 0, 1) := chkD_at okL_law_3 78 rfl
theorem dL_law_595 : decode cL_law 595 = .ok (.iload_n 3, 1) := chkD_at okL_law_3 79 rfl
theorem okL_law_4 : chkD cL_law [(596, .iconst 1, 1), (597, .iadd, 1), (598, .iaload, 1), (599, .aload_n 0, 1), (600, .iload_n 3, 1), (601, .iconst 2, 1), (602, .iadd, 1), (603, .iaload, 1), (604, .invokevirtual 61, 3), (607, .aload_n 2, 1), (608, .aload_n 0, 1), (609, .iload_n 3, 1), (610, .iconst 1, 1), (611, .iadd, 1), (612, .iaload, 1), (613, .aload_n 0, 1), (614, .iload_n 3, 1), (615, .iconst 2, 1), (616, .iadd, 1), (617, .iaload, 1), (618, .invokevirtual 64, 3), (621, .if_icmp .eq 882, 3), (624, .iconst 0, 1), (625, .ireturn, 1), (626, .aload_n 1, 1), (627, .aload_n 0, 1), (628, .iload_n 3, 1), (629, .iconst 1, 1), (630, .iadd, 1), (631, .iaload, 1), (632, .aload_n 0, 1), (633, .iload_n 3, 1), (634, .iconst 2, 1), (635, .iadd, 1), (636, .iaload, 1), (637, .invokevirtual 65, 3), (640, .aload_n 2, 1), (641, .aload_n 0, 1), (642, .iload_n 3, 1), (643, .iconst 1, 1), (644, .iadd, 1), (645, .iaload, 1), (646, .aload_n 0, 1), (647, .iload_n 3, 1), (648, .iconst 2, 1), (649, .iadd, 1), (650, .iaload, 1), (651, .invokevirtual 68, 3), (654, .if_icmp .eq 849, 3), (657, .iconst 0, 1), (658, .ireturn, 1), (659, .aload_n 1, 1), (660, .aload_n 0, 1), (661, .iload_n 3, 1), (662, .iconst 1, 1), (663, .iadd, 1), (664, .iaload, 1), (665, .aload_n 0, 1), (666, .iload_n 3, 1), (667, .iconst 2, 1), (668, .iadd, 1), (669, .iaload, 1), (670, .invokevirtual 69, 3), (673, .aload_n 2, 1), (674, .aload_n 0, 1), (675, .iload_n 3, 1), (676, .iconst 1, 1), (677, .iadd, 1), (678, .iaload, 1), (679, .aload_n 0, 1), (680, .iload_n 3, 1), (681, .iconst 2, 1), (682, .iadd, 1), (683, .iaload, 1), (684, .invokevirtual 72, 3), (687, .if_icmp .eq 816, 3), (690, .iconst 0, 1), (691, .ireturn, 1), (692, .aload_n 1, 1), (693, .invokevirtual 73, 3)] = true := by decide +kernel
theorem dL_law_596 : decode cL_law 596 = .ok (.iconst 1, 1) := chkD_at okL_law_4 0 rfl
theorem dL_law_597 : decode cL_law 597 = .ok (.iadd, 1) := chkD_at okL_law_4 1 rfl
theorem dL_law_598 : decode cL_law 598 = .ok (.iaload, 1) := chkD_at okL_law_4 2 rfl
theorem dL_law_599 : decode cL_law 599 = .ok (.aload_n 0, 1) := chkD_at okL_law_4 3 rfl
theorem dL_law_600 : decode cL_law 600 = .ok (.iload_n 3, 1) := chkD_at okL_law_4 4 rfl
theorem dL_law_601 : decode cL_law 601 = .ok (.iconst 2, 1) := chkD_at okL_law_4 5 rfl
theorem dL_law_602 : decode cL_law 602 = .ok (.iadd, 1) := chkD_at okL_law_4 6 rfl
theorem dL_law_603 : decode cL_law 603 = .ok (.iaload, 1) := chkD_at okL_law_4 7 rfl
theorem dL_law_604 : decode cL_law 604 = .ok (.invokevirtual 61, 3) := chkD_at okL_law_4 8 rfl
theorem dL_law_607 : decode cL_law 607 = .ok (.aload_n 2, 1) := chkD_at okL_law_4 9 rfl
theorem dL_law_608 : decode cL_law 608 = .ok (.aload_n 0, 1) := chkD_at okL_law_4 10 rfl
theorem dL_law_609 : decode cL_law 609 = .ok (.iload_n 3, 1) := chkD_at okL_law_4 11 rfl
theorem dL_law_610 : decode cL_law 610 = .ok (.iconst 1, 1) := chkD_at okL_law_4 12 rfl
theorem dL_law_611 : decode cL_law 611 = .ok (.iadd, 1) := chkD_at okL_law_4 13 rfl
theorem dL_law_612 : decode cL_law 612 = .ok (.iaload, 1) := chkD_at okL_law_4 14 rfl
theorem dL_law_613 : decode cL_law 613 = .ok (.aload_n 0, 1) := chkD_at okL_law_4 15 rfl
theorem dL_law_614 : decode cL_law 614 = .ok (.iload_n 3, 1) := chkD_at okL_law_4 16 rfl
theorem dL_law_615 : decode cL_law 615 = .ok (.iconst 2, 1) := chkD_at okL_law_4 17 rfl
theorem dL_law_616 : decode cL_law 616 = .ok (.iadd, 1) := chkD_at okL_law_4 18 rfl
theorem dL_law_617 : decode cL_law 617 = .ok (.iaload, 1) := chkD_at okL_law_4 19 rfl
theorem dL_law_618 : decode cL_law 618 = .ok (.invokevirtual 64, 3) := chkD_at okL_law_4 20 rfl
theorem dL_law_621 : decode cL_law 621 = .ok (.if_icmp .eq 882, 3) := chkD_at okL_law_4 21 rfl
theorem dL_law_624 : decode cL_law 624 = .ok (.iconst 0, 1) := chkD_at okL_law_4 22 rfl
theorem dL_law_625 : decode cL_law 625 = .ok (.ireturn, 1) := chkD_at okL_law_4 23 rfl
theorem dL_law_626 : decode cL_law 626 = .ok (.aload_n 1, 1) := chkD_at okL_law_4 24 rfl
theorem dL_law_627 : decode cL_law 627 = .ok (.aload_n 0, 1) := chkD_at okL_law_4 25 rfl
theorem dL_law_628 : decode cL_law 628 = .ok (.iload_n 3, 1) := chkD_at okL_law_4 26 rfl
theorem dL_law_629 : decode cL_law 629 = .ok (.iconst 1, 1) := chkD_at okL_law_4 27 rfl
theorem dL_law_630 : decode cL_law 630 = .ok (.iadd, 1) := chkD_at okL_law_4 28 rfl
theorem dL_law_631 : decode cL_law 631 = .ok (.iaload, 1) := chkD_at okL_law_4 29 rfl
theorem dL_law_632 : decode cL_law 632 = .ok (.aload_n 0, 1) := chkD_at okL_law_4 30 rfl
theorem dL_law_633 : decode cL_law 633 = .ok (.iload_n 3, 1) := chkD_at okL_law_4 31 rfl
theorem dL_law_634 : decode cL_law 634 = .ok (.iconst 2, 1) := chkD_at okL_law_4 32 rfl
theorem dL_law_635 : decode cL_law 635 = .ok (.iadd, 1) := chkD_at okL_law_4 33 rfl
theorem dL_law_636 : decode cL_law 636 = .ok (.iaload, 1) := chkD_at okL_law_4 34 rfl
theorem dL_law_637 : decode cL_law 637 = .ok (.invokevirtual 65, 3) := chkD_at okL_law_4 35 rfl
theorem dL_law_640 : decode cL_law 640 = .ok (.aload_n 2, 1) := chkD_at okL_law_4 36 rfl
theorem dL_law_641 : decode cL_law 641 = .ok (.aload_n 0, 1) := chkD_at okL_law_4 37 rfl
theorem dL_law_642 : decode cL_law 642 = .ok (.iload_n 3, 1) := chkD_at okL_law_4 38 rfl
theorem dL_law_643 : decode cL_law 643 = .ok (.iconst 1, 1) := chkD_at okL_law_4 39 rfl
theorem dL_law_644 : decode cL_law 644 = .ok (.iadd, 1) := chkD_at okL_law_4 40 rfl
theorem dL_law_645 : decode cL_law 645 = .ok (.iaload, 1) := chkD_at okL_law_4 41 rfl
theorem dL_law_646 : decode cL_law 646 = .ok (.aload_n 0, 1) := chkD_at okL_law_4 42 rfl
theorem dL_law_647 : decode cL_law 647 = .ok (.iload_n 3, 1) := chkD_at okL_law_4 43 rfl
theorem dL_law_648 : decode cL_law 648 = .ok (.iconst 2, 1) := chkD_at okL_law_4 44 rfl
theorem dL_law_649 : decode cL_law 649 = .ok (.iadd, 1) := chkD_at okL_law_4 45 rfl
theorem dL_law_650 : decode cL_law 650 = .ok (.iaload, 1) := chkD_at okL_law_4 46 rfl
theorem dL_law_651 : decode cL_law 651 = .ok (.invokevirtual 68, 3) := chkD_at okL_law_4 47 rfl
theorem dL_law_654 : decode cL_law 654 = .ok (.if_icmp .eq 849, 3) := chkD_at okL_law_4 48 rfl
theorem dL_law_657 : decode cL_law 657 = .ok (.iconst 0, 1) := chkD_at okL_law_4 49 rfl
theorem dL_law_658 : decode cL_law 658 = .ok (.ireturn, 1) := chkD_at okL_law_4 50 rfl
theorem dL_law_659 : decode cL_law 659 = .ok (.aload_n 1, 1) := chkD_at okL_law_4 51 rfl
theorem dL_law_660 : decode cL_law 660 = .ok (.aload_n 0, 1) := chkD_at okL_law_4 52 rfl
theorem dL_law_661 : decode cL_law 661 = .ok (.iload_n 3, 1) := chkD_at okL_law_4 53 rfl
theorem dL_law_662 : decode cL_law 662 = .ok (.iconst 1, 1) := chkD_at okL_law_4 54 rfl
theorem dL_law_663 : decode cL_law 663 = .ok (.iadd, 1) := chkD_at okL_law_4 55 rfl
theorem dL_law_664 : decode cL_law 664 = .ok (.iaload, 1) := chkD_at okL_law_4 56 rfl
theorem dL_law_665 : decode cL_law 665 = .ok (.aload_n 0, 1) := chkD_at okL_law_4 57 rfl
theorem dL_law_666 : decode cL_law 666 = .ok (.iload_n 3, 1) := chkD_at okL_law_4 58 rfl
theorem dL_law_667 : decode cL_law 667 = .ok (.iconst 2, 1) := chkD_at okL_law_4 59 rfl
theorem dL_law_668 : decode cL_law 668 = .ok (.iadd, 1) := chkD_at okL_law_4 60 rfl
theorem dL_law_669 : decode cL_law 669 = .ok (.iaload, 1) := chkD_at okL_law_4 61 rfl
theorem dL_law_670 : decode cL_law 670 = .ok (.invokevirtual 69, 3) := chkD_at okL_law_4 62 rfl
theorem dL_law_673 : decode cL_law 673 = .ok (.aload_n 2, 1) := chkD_at okL_law_4 63 rfl
theorem dL_law_674 : decode cL_law 674 = .ok (.aload_n 0, 1) := chkD_at okL_law_4 64 rfl
theorem dL_law_675 : decode cL_law 675 = .ok (.iload_n 3, 1) := chkD_at okL_law_4 65 rfl
theorem dL_law_676 : decode cL_law 676 = .ok (.iconst 1, 1) := chkD_at okL_law_4 66 rfl
theorem dL_law_677 : decode cL_law 677 = .ok (.iadd, 1) := chkD_at okL_law_4 67 rfl
theorem dL_law_678 : decode cL_law 678 = .ok (.iaload, 1) := chkD_at okL_law_4 68 rfl
theorem dL_law_679 : decode cL_law 679 = .ok (.aload_n 0, 1) := chkD_at okL_law_4 69 rfl
theorem dL_law_680 : decode cL_law 680 = .ok (.iload_n 3, 1) := chkD_at okL_law_4 70 rfl
theorem dL_law_681 : decode cL_law 681 = .ok (.iconst 2, 1) := chkD_at okL_law_4 71 rfl
theorem dL_law_682 : decode cL_law 682 = .ok (.iadd, 1) := chkD_at okL_law_4 72 rfl
theorem dL_law_683 : decode cL_law 683 = .ok (.iaload, 1) := chkD_at okL_law_4 73 rfl
theorem dL_law_684 : decode cL_law 684 = .ok (.invokevirtual 72, 3) := chkD_at okL_law_4 74 rfl
theorem dL_law_687 : decode cL_law 687 = .ok (.if_icmp .eq 816, 3) := chkD_at okL_law_4 75 rfl
theorem dL_law_690 : decode cL_law 690 = .ok (.iconst 0, 1) := chkD_at okL_law_4 76 rfl
theorem dL_law_691 : decode cL_law 691 = .ok (.ireturn, 1) := chkD_at okL_law_4 77 rfl
theorem dL_law_692 : decode cL_law 692 = .ok (.aload_n 1, 1) := chkD_at okL_law_4 78 rfl
theorem dL_law_693 : decode cL_law 693 = .ok (.invokevirtual 73, 3) := chkD_at okL_law_4 79 rfl
theorem okL_law_5 : chkD cL_law [(696, .aload_n 2, 1), (697, .invokevirtual 77, 3), (700, .if_icmp .eq 803, 3), (703, .iconst 0, 1), (704, .ireturn, 1), (705, .aload_n 1, 1), (706, .aload_n 0, 1), (707, .iload_n 3, 1), (708, .iconst 1, 1), (709, .iadd, 1), (710, .iaload, 1), (711, .aload_n 0, 1), (712, .iload_n 3, 1), (713, .iconst 2, 1), (714, .iadd, 1), (715, .iaload, 1), (716, .invokevirtual 78, 3), (719, .aload_n 2, 1), (720, .aload_n 0, 1), (721, .iload_n 3, 1), (722, .iconst 1, 1), (723, .iadd, 1), (724, .iaload, 1), (725, .aload_n 0, 1), (726, .iload_n 3, 1), (727, .iconst 2, 1), (728, .iadd, 1), (729, .iaload, 1), (730, .invokevirtual 81, 3), (733, .if_icmp .eq 770, 3), (736, .iconst 0, 1), (737, .ireturn, 1), (738, .aload_n 1, 1), (739, .aload_n 0, 1), (740, .iload_n 3, 1), (741, .iconst 1, 1), (742, .iadd, 1), (743, .iaload, 1), (744, .invokevirtual 82, 3), (747, .aload_n 2, 1), (748, .aload_n 0, 1), (749, .iload_n 3, 1), (750, .iconst 1, 1), (751, .iadd, 1), (752, .iaload, 1), (753, .invokevirtual 85, 3), (756, .if_icmp .eq 747, 3), (759, .iconst 0, 1), (760, .ireturn, 1), (761, .aload_n 1, 1), (762, .invokevirtual 86, 3), (765, .aload_n 2, 1), (766, .invokevirtual 89, 3), (769, .if_icmp .eq 734, 3), (772, .iconst 0, 1), (773, .ireturn, 1), (774, .aload_n 1, 1), (775, .invokevirtual 90, 3), (778, .aload_n 2, 1), (779, .invokevirtual 93, 3), (782, .if_icmp .eq 721, 3), (785, .iconst 0, 1), (786, .ireturn, 1), (787, .aload_n 1, 1), (788, .aload_n 0, 1), (789, .iload_n 3, 1), (790, .iconst 1, 1), (791, .iadd, 1), (792, .iaload, 1), (793, .invokevirtual 94, 3), (796, .aload_n 2, 1), (797, .aload_n 0, 1), (798, .iload_n 3, 1), (799, .iconst 1, 1), (800, .iadd, 1), (801, .iaload, 1), (802, .invokevirtual 97, 3), (805, .if_icmp .eq 698, 3), (808, .iconst 0, 1), (809, .ireturn, 1)] = true := by decide +kernel
theorem dL_law_696 : decode cL_law 696 = .ok (.aload_n 2, 1) := chkD_at okL_law_5 0 rfl
theorem dL_law_697 : decode cL_law 697 = .ok (.invokevirtual 77, 3) := chkD_at okL_law_5 1 rfl
theorem dL_law_700 : decode cL_law 700 = .ok (.if_icmp .eq 803, 3) := chkD_at okL_law_5 2 rfl
theorem dL_law_703 : decode cL_law 703 = .ok (.iconst 0, 1) := chkD_at okL_law_5 3 rfl
theorem dL_law_704 : decode cL_law 704 = .ok (.ireturn, 1) := chkD_at okL_law_5 4 rfl
theorem dL_law_705 : decode cL_law 705 = .ok (.aload_n 1, 1) := chkD_at okL_law_5 5 rfl
theorem dL_law_706 : decode cL_law 706 = .ok (.aload_n 0, 1) := chkD_at okL_law_5 6 rfl
theorem dL_law_707 : decode cL_law 707 = .ok (.iload_n 3, 1) := chkD_at okL_law_5 7 rfl
theorem dL_law_708 : decode cL_law 708 = .ok (.iconst 1, 1) := chkD_at okL_law_5 8 rfl
theorem dL_law_709 : decode cL_law 709 = .ok (.iadd, 1) := chkD_at okL_law_5 9 rfl
theorem dL_law_710 : decode cL_law 710 = .ok (.iaload, 1) := chkD_at okL_law_5 10 rfl
theorem dL_law_711 : decode cL_law 711 = .ok (.aload_n 0, 1) := chkD_at okL_law_5 11 rfl
theorem dL_law_712 : decode cL_law 712 = .ok (.iload_n 3, 1) := chkD_at okL_law_5 12 rfl
theorem dL_law_713 : decode cL_law 713 = .ok (.iconst 2, 1) := chkD_at okL_law_5 13 rfl
theorem dL_law_714 : decode cL_law 714 = .ok (.iadd, 1) := chkD_at okL_law_5 14 rfl
theorem dL_law_715 : decode cL_law 715 = .ok (.iaload, 1) := chkD_at okL_law_5 15 rfl
theorem dL_law_716 : decode cL_law 716 = .ok (.invokevirtual 78, 3) := chkD_at okL_law_5 16 rfl
theorem dL_law_719 : decode cL_law 719 = .ok (.aload_n 2, 1) := chkD_at okL_law_5 17 rfl
theorem dL_law_720 : decode cL_law 720 = .ok (.aload_n 0, 1) := chkD_at okL_law_5 18 rfl
theorem dL_law_721 : decode cL_law 721 = .ok (.iload_n 3, 1) := chkD_at okL_law_5 19 rfl
theorem dL_law_722 : decode cL_law 722 = .ok (.iconst 1, 1) := chkD_at okL_law_5 20 rfl
theorem dL_law_723 : decode cL_law 723 = .ok (.iadd, 1) := chkD_at okL_law_5 21 rfl
theorem dL_law_724 : decode cL_law 724 = .ok (.iaload, 1) := chkD_at okL_law_5 22 rfl
theorem dL_law_725 : decode cL_law 725 = .ok (.aload_n 0, 1) := chkD_at okL_law_5 23 rfl
theorem dL_law_726 : decode cL_law 726 = .ok (.iload_n 3, 1) := chkD_at okL_law_5 24 rfl
theorem dL_law_727 : decode cL_law 727 = .ok (.iconst 2, 1) := chkD_at okL_law_5 25 rfl
theorem dL_law_728 : decode cL_law 728 = .ok (.iadd, 1) := chkD_at okL_law_5 26 rfl
theorem dL_law_729 : decode cL_law 729 = .ok (.iaload, 1) := chkD_at okL_law_5 27 rfl
theorem dL_law_730 : decode cL_law 730 = .ok (.invokevirtual 81, 3) := chkD_at okL_law_5 28 rfl
theorem dL_law_733 : decode cL_law 733 = .ok (.if_icmp .eq 770, 3) := chkD_at okL_law_5 29 rfl
theorem dL_law_736 : decode cL_law 736 = .ok (.iconst 0, 1) := chkD_at okL_law_5 30 rfl
theorem dL_law_737 : decode cL_law 737 = .ok (.ireturn, 1) := chkD_at okL_law_5 31 rfl
theorem dL_law_738 : decode cL_law 738 = .ok (.aload_n 1, 1) := chkD_at okL_law_5 32 rfl
theorem dL_law_739 : decode cL_law 739 = .ok (.aload_n 0, 1) := chkD_at okL_law_5 33 rfl
theorem dL_law_740 : decode cL_law 740 = .ok (.iload_n 3, 1) := chkD_at okL_law_5 34 rfl
theorem dL_law_741 : decode cL_law 741 = .ok (.iconst 1, 1) := chkD_at okL_law_5 35 rfl
theorem dL_law_742 : decode cL_law 742 = .ok (.iadd, 1) := chkD_at okL_law_5 36 rfl
theorem dL_law_743 : decode cL_law 743 = .ok (.iaload, 1) := chkD_at okL_law_5 37 rfl
theorem dL_law_744 : decode cL_law 744 = .ok (.invokevirtual 82, 3) := chkD_at okL_law_5 38 rfl
theorem dL_law_747 : decode cL_law 747 = .ok (.aload_n 2, 1) := chkD_at okL_law_5 39 rfl
theorem dL_law_748 : decode cL_law 748 = .ok (.aload_n 0, 1) := chkD_at okL_law_5 40 rfl
theorem dL_law_749 : decode cL_law 749 = .ok (.iload_n 3, 1) := chkD_at okL_law_5 41 rfl
theorem dL_law_750 : decode cL_law 750 = .ok (.iconst 1, 1) := chkD_at okL_law_5 42 rfl
theorem dL_law_751 : decode cL_law 751 = .ok (.iadd, 1) := chkD_at okL_law_5 43 rfl
theorem dL_law_752 : decode cL_law 752 = .ok (.iaload, 1) := chkD_at okL_law_5 44 rfl
theorem dL_law_753 : decode cL_law 753 = .ok (.invokevirtual 85, 3) := chkD_at okL_law_5 45 rfl
theorem dL_law_756 : decode cL_law 756 = .ok (.if_icmp .eq 747, 3) := chkD_at okL_law_5 46 rfl
theorem dL_law_759 : decode cL_law 759 = .ok (.iconst 0, 1) := chkD_at okL_law_5 47 rfl
theorem dL_law_760 : decode cL_law 760 = .ok (.ireturn, 1) := chkD_at okL_law_5 48 rfl
theorem dL_law_761 : decode cL_law 761 = .ok (.aload_n 1, 1) := chkD_at okL_law_5 49 rfl
theorem dL_law_762 : decode cL_law 762 = .ok (.invokevirtual 86, 3) := chkD_at okL_law_5 50 rfl
theorem dL_law_765 : decode cL_law 765 = .ok (.aload_n 2, 1) := chkD_at okL_law_5 51 rfl
theorem dL_law_766 : decode cL_law 766 = .ok (.invokevirtual 89, 3) := chkD_at okL_law_5 52 rfl
theorem dL_law_769 : decode cL_law 769 = .ok (.if_icmp .eq 734, 3) := chkD_at okL_law_5 53 rfl
theorem dL_law_772 : decode cL_law 772 = .ok (.iconst 0, 1) := chkD_at okL_law_5 54 rfl
theorem dL_law_773 : decode cL_law 773 = .ok (.ireturn, 1) := chkD_at okL_law_5 55 rfl
theorem dL_law_774 : decode cL_law 774 = .ok (.aload_n 1, 1) := chkD_at okL_law_5 56 rfl
theorem dL_law_775 : decode cL_law 775 = .ok (.invokevirtual 90, 3) := chkD_at okL_law_5 57 rfl
theorem dL_law_778 : decode cL_law 778 = .ok (.aload_n 2, 1) := chkD_at okL_law_5 58 rfl
theorem dL_law_779 : decode cL_law 779 = .ok (.invokevirtual 93, 3) := chkD_at okL_law_5 59 rfl
theorem dL_law_782 : decode cL_law 782 = .ok (.if_icmp .eq 721, 3) := chkD_at okL_law_5 60 rfl
theorem dL_law_785 : decode cL_law 785 = .ok (.iconst 0, 1) := chkD_at okL_law_5 61 rfl
theorem dL_law_786 : decode cL_law 786 = .ok (.ireturn, 1) := chkD_at okL_law_5 62 rfl
theorem dL_law_787 : decode cL_law 787 = .ok (.aload_n 1, 1) := chkD_at okL_law_5 63 rfl
theorem dL_law_788 : decode cL_law 788 = .ok (.aload_n 0, 1) := chkD_at okL_law_5 64 rfl
theorem dL_law_789 : decode cL_law 789 = .ok (.iload_n 3, 1) := chkD_at okL_law_5 65 rfl
theorem dL_law_790 : decode cL_law 790 = .ok (.iconst 1, 1) := chkD_at okL_law_5 66 rfl
theorem dL_law_791 : decode cL_law 791 = .ok (.iadd, 1) := chkD_at okL_law_5 67 rfl
theorem dL_law_792 : decode cL_law 792 = .ok (.iaload, 1) := chkD_at okL_law_5 68 rfl
theorem dL_law_793 : decode cL_law 793 = .ok (.invokevirtual 94, 3) := chkD_at okL_law_5 69 rfl
theorem dL_law_796 : decode cL_law 796 = .ok (.aload_n 2, 1) := chkD_at okL_law_5 70 rfl
theorem dL_law_797 : decode cL_law 797 = .ok (.aload_n 0, 1) := chkD_at okL_law_5 71 rfl
theorem dL_law_798 : decode cL_law 798 = .ok (.iload_n 3, 1) := chkD_at okL_law_5 72 rfl
theorem dL_law_799 : decode cL_law 799 = .ok (.iconst 1, 1) := chkD_at okL_law_5 73 rfl
theorem dL_law_800 : decode cL_law 800 = .ok (.iadd, 1) := chkD_at okL_law_5 74 rfl
theorem dL_law_801 : decode cL_law 801 = .ok (.iaload, 1) := chkD_at okL_law_5 75 rfl
theorem dL_law_802 : decode cL_law 802 = .ok (.invokevirtual 97, 3) := chkD_at okL_law_5 76 rfl
theorem dL_law_805 : decode cL_law 805 = .ok (.if_icmp .eq 698, 3) := chkD_at okL_law_5 77 rfl
theorem dL_law_808 : decode cL_law 808 = .ok (.iconst 0, 1) := chkD_at okL_law_5 78 rfl
theorem dL_law_809 : decode cL_law 809 = .ok (.ireturn, 1) := chkD_at okL_law_5 79 rfl
theorem okL_law_6 : chkD cL_law [(810, .aload_n 1, 1), (811, .invokevirtual 98, 3), (814, .aload_n 2, 1), (815, .invokevirtual 101, 3), (818, .if_icmp .eq 685, 3), (821, .iconst 0, 1), (822, .ireturn, 1), (823, .aload_n 1, 1), (824, .aload_n 0, 1), (825, .iload_n 3, 1), (826, .iconst 1, 1), (827, .iadd, 1), (828, .iaload, 1), (829, .aload_n 0, 1), (830, .iload_n 3, 1), (831, .iconst 2, 1), (832, .iadd, 1), (833, .iaload, 1), (834, .invokevirtual 102, 3), (837, .aload_n 2, 1), (838, .aload_n 0, 1), (839, .iload_n 3, 1), (840, .iconst 1, 1), (841, .iadd, 1), (842, .iaload, 1), (843, .aload_n 0, 1), (844, .iload_n 3, 1), (845, .iconst 2, 1), (846, .iadd, 1), (847, .iaload, 1), (848, .invokevirtual 105, 3), (851, .if_icmp .eq 652, 3), (854, .iconst 0, 1), (855, .ireturn, 1), (856, .aload_n 1, 1), (857, .aload_n 0, 1), (858, .iload_n 3, 1), (859, .iconst 1, 1), (860, .iadd, 1), (861, .iaload, 1), (862, .aload_n 0, 1), (863, .iload_n 3, 1), (864, .iconst 2, 1), (865, .iadd, 1), (866, .iaload, 1), (867, .invokevirtual 106, 3), (870, .aload_n 2, 1), (871, .aload_n 0, 1), (872, .iload_n 3, 1), (873, .iconst 1, 1), (874, .iadd, 1), (875, .iaload, 1), (876, .aload_n 0, 1), (877, .iload_n 3, 1), (878, .iconst 2, 1), (879, .iadd, 1), (880, .iaload, 1), (881, .invokevirtual 109, 3), (884, .if_icmp .eq 619, 3), (887, .iconst 0, 1), (888, .ireturn, 1), (889, .aload_n 1, 1), (890, .aload_n 0, 1), (891, .iload_n 3, 1), (892, .iconst 1, 1), (893, .iadd, 1), (894, .iaload, 1), (895, .aload_n 0, 1), (896, .iload_n 3, 1), (897, .iconst 2, 1), (898, .iadd, 1), (899, .iaload, 1), (900, .invokevirtual 110, 3), (903, .aload_n 2, 1), (904, .aload_n 0, 1), (905, .iload_n 3, 1), (906, .iconst 1, 1), (907, .iadd, 1), (908, .iaload, 1), (909, .aload_n 0, 1)] = true := by decide +kernel
theorem dL_law_810 : decode cL_law 810 = .ok (.aload_n 1, 1) := chkD_at okL_law_6 0 rfl
theorem dL_law_811 : decode cL_law 811 = .ok (.invokevirtual 98, 3) := chkD_at okL_law_6 1 rfl
theorem dL_law_814 : decode cL_law 814 = .ok (.aload_n 2, 1) := chkD_at okL_law_6 2 rfl
theorem dL_law_815 : decode cL_law 815 = .ok (.invokevirtual 101, 3) := chkD_at okL_law_6 3 rfl
theorem dL_law_818 : decode cL_law 818 = .ok (.if_icmp .eq 685, 3) := chkD_at okL_law_6 4 rfl
theorem dL_law_821 : decode cL_law 821 = .ok (.iconst 0, 1) := chkD_at okL_law_6 5 rfl
theorem dL_law_822 : decode cL_law 822 = .ok (.ireturn, 1) := chkD_at okL_law_6 6 rfl
theorem dL_law_823 : decode cL_law 823 = .ok (.aload_n 1, 1) := chkD_at okL_law_6 7 rfl
theorem dL_law_824 : decode cL_law 824 = .ok (.aload_n 0, 1) := chkD_at okL_law_6 8 rfl
theorem dL_law_825 : decode cL_law 825 = .ok (.iload_n 3, 1) := chkD_at okL_law_6 9 rfl
theorem dL_law_826 : decode cL_law 826 = .ok (.iconst 1, 1) := chkD_at okL_law_6 10 rfl
theorem dL_law_827 : decode cL_law 827 = .ok (.iadd, 1) := chkD_at okL_law_6 11 rfl
theorem dL_law_828 : decode cL_law 828 = .ok (.iaload, 1) := chkD_at okL_law_6 12 rfl
theorem dL_law_829 : decode cL_law 829 = .ok (.aload_n 0, 1) := chkD_at okL_law_6 13 rfl
theorem dL_law_830 : decode cL_law 830 = .ok (.iload_n 3, 1) := chkD_at okL_law_6 14 rfl
theorem dL_law_831 : decode cL_law 831 = .ok (.iconst 2, 1) := chkD_at okL_law_6 15 rfl
theorem dL_law_832 : decode cL_law 832 = .ok (.iadd, 1) := chkD_at okL_law_6 16 rfl
theorem dL_law_833 : decode cL_law 833 = .ok (.iaload, 1) := chkD_at okL_law_6 17 rfl
theorem dL_law_834 : decode cL_law 834 = .ok (.invokevirtual 102, 3) := chkD_at okL_law_6 18 rfl
theorem dL_law_837 : decode cL_law 837 = .ok (.aload_n 2, 1) := chkD_at okL_law_6 19 rfl
theorem dL_law_838 : decode cL_law 838 = .ok (.aload_n 0, 1) := chkD_at okL_law_6 20 rfl
theorem dL_law_839 : decode cL_law 839 = .ok (.iload_n 3, 1) := chkD_at okL_law_6 21 rfl
theorem dL_law_840 : decode cL_law 840 = .ok (.iconst 1, 1) := chkD_at okL_law_6 22 rfl
theorem dL_law_841 : decode cL_law 841 = .ok (.iadd, 1) := chkD_at okL_law_6 23 rfl
theorem dL_law_842 : decode cL_law 842 = .ok (.iaload, 1) := chkD_at okL_law_6 24 rfl
theorem dL_law_843 : decode cL_law 843 = .ok (.aload_n 0, 1) := chkD_at okL_law_6 25 rfl
theorem dL_law_844 : decode cL_law 844 = .ok (.iload_n 3, 1) := chkD_at okL_law_6 26 rfl
theorem dL_law_845 : decode cL_law 845 = .ok (.iconst 2, 1) := chkD_at okL_law_6 27 rfl
theorem dL_law_846 : decode cL_law 846 = .ok (.iadd, 1) := chkD_at okL_law_6 28 rfl
theorem dL_law_847 : decode cL_law 847 = .ok (.iaload, 1) := chkD_at okL_law_6 29 rfl
theorem dL_law_848 : decode cL_law 848 = .ok (.invokevirtual 105, 3) := chkD_at okL_law_6 30 rfl
theorem dL_law_851 : decode cL_law 851 = .ok (.if_icmp .eq 652, 3) := chkD_at okL_law_6 31 rfl
theorem dL_law_854 : decode cL_law 854 = .ok (.iconst 0, 1) := chkD_at okL_law_6 32 rfl
theorem dL_law_855 : decode cL_law 855 = .ok (.ireturn, 1) := chkD_at okL_law_6 33 rfl
theorem dL_law_856 : decode cL_law 856 = .ok (.aload_n 1, 1) := chkD_at okL_law_6 34 rfl
theorem dL_law_857 : decode cL_law 857 = .ok (.aload_n 0, 1) := chkD_at okL_law_6 35 rfl
theorem dL_law_858 : decode cL_law 858 = .ok (.iload_n 3, 1) := chkD_at okL_law_6 36 rfl
theorem dL_law_859 : decode cL_law 859 = .ok (.iconst 1, 1) := chkD_at okL_law_6 37 rfl
theorem dL_law_860 : decode cL_law 860 = .ok (.iadd, 1) := chkD_at okL_law_6 38 rfl
theorem dL_law_861 : decode cL_law 861 = .ok (.iaload, 1) := chkD_at okL_law_6 39 rfl
theorem dL_law_862 : decode cL_law 862 = .ok (.aload_n 0, 1) := chkD_at okL_law_6 40 rfl
theorem dL_law_863 : decode cL_law 863 = .ok (.iload_n 3, 1) := chkD_at okL_law_6 41 rfl
theorem dL_law_864 : decode cL_law 864 = .ok (.iconst 2, 1) := chkD_at okL_law_6 42 rfl
theorem dL_law_865 : decode cL_law 865 = .ok (.iadd, 1) := chkD_at okL_law_6 43 rfl
theorem dL_law_866 : decode cL_law 866 = .ok (.iaload, 1) := chkD_at okL_law_6 44 rfl
theorem dL_law_867 : decode cL_law 867 = .ok (.invokevirtual 106, 3) := chkD_at okL_law_6 45 rfl
theorem dL_law_870 : decode cL_law 870 = .ok (.aload_n 2, 1) := chkD_at okL_law_6 46 rfl
theorem dL_law_871 : decode cL_law 871 = .ok (.aload_n 0, 1) := chkD_at okL_law_6 47 rfl
theorem dL_law_872 : decode cL_law 872 = .ok (.iload_n 3, 1) := chkD_at okL_law_6 48 rfl
theorem dL_law_873 : decode cL_law 873 = .ok (.iconst 1, 1) := chkD_at okL_law_6 49 rfl
theorem dL_law_874 : decode cL_law 874 = .ok (.iadd, 1) := chkD_at okL_law_6 50 rfl
theorem dL_law_875 : decode cL_law 875 = .ok (.iaload, 1) := chkD_at okL_law_6 51 rfl
theorem dL_law_876 : decode cL_law 876 = .ok (.aload_n 0, 1) := chkD_at okL_law_6 52 rfl
theorem dL_law_877 : decode cL_law 877 = .ok (.iload_n 3, 1) := chkD_at okL_law_6 53 rfl
theorem dL_law_878 : decode cL_law 878 = .ok (.iconst 2, 1) := chkD_at okL_law_6 54 rfl
theorem dL_law_879 : decode cL_law 879 = .ok (.iadd, 1) := chkD_at okL_law_6 55 rfl
theorem dL_law_880 : decode cL_law 880 = .ok (.iaload, 1) := chkD_at okL_law_6 56 rfl
theorem dL_law_881 : decode cL_law 881 = .ok (.invokevirtual 109, 3) := chkD_at okL_law_6 57 rfl
theorem dL_law_884 : decode cL_law 884 = .ok (.if_icmp .eq 619, 3) := chkD_at okL_law_6 58 rfl
theorem dL_law_887 : decode cL_law 887 = .ok (.iconst 0, 1) := chkD_at okL_law_6 59 rfl
theorem dL_law_888 : decode cL_law 888 = .ok (.ireturn, 1) := chkD_at okL_law_6 60 rfl
theorem dL_law_889 : decode cL_law 889 = .ok (.aload_n 1, 1) := chkD_at okL_law_6 61 rfl
theorem dL_law_890 : decode cL_law 890 = .ok (.aload_n 0, 1) := chkD_at okL_law_6 62 rfl
theorem dL_law_891 : decode cL_law 891 = .ok (.iload_n 3, 1) := chkD_at okL_law_6 63 rfl
theorem dL_law_892 : decode cL_law 892 = .ok (.iconst 1, 1) := chkD_at okL_law_6 64 rfl
theorem dL_law_893 : decode cL_law 893 = .ok (.iadd, 1) := chkD_at okL_law_6 65 rfl
theorem dL_law_894 : decode cL_law 894 = .ok (.iaload, 1) := chkD_at okL_law_6 66 rfl
theorem dL_law_895 : decode cL_law 895 = .ok (.aload_n 0, 1) := chkD_at okL_law_6 67 rfl
theorem dL_law_896 : decode cL_law 896 = .ok (.iload_n 3, 1) := chkD_at okL_law_6 68 rfl
theorem dL_law_897 : decode cL_law 897 = .ok (.iconst 2, 1) := chkD_at okL_law_6 69 rfl
theorem dL_law_898 : decode cL_law 898 = .ok (.iadd, 1) := chkD_at okL_law_6 70 rfl
theorem dL_law_899 : decode cL_law 899 = .ok (.iaload, 1) := chkD_at okL_law_6 71 rfl
theorem dL_law_900 : decode cL_law 900 = .ok (.invokevirtual 110, 3) := chkD_at okL_law_6 72 rfl
theorem dL_law_903 : decode cL_law 903 = .ok (.aload_n 2, 1) := chkD_at okL_law_6 73 rfl
theorem dL_law_904 : decode cL_law 904 = .ok (.aload_n 0, 1) := chkD_at okL_law_6 74 rfl
theorem dL_law_905 : decode cL_law 905 = .ok (.iload_n 3, 1) := chkD_at okL_law_6 75 rfl
theorem dL_law_906 : decode cL_law 906 = .ok (.iconst 1, 1) := chkD_at okL_law_6 76 rfl
theorem dL_law_907 : decode cL_law 907 = .ok (.iadd, 1) := chkD_at okL_law_6 77 rfl
theorem dL_law_908 : decode cL_law 908 = .ok (.iaload, 1) := chkD_at okL_law_6 78 rfl
theorem dL_law_909 : decode cL_law 909 = .ok (.aload_n 0, 1) := chkD_at okL_law_6 79 rfl
theorem okL_law_7 : chkD cL_law [(910, .iload_n 3, 1), (911, .iconst 2, 1), (912, .iadd, 1), (913, .iaload, 1), (914, .invokevirtual 113, 3), (917, .if_icmp .eq 586, 3), (920, .iconst 0, 1), (921, .ireturn, 1), (922, .aload_n 1, 1), (923, .aload_n 0, 1), (924, .iload_n 3, 1), (925, .iconst 1, 1), (926, .iadd, 1), (927, .iaload, 1), (928, .invokevirtual 114, 3), (931, .aload_n 2, 1), (932, .aload_n 0, 1), (933, .iload_n 3, 1), (934, .iconst 1, 1), (935, .iadd, 1), (936, .iaload, 1), (937, .invokevirtual 117, 3), (940, .if_icmp .eq 563, 3), (943, .iconst 0, 1), (944, .ireturn, 1), (945, .aload_n 1, 1), (946, .aload_n 0, 1), (947, .iload_n 3, 1), (948, .iconst 1, 1), (949, .iadd, 1), (950, .iaload, 1), (951, .invokevirtual 118, 3), (954, .aload_n 2, 1), (955, .aload_n 0, 1), (956, .iload_n 3, 1), (957, .iconst 1, 1), (958, .iadd, 1), (959, .iaload, 1), (960, .invokevirtual 121, 3), (963, .if_icmp .eq 540, 3), (966, .iconst 0, 1), (967, .ireturn, 1), (968, .aload_n 1, 1), (969, .aload_n 0, 1), (970, .iload_n 3, 1), (971, .iconst 1, 1), (972, .iadd, 1), (973, .iaload, 1), (974, .aload_n 0, 1), (975, .iload_n 3, 1), (976, .iconst 2, 1), (977, .iadd, 1), (978, .iaload, 1), (979, .invokevirtual 122, 3), (982, .aload_n 2, 1), (983, .aload_n 0, 1), (984, .iload_n 3, 1), (985, .iconst 1, 1), (986, .iadd, 1), (987, .iaload, 1), (988, .aload_n 0, 1), (989, .iload_n 3, 1), (990, .iconst 2, 1), (991, .iadd, 1), (992, .iaload, 1), (993, .invokevirtual 125, 3), (996, .if_icmp .eq 507, 3), (999, .iconst 0, 1), (1000, .ireturn, 1), (1001, .aload_n 1, 1), (1002, .aload_n 0, 1), (1003, .iload_n 3, 1), (1004, .iconst 1, 1), (1005, .iadd, 1), (1006, .iaload, 1), (1007, .aload_n 0, 1), (1008, .iload_n 3, 1), (1009, .iconst 2, 1), (1010, .iadd, 1), (1011, .iaload, 1)] = true := by decide +kernel
theorem dL_law_910 : decode cL_law 910 = .ok (.iload_n 3, 1) := chkD_at okL_law_7 0 rfl
theorem dL_law_911 : decode cL_law 911 = .ok (.iconst 2, 1) := chkD_at okL_law_7 1 rfl
theorem dL_law_912 : decode cL_law 912 = .ok (.iadd, 1) := chkD_at okL_law_7 2 rfl
theorem dL_law_913 : decode cL_law 913 = .ok (.iaload, 1) := chkD_at okL_law_7 3 rfl
theorem dL_law_914 : decode cL_law 914 = .ok (.invokevirtual 113, 3) := chkD_at okL_law_7 4 rfl
theorem dL_law_917 : decode cL_law 917 = .ok (.if_icmp .eq 586, 3) := chkD_at okL_law_7 5 rfl
theorem dL_law_920 : decode cL_law 920 = .ok (.iconst 0, 1) := chkD_at okL_law_7 6 rfl
theorem dL_law_921 : decode cL_law 921 = .ok (.ireturn, 1) := chkD_at okL_law_7 7 rfl
theorem dL_law_922 : decode cL_law 922 = .ok (.aload_n 1, 1) := chkD_at okL_law_7 8 rfl
theorem dL_law_923 : decode cL_law 923 = .ok (.aload_n 0, 1) := chkD_at okL_law_7 9 rfl
theorem dL_law_924 : decode cL_law 924 = .ok (.iload_n 3, 1) := chkD_at okL_law_7 10 rfl
theorem dL_law_925 : decode cL_law 925 = .ok (.iconst 1, 1) := chkD_at okL_law_7 11 rfl
theorem dL_law_926 : decode cL_law 926 = .ok (.iadd, 1) := chkD_at okL_law_7 12 rfl
theorem dL_law_927 : decode cL_law 927 = .ok (.iaload, 1) := chkD_at okL_law_7 13 rfl
theorem dL_law_928 : decode cL_law 928 = .ok (.invokevirtual 114, 3) := chkD_at okL_law_7 14 rfl
theorem dL_law_931 : decode cL_law 931 = .ok (.aload_n 2, 1) := chkD_at okL_law_7 15 rfl
theorem dL_law_932 : decode cL_law 932 = .ok (.aload_n 0, 1) := chkD_at okL_law_7 16 rfl
theorem dL_law_933 : decode cL_law 933 = .ok (.iload_n 3, 1) := chkD_at okL_law_7 17 rfl
theorem dL_law_934 : decode cL_law 934 = .ok (.iconst 1, 1) := chkD_at okL_law_7 18 rfl
theorem dL_law_935 : decode cL_law 935 = .ok (.iadd, 1) := chkD_at okL_law_7 19 rfl
theorem dL_law_936 : decode cL_law 936 = .ok (.iaload, 1) := chkD_at okL_law_7 20 rfl
theorem dL_law_937 : decode cL_law 937 = .ok (.invokevirtual 117, 3) := chkD_at okL_law_7 21 rfl
theorem dL_law_940 : decode cL_law 940 = .ok (.if_icmp .eq 563, 3) := chkD_at okL_law_7 22 rfl
theorem dL_law_943 : decode cL_law 943 = .ok (.iconst 0, 1) := chkD_at okL_law_7 23 rfl
theorem dL_law_944 : decode cL_law 944 = .ok (.ireturn, 1) := chkD_at okL_law_7 24 rfl
theorem dL_law_945 : decode cL_law 945 = .ok (.aload_n 1, 1) := chkD_at okL_law_7 25 rfl
theorem dL_law_946 : decode cL_law 946 = .ok (.aload_n 0, 1) := chkD_at okL_law_7 26 rfl
theorem dL_law_947 : decode cL_law 947 = .ok (.iload_n 3, 1) := chkD_at okL_law_7 27 rfl
theorem dL_law_948 : decode cL_law 948 = .ok (.iconst 1, 1) := chkD_at okL_law_7 28 rfl
theorem dL_law_949 : decode cL_law 949 = .ok (.iadd, 1) := chkD_at okL_law_7 29 rfl
theorem dL_law_950 : decode cL_law 950 = .ok (.iaload, 1) := chkD_at okL_law_7 30 rfl
theorem dL_law_951 : decode cL_law 951 = .ok (.invokevirtual 118, 3) := chkD_at okL_law_7 31 rfl
theorem dL_law_954 : decode cL_law 954 = .ok (.aload_n 2, 1) := chkD_at okL_law_7 32 rfl
theorem dL_law_955 : decode cL_law 955 = .ok (.aload_n 0, 1) := chkD_at okL_law_7 33 rfl
theorem dL_law_956 : decode cL_law 956 = .ok (.iload_n 3, 1) := chkD_at okL_law_7 34 rfl
theorem dL_law_957 : decode cL_law 957 = .ok (.iconst 1, 1) := chkD_at okL_law_7 35 rfl
theorem dL_law_958 : decode cL_law 958 = .ok (.iadd, 1) := chkD_at okL_law_7 36 rfl
theorem dL_law_959 : decode cL_law 959 = .ok (.iaload, 1) := chkD_at okL_law_7 37 rfl
theorem dL_law_960 : decode cL_law 960 = .ok (.invokevirtual 121, 3) := chkD_at okL_law_7 38 rfl
theorem dL_law_963 : decode cL_law 963 = .ok (.if_icmp .eq 540, 3) := chkD_at okL_law_7 39 rfl
theorem dL_law_966 : decode cL_law 966 = .ok (.iconst 0, 1) := chkD_at okL_law_7 40 rfl
theorem dL_law_967 : decode cL_law 967 = .ok (.ireturn, 1) := chkD_at okL_law_7 41 rfl
theorem dL_law_968 : decode cL_law 968 = .ok (.aload_n 1, 1) := chkD_at okL_law_7 42 rfl
theorem dL_law_969 : decode cL_law 969 = .ok (.aload_n 0, 1) := chkD_at okL_law_7 43 rfl
theorem dL_law_970 : decode cL_law 970 = .ok (.iload_n 3, 1) := chkD_at okL_law_7 44 rfl
theorem dL_law_971 : decode cL_law 971 = .ok (.iconst 1, 1) := chkD_at okL_law_7 45 rfl
theorem dL_law_972 : decode cL_law 972 = .ok (.iadd, 1) := chkD_at okL_law_7 46 rfl
theorem dL_law_973 : decode cL_law 973 = .ok (.iaload, 1) := chkD_at okL_law_7 47 rfl
theorem dL_law_974 : decode cL_law 974 = .ok (.aload_n 0, 1) := chkD_at okL_law_7 48 rfl
theorem dL_law_975 : decode cL_law 975 = .ok (.iload_n 3, 1) := chkD_at okL_law_7 49 rfl
theorem dL_law_976 : decode cL_law 976 = .ok (.iconst 2, 1) := chkD_at okL_law_7 50 rfl
theorem dL_law_977 : decode cL_law 977 = .ok (.iadd, 1) := chkD_at okL_law_7 51 rfl
theorem dL_law_978 : decode cL_law 978 = .ok (.iaload, 1) := chkD_at okL_law_7 52 rfl
theorem dL_law_979 : decode cL_law 979 = .ok (.invokevirtual 122, 3) := chkD_at okL_law_7 53 rfl
theorem dL_law_982 : decode cL_law 982 = .ok (.aload_n 2, 1) := chkD_at okL_law_7 54 rfl
theorem dL_law_983 : decode cL_law 983 = .ok (.aload_n 0, 1) := chkD_at okL_law_7 55 rfl
theorem dL_law_984 : decode cL_law 984 = .ok (.iload_n 3, 1) := chkD_at okL_law_7 56 rfl
theorem dL_law_985 : decode cL_law 985 = .ok (.iconst 1, 1) := chkD_at okL_law_7 57 rfl
theorem dL_law_986 : decode cL_law 986 = .ok (.iadd, 1) := chkD_at okL_law_7 58 rfl
theorem dL_law_987 : decode cL_law 987 = .ok (.iaload, 1) := chkD_at okL_law_7 59 rfl
theorem dL_law_988 : decode cL_law 988 = .ok (.aload_n 0, 1) := chkD_at okL_law_7 60 rfl
theorem dL_law_989 : decode cL_law 989 = .ok (.iload_n 3, 1) := chkD_at okL_law_7 61 rfl
theorem dL_law_990 : decode cL_law 990 = .ok (.iconst 2, 1) := chkD_at okL_law_7 62 rfl
theorem dL_law_991 : decode cL_law 991 = .ok (.iadd, 1) := chkD_at okL_law_7 63 rfl
theorem dL_law_992 : decode cL_law 992 = .ok (.iaload, 1) := chkD_at okL_law_7 64 rfl
theorem dL_law_993 : decode cL_law 993 = .ok (.invokevirtual 125, 3) := chkD_at okL_law_7 65 rfl
theorem dL_law_996 : decode cL_law 996 = .ok (.if_icmp .eq 507, 3) := chkD_at okL_law_7 66 rfl
theorem dL_law_999 : decode cL_law 999 = .ok (.iconst 0, 1) := chkD_at okL_law_7 67 rfl
theorem dL_law_1000 : decode cL_law 1000 = .ok (.ireturn, 1) := chkD_at okL_law_7 68 rfl
theorem dL_law_1001 : decode cL_law 1001 = .ok (.aload_n 1, 1) := chkD_at okL_law_7 69 rfl
theorem dL_law_1002 : decode cL_law 1002 = .ok (.aload_n 0, 1) := chkD_at okL_law_7 70 rfl
theorem dL_law_1003 : decode cL_law 1003 = .ok (.iload_n 3, 1) := chkD_at okL_law_7 71 rfl
theorem dL_law_1004 : decode cL_law 1004 = .ok (.iconst 1, 1) := chkD_at okL_law_7 72 rfl
theorem dL_law_1005 : decode cL_law 1005 = .ok (.iadd, 1) := chkD_at okL_law_7 73 rfl
theorem dL_law_1006 : decode cL_law 1006 = .ok (.iaload, 1) := chkD_at okL_law_7 74 rfl
theorem dL_law_1007 : decode cL_law 1007 = .ok (.aload_n 0, 1) := chkD_at okL_law_7 75 rfl
theorem dL_law_1008 : decode cL_law 1008 = .ok (.iload_n 3, 1) := chkD_at okL_law_7 76 rfl
theorem dL_law_1009 : decode cL_law 1009 = .ok (.iconst 2, 1) := chkD_at okL_law_7 77 rfl
theorem dL_law_1010 : decode cL_law 1010 = .ok (.iadd, 1) := chkD_at okL_law_7 78 rfl
theorem dL_law_1011 : decode cL_law 1011 = .ok (.iaload, 1) := chkD_at okL_law_7 79 rfl
theorem okL_law_8 : chkD cL_law [(1012, .invokevirtual 126, 3), (1015, .aload_n 2, 1), (1016, .aload_n 0, 1), (1017, .iload_n 3, 1), (1018, .iconst 1, 1), (1019, .iadd, 1), (1020, .iaload, 1), (1021, .aload_n 0, 1), (1022, .iload_n 3, 1), (1023, .iconst 2, 1), (1024, .iadd, 1), (1025, .iaload, 1), (1026, .invokevirtual 129, 3), (1029, .if_icmp .eq 474, 3), (1032, .iconst 0, 1), (1033, .ireturn, 1), (1034, .aload_n 1, 1), (1035, .aload_n 0, 1), (1036, .iload_n 3, 1), (1037, .iconst 1, 1), (1038, .iadd, 1), (1039, .iaload, 1), (1040, .aload_n 0, 1), (1041, .iload_n 3, 1), (1042, .iconst 2, 1), (1043, .iadd, 1), (1044, .iaload, 1), (1045, .invokevirtual 130, 3), (1048, .aload_n 2, 1), (1049, .aload_n 0, 1), (1050, .iload_n 3, 1), (1051, .iconst 1, 1), (1052, .iadd, 1), (1053, .iaload, 1), (1054, .aload_n 0, 1), (1055, .iload_n 3, 1), (1056, .iconst 2, 1), (1057, .iadd, 1), (1058, .iaload, 1), (1059, .invokevirtual 133, 3), (1062, .if_icmp .eq 441, 3), (1065, .iconst 0, 1), (1066, .ireturn, 1), (1067, .aload_n 1, 1), (1068, .aload_n 0, 1), (1069, .iload_n 3, 1), (1070, .iconst 1, 1), (1071, .iadd, 1), (1072, .iaload, 1), (1073, .invokevirtual 134, 3), (1076, .aload_n 2, 1), (1077, .aload_n 0, 1), (1078, .iload_n 3, 1), (1079, .iconst 1, 1), (1080, .iadd, 1), (1081, .iaload, 1), (1082, .invokevirtual 137, 3), (1085, .if_icmp .eq 418, 3), (1088, .iconst 0, 1), (1089, .ireturn, 1), (1090, .aload_n 1, 1), (1091, .aload_n 0, 1), (1092, .iload_n 3, 1), (1093, .iconst 1, 1), (1094, .iadd, 1), (1095, .iaload, 1), (1096, .aload_n 0, 1), (1097, .iload_n 3, 1), (1098, .iconst 2, 1), (1099, .iadd, 1), (1100, .iaload, 1), (1101, .invokevirtual 138, 3), (1104, .aload_n 2, 1), (1105, .aload_n 0, 1), (1106, .iload_n 3, 1), (1107, .iconst 1, 1), (1108, .iadd, 1), (1109, .iaload, 1), (1110, .aload_n 0, 1), (1111, .iload_n 3, 1)] = true := by decide +kernel
theorem dL_law_1012 : decode cL_law 1012 = .ok (.invokevirtual 126, 3) := chkD_at okL_law_8 0 rfl
theorem dL_law_1015 : decode cL_law 1015 = .ok (.aload_n 2, 1) := chkD_at okL_law_8 1 rfl
theorem dL_law_1016 : decode cL_law 1016 = .ok (.aload_n 0, 1) := chkD_at okL_law_8 2 rfl
theorem dL_law_1017 : decode cL_law 1017 = .ok (.iload_n 3, 1) := chkD_at okL_law_8 3 rfl
theorem dL_law_1018 : decode cL_law 1018 = .ok (.iconst 1, 1) := chkD_at okL_law_8 4 rfl
theorem dL_law_1019 : decode cL_law 1019 = .ok (.iadd, 1) := chkD_at okL_law_8 5 rfl
theorem dL_law_1020 : decode cL_law 1020 = .ok (.iaload, 1) := chkD_at okL_law_8 6 rfl
theorem dL_law_1021 : decode cL_law 1021 = .ok (.aload_n 0, 1) := chkD_at okL_law_8 7 rfl
theorem dL_law_1022 : decode cL_law 1022 = .ok (.iload_n 3, 1) := chkD_at okL_law_8 8 rfl
theorem dL_law_1023 : decode cL_law 1023 = .ok (.iconst 2, 1) := chkD_at okL_law_8 9 rfl
theorem dL_law_1024 : decode cL_law 1024 = .ok (.iadd, 1) := chkD_at okL_law_8 10 rfl
theorem dL_law_1025 : decode cL_law 1025 = .ok (.iaload, 1) := chkD_at okL_law_8 11 rfl
theorem dL_law_1026 : decode cL_law 1026 = .ok (.invokevirtual 129, 3) := chkD_at okL_law_8 12 rfl
theorem dL_law_1029 : decode cL_law 1029 = .ok (.if_icmp .eq 474, 3) := chkD_at okL_law_8 13 rfl
theorem dL_law_1032 : decode cL_law 1032 = .ok (.iconst 0, 1) := chkD_at okL_law_8 14 rfl
theorem dL_law_1033 : decode cL_law 1033 = .ok (.ireturn, 1) := chkD_at okL_law_8 15 rfl
theorem dL_law_1034 : decode cL_law 1034 = .ok (.aload_n 1, 1) := chkD_at okL_law_8 16 rfl
theorem dL_law_1035 : decode cL_law 1035 = .ok (.aload_n 0, 1) := chkD_at okL_law_8 17 rfl
theorem dL_law_1036 : decode cL_law 1036 = .ok (.iload_n 3, 1) := chkD_at okL_law_8 18 rfl
theorem dL_law_1037 : decode cL_law 1037 = .ok (.iconst 1, 1) := chkD_at okL_law_8 19 rfl
theorem dL_law_1038 : decode cL_law 1038 = .ok (.iadd, 1) := chkD_at okL_law_8 20 rfl
theorem dL_law_1039 : decode cL_law 1039 = .ok (.iaload, 1) := chkD_at okL_law_8 21 rfl
theorem dL_law_1040 : decode cL_law 1040 = .ok (.aload_n 0, 1) := chkD_at okL_law_8 22 rfl
theorem dL_law_1041 : decode cL_law 1041 = .ok (.iload_n 3, 1) := chkD_at okL_law_8 23 rfl
theorem dL_law_1042 : decode cL_law 1042 = .ok (.iconst 2, 1) := chkD_at okL_law_8 24 rfl
theorem dL_law_1043 : decode cL_law 1043 = .ok (.iadd, 1) := chkD_at okL_law_8 25 rfl
theorem dL_law_1044 : decode cL_law 1044 = .ok (.iaload, 1) := chkD_at okL_law_8 26 rfl
theorem dL_law_1045 : decode cL_law 1045 = .ok (.invokevirtual 130, 3) := chkD_at okL_law_8 27 rfl
theorem dL_law_1048 : decode cL_law 1048 = .ok (.aload_n 2, 1) := chkD_at okL_law_8 28 rfl
theorem dL_law_1049 : decode cL_law 1049 = .ok (.aload_n 0, 1) := chkD_at okL_law_8 29 rfl
theorem dL_law_1050 : decode cL_law 1050 = .ok (.iload_n 3, 1) := chkD_at okL_law_8 30 rfl
theorem dL_law_1051 : decode cL_law 1051 = .ok (.iconst 1, 1) := chkD_at okL_law_8 31 rfl
theorem dL_law_1052 : decode cL_law 1052 = .ok (.iadd, 1) := chkD_at okL_law_8 32 rfl
theorem dL_law_1053 : decode cL_law 1053 = .ok (.iaload, 1) := chkD_at okL_law_8 33 rfl
theorem dL_law_1054 : decode cL_law 1054 = .ok (.aload_n 0, 1) := chkD_at okL_law_8 34 rfl
theorem dL_law_1055 : decode cL_law 1055 = .ok (.iload_n 3, 1) := chkD_at okL_law_8 35 rfl
theorem dL_law_1056 : decode cL_law 1056 = .ok (.iconst 2, 1) := chkD_at okL_law_8 36 rfl
theorem dL_law_1057 : decode cL_law 1057 = .ok (.iadd, 1) := chkD_at okL_law_8 37 rfl
theorem dL_law_1058 : decode cL_law 1058 = .ok (.iaload, 1) := chkD_at okL_law_8 38 rfl
theorem dL_law_1059 : decode cL_law 1059 = .ok (.invokevirtual 133, 3) := chkD_at okL_law_8 39 rfl
theorem dL_law_1062 : decode cL_law 1062 = .ok (.if_icmp .eq 441, 3) := chkD_at okL_law_8 40 rfl
theorem dL_law_1065 : decode cL_law 1065 = .ok (.iconst 0, 1) := chkD_at okL_law_8 41 rfl
theorem dL_law_1066 : decode cL_law 1066 = .ok (.ireturn, 1) := chkD_at okL_law_8 42 rfl
theorem dL_law_1067 : decode cL_law 1067 = .ok (.aload_n 1, 1) := chkD_at okL_law_8 43 rfl
theorem dL_law_1068 : decode cL_law 1068 = .ok (.aload_n 0, 1) := chkD_at okL_law_8 44 rfl
theorem dL_law_1069 : decode cL_law 1069 = .ok (.iload_n 3, 1) := chkD_at okL_law_8 45 rfl
theorem dL_law_1070 : decode cL_law 1070 = .ok (.iconst 1, 1) := chkD_at okL_law_8 46 rfl
theorem dL_law_1071 : decode cL_law 1071 = .ok (.iadd, 1) := chkD_at okL_law_8 47 rfl
theorem dL_law_1072 : decode cL_law 1072 = .ok (.iaload, 1) := chkD_at okL_law_8 48 rfl
theorem dL_law_1073 : decode cL_law 1073 = .ok (.invokevirtual 134, 3) := chkD_at okL_law_8 49 rfl
theorem dL_law_1076 : decode cL_law 1076 = .ok (.aload_n 2, 1) := chkD_at okL_law_8 50 rfl
theorem dL_law_1077 : decode cL_law 1077 = .ok (.aload_n 0, 1) := chkD_at okL_law_8 51 rfl
theorem dL_law_1078 : decode cL_law 1078 = .ok (.iload_n 3, 1) := chkD_at okL_law_8 52 rfl
theorem dL_law_1079 : decode cL_law 1079 = .ok (.iconst 1, 1) := chkD_at okL_law_8 53 rfl
theorem dL_law_1080 : decode cL_law 1080 = .ok (.iadd, 1) := chkD_at okL_law_8 54 rfl
theorem dL_law_1081 : decode cL_law 1081 = .ok (.iaload, 1) := chkD_at okL_law_8 55 rfl
theorem dL_law_1082 : decode cL_law 1082 = .ok (.invokevirtual 137, 3) := chkD_at okL_law_8 56 rfl
theorem dL_law_1085 : decode cL_law 1085 = .ok (.if_icmp .eq 418, 3) := chkD_at okL_law_8 57 rfl
theorem dL_law_1088 : decode cL_law 1088 = .ok (.iconst 0, 1) := chkD_at okL_law_8 58 rfl
theorem dL_law_1089 : decode cL_law 1089 = .ok (.ireturn, 1) := chkD_at okL_law_8 59 rfl
theorem dL_law_1090 : decode cL_law 1090 = .ok (.aload_n 1, 1) := chkD_at okL_law_8 60 rfl
theorem dL_law_1091 : decode cL_law 1091 = .ok (.aload_n 0, 1) := chkD_at okL_law_8 61 rfl
theorem dL_law_1092 : decode cL_law 1092 = .ok (.iload_n 3, 1) := chkD_at okL_law_8 62 rfl
theorem dL_law_1093 : decode cL_law 1093 = .ok (.iconst 1, 1) := chkD_at okL_law_8 63 rfl
theorem dL_law_1094 : decode cL_law 1094 = .ok (.iadd, 1) := chkD_at okL_law_8 64 rfl
theorem dL_law_1095 : decode cL_law 1095 = .ok (.iaload, 1) := chkD_at okL_law_8 65 rfl
theorem dL_law_1096 : decode cL_law 1096 = .ok (.aload_n 0, 1) := chkD_at okL_law_8 66 rfl
theorem dL_law_1097 : decode cL_law 1097 = .ok (.iload_n 3, 1) := chkD_at okL_law_8 67 rfl
theorem dL_law_1098 : decode cL_law 1098 = .ok (.iconst 2, 1) := chkD_at okL_law_8 68 rfl
theorem dL_law_1099 : decode cL_law 1099 = .ok (.iadd, 1) := chkD_at okL_law_8 69 rfl
theorem dL_law_1100 : decode cL_law 1100 = .ok (.iaload, 1) := chkD_at okL_law_8 70 rfl
theorem dL_law_1101 : decode cL_law 1101 = .ok (.invokevirtual 138, 3) := chkD_at okL_law_8 71 rfl
theorem dL_law_1104 : decode cL_law 1104 = .ok (.aload_n 2, 1) := chkD_at okL_law_8 72 rfl
theorem dL_law_1105 : decode cL_law 1105 = .ok (.aload_n 0, 1) := chkD_at okL_law_8 73 rfl
theorem dL_law_1106 : decode cL_law 1106 = .ok (.iload_n 3, 1) := chkD_at okL_law_8 74 rfl
theorem dL_law_1107 : decode cL_law 1107 = .ok (.iconst 1, 1) := chkD_at okL_law_8 75 rfl
theorem dL_law_1108 : decode cL_law 1108 = .ok (.iadd, 1) := chkD_at okL_law_8 76 rfl
theorem dL_law_1109 : decode cL_law 1109 = .ok (.iaload, 1) := chkD_at okL_law_8 77 rfl
theorem dL_law_1110 : decode cL_law 1110 = .ok (.aload_n 0, 1) := chkD_at okL_law_8 78 rfl
theorem dL_law_1111 : decode cL_law 1111 = .ok (.iload_n 3, 1) := chkD_at okL_law_8 79 rfl
theorem okL_law_9 : chkD cL_law [(1112, .iconst 2, 1), (1113, .iadd, 1), (1114, .iaload, 1), (1115, .invokevirtual 141, 3), (1118, .if_icmp .eq 385, 3), (1121, .iconst 0, 1), (1122, .ireturn, 1), (1123, .aload_n 1, 1), (1124, .invokevirtual 142, 3), (1127, .aload_n 2, 1), (1128, .invokevirtual 145, 3), (1131, .if_icmp .eq 372, 3), (1134, .iconst 0, 1), (1135, .ireturn, 1), (1136, .aload_n 1, 1), (1137, .invokevirtual 146, 3), (1140, .aload_n 2, 1), (1141, .invokevirtual 149, 3), (1144, .if_icmp .eq 359, 3), (1147, .iconst 0, 1), (1148, .ireturn, 1), (1149, .aload_n 1, 1), (1150, .aload_n 0, 1), (1151, .iload_n 3, 1), (1152, .iconst 1, 1), (1153, .iadd, 1), (1154, .iaload, 1), (1155, .aload_n 0, 1), (1156, .iload_n 3, 1), (1157, .iconst 2, 1), (1158, .iadd, 1), (1159, .iaload, 1), (1160, .aload_n 0, 1), (1161, .iload_n 3, 1), (1162, .iconst 3, 1), (1163, .iadd, 1), (1164, .iaload, 1), (1165, .invokevirtual 150, 3), (1168, .aload_n 2, 1), (1169, .aload_n 0, 1), (1170, .iload_n 3, 1), (1171, .iconst 1, 1), (1172, .iadd, 1), (1173, .iaload, 1), (1174, .aload_n 0, 1), (1175, .iload_n 3, 1), (1176, .iconst 2, 1), (1177, .iadd, 1), (1178, .iaload, 1), (1179, .aload_n 0, 1), (1180, .iload_n 3, 1), (1181, .iconst 3, 1), (1182, .iadd, 1), (1183, .iaload, 1), (1184, .invokevirtual 153, 3), (1187, .if_icmp .eq 316, 3), (1190, .iconst 0, 1), (1191, .ireturn, 1), (1192, .aload_n 1, 1), (1193, .aload_n 0, 1), (1194, .iload_n 3, 1), (1195, .iconst 1, 1), (1196, .iadd, 1), (1197, .iaload, 1), (1198, .aload_n 0, 1), (1199, .iload_n 3, 1), (1200, .iconst 2, 1), (1201, .iadd, 1), (1202, .iaload, 1), (1203, .aload_n 0, 1), (1204, .iload_n 3, 1), (1205, .iconst 3, 1), (1206, .iadd, 1), (1207, .iaload, 1), (1208, .i2l, 1), (1209, .bipush 32, 2), (1211, .lshl, 1), (1212, .aload_n 0, 1), (1213, .iload_n 3, 1), (1214, .iconst 4, 1)] = true := by decide +kernel
theorem dL_law_1112 : decode cL_law 1112 = .ok (.iconst 2, 1) := chkD_at okL_law_9 0 rfl
theorem dL_law_1113 : decode cL_law 1113 = .ok (.iadd, 1) := chkD_at okL_law_9 1 rfl
theorem dL_law_1114 : decode cL_law 1114 = .ok (.iaload, 1) := chkD_at okL_law_9 2 rfl
theorem dL_law_1115 : decode cL_law 1115 = .ok (.invokevirtual 141, 3) := chkD_at okL_law_9 3 rfl
theorem dL_law_1118 : decode cL_law 1118 = .ok (.if_icmp .eq 385, 3) := chkD_at okL_law_9 4 rfl
theorem dL_law_1121 : decode cL_law 1121 = .ok (.iconst 0, 1) := chkD_at okL_law_9 5 rfl
theorem dL_law_1122 : decode cL_law 1122 = .ok (.ireturn, 1) := chkD_at okL_law_9 6 rfl
theorem dL_law_1123 : decode cL_law 1123 = .ok (.aload_n 1, 1) := chkD_at okL_law_9 7 rfl
theorem dL_law_1124 : decode cL_law 1124 = .ok (.invokevirtual 142, 3) := chkD_at okL_law_9 8 rfl
theorem dL_law_1127 : decode cL_law 1127 = .ok (.aload_n 2, 1) := chkD_at okL_law_9 9 rfl
theorem dL_law_1128 : decode cL_law 1128 = .ok (.invokevirtual 145, 3) := chkD_at okL_law_9 10 rfl
theorem dL_law_1131 : decode cL_law 1131 = .ok (.if_icmp .eq 372, 3) := chkD_at okL_law_9 11 rfl
theorem dL_law_1134 : decode cL_law 1134 = .ok (.iconst 0, 1) := chkD_at okL_law_9 12 rfl
theorem dL_law_1135 : decode cL_law 1135 = .ok (.ireturn, 1) := chkD_at okL_law_9 13 rfl
theorem dL_law_1136 : decode cL_law 1136 = .ok (.aload_n 1, 1) := chkD_at okL_law_9 14 rfl
theorem dL_law_1137 : decode cL_law 1137 = .ok (.invokevirtual 146, 3) := chkD_at okL_law_9 15 rfl
theorem dL_law_1140 : decode cL_law 1140 = .ok (.aload_n 2, 1) := chkD_at okL_law_9 16 rfl
theorem dL_law_1141 : decode cL_law 1141 = .ok (.invokevirtual 149, 3) := chkD_at okL_law_9 17 rfl
theorem dL_law_1144 : decode cL_law 1144 = .ok (.if_icmp .eq 359, 3) := chkD_at okL_law_9 18 rfl
theorem dL_law_1147 : decode cL_law 1147 = .ok (.iconst 0, 1) := chkD_at okL_law_9 19 rfl
theorem dL_law_1148 : decode cL_law 1148 = .ok (.ireturn, 1) := chkD_at okL_law_9 20 rfl
theorem dL_law_1149 : decode cL_law 1149 = .ok (.aload_n 1, 1) := chkD_at okL_law_9 21 rfl
theorem dL_law_1150 : decode cL_law 1150 = .ok (.aload_n 0, 1) := chkD_at okL_law_9 22 rfl
theorem dL_law_1151 : decode cL_law 1151 = .ok (.iload_n 3, 1) := chkD_at okL_law_9 23 rfl
theorem dL_law_1152 : decode cL_law 1152 = .ok (.iconst 1, 1) := chkD_at okL_law_9 24 rfl
theorem dL_law_1153 : decode cL_law 1153 = .ok (.iadd, 1) := chkD_at okL_law_9 25 rfl
theorem dL_law_1154 : decode cL_law 1154 = .ok (.iaload, 1) := chkD_at okL_law_9 26 rfl
theorem dL_law_1155 : decode cL_law 1155 = .ok (.aload_n 0, 1) := chkD_at okL_law_9 27 rfl
theorem dL_law_1156 : decode cL_law 1156 = .ok (.iload_n 3, 1) := chkD_at okL_law_9 28 rfl
theorem dL_law_1157 : decode cL_law 1157 = .ok (.iconst 2, 1) := chkD_at okL_law_9 29 rfl
theorem dL_law_1158 : decode cL_law 1158 = .ok (.iadd, 1) := chkD_at okL_law_9 30 rfl
theorem dL_law_1159 : decode cL_law 1159 = .ok (.iaload, 1) := chkD_at okL_law_9 31 rfl
theorem dL_law_1160 : decode cL_law 1160 = .ok (.aload_n 0, 1) := chkD_at okL_law_9 32 rfl
theorem dL_law_1161 : decode cL_law 1161 = .ok (.iload_n 3, 1) := chkD_at okL_law_9 33 rfl
theorem dL_law_1162 : decode cL_law 1162 = .ok (.iconst 3, 1) := chkD_at okL_law_9 34 rfl
theorem dL_law_1163 : decode cL_law 1163 = .ok (.iadd, 1) := chkD_at okL_law_9 35 rfl
theorem dL_law_1164 : decode cL_law 1164 = .ok (.iaload, 1) := chkD_at okL_law_9 36 rfl
theorem dL_law_1165 : decode cL_law 1165 = .ok (.invokevirtual 150, 3) := chkD_at okL_law_9 37 rfl
theorem dL_law_1168 : decode cL_law 1168 = .ok (.aload_n 2, 1) := chkD_at okL_law_9 38 rfl
theorem dL_law_1169 : decode cL_law 1169 = .ok (.aload_n 0, 1) := chkD_at okL_law_9 39 rfl
theorem dL_law_1170 : decode cL_law 1170 = .ok (.iload_n 3, 1) := chkD_at okL_law_9 40 rfl
theorem dL_law_1171 : decode cL_law 1171 = .ok (.iconst 1, 1) := chkD_at okL_law_9 41 rfl
theorem dL_law_1172 : decode cL_law 1172 = .ok (.iadd, 1) := chkD_at okL_law_9 42 rfl
theorem dL_law_1173 : decode cL_law 1173 = .ok (.iaload, 1) := chkD_at okL_law_9 43 rfl
theorem dL_law_1174 : decode cL_law 1174 = .ok (.aload_n 0, 1) := chkD_at okL_law_9 44 rfl
theorem dL_law_1175 : decode cL_law 1175 = .ok (.iload_n 3, 1) := chkD_at okL_law_9 45 rfl
theorem dL_law_1176 : decode cL_law 1176 = .ok (.iconst 2, 1) := chkD_at okL_law_9 46 rfl
theorem dL_law_1177 : decode cL_law 1177 = .ok (.iadd, 1) := chkD_at okL_law_9 47 rfl
theorem dL_law_1178 : decode cL_law 1178 = .ok (.iaload, 1) := chkD_at okL_law_9 48 rfl
theorem dL_law_1179 : decode cL_law 1179 = .ok (.aload_n 0, 1) := chkD_at okL_law_9 49 rfl
theorem dL_law_1180 : decode cL_law 1180 = .ok (.iload_n 3, 1) := chkD_at okL_law_9 50 rfl
theorem dL_law_1181 : decode cL_law 1181 = .ok (.iconst 3, 1) := chkD_at okL_law_9 51 rfl
theorem dL_law_1182 : decode cL_law 1182 = .ok (.iadd, 1) := chkD_at okL_law_9 52 rfl
theorem dL_law_1183 : decode cL_law 1183 = .ok (.iaload, 1) := chkD_at okL_law_9 53 rfl
theorem dL_law_1184 : decode cL_law 1184 = .ok (.invokevirtual 153, 3) := chkD_at okL_law_9 54 rfl
theorem dL_law_1187 : decode cL_law 1187 = .ok (.if_icmp .eq 316, 3) := chkD_at okL_law_9 55 rfl
theorem dL_law_1190 : decode cL_law 1190 = .ok (.iconst 0, 1) := chkD_at okL_law_9 56 rfl
theorem dL_law_1191 : decode cL_law 1191 = .ok (.ireturn, 1) := chkD_at okL_law_9 57 rfl
theorem dL_law_1192 : decode cL_law 1192 = .ok (.aload_n 1, 1) := chkD_at okL_law_9 58 rfl
theorem dL_law_1193 : decode cL_law 1193 = .ok (.aload_n 0, 1) := chkD_at okL_law_9 59 rfl
theorem dL_law_1194 : decode cL_law 1194 = .ok (.iload_n 3, 1) := chkD_at okL_law_9 60 rfl
theorem dL_law_1195 : decode cL_law 1195 = .ok (.iconst 1, 1) := chkD_at okL_law_9 61 rfl
theorem dL_law_1196 : decode cL_law 1196 = .ok (.iadd, 1) := chkD_at okL_law_9 62 rfl
theorem dL_law_1197 : decode cL_law 1197 = .ok (.iaload, 1) := chkD_at okL_law_9 63 rfl
theorem dL_law_1198 : decode cL_law 1198 = .ok (.aload_n 0, 1) := chkD_at okL_law_9 64 rfl
theorem dL_law_1199 : decode cL_law 1199 = .ok (.iload_n 3, 1) := chkD_at okL_law_9 65 rfl
theorem dL_law_1200 : decode cL_law 1200 = .ok (.iconst 2, 1) := chkD_at okL_law_9 66 rfl
theorem dL_law_1201 : decode cL_law 1201 = .ok (.iadd, 1) := chkD_at okL_law_9 67 rfl
theorem dL_law_1202 : decode cL_law 1202 = .ok (.iaload, 1) := chkD_at okL_law_9 68 rfl
theorem dL_law_1203 : decode cL_law 1203 = .ok (.aload_n 0, 1) := chkD_at okL_law_9 69 rfl
theorem dL_law_1204 : decode cL_law 1204 = .ok (.iload_n 3, 1) := chkD_at okL_law_9 70 rfl
theorem dL_law_1205 : decode cL_law 1205 = .ok (.iconst 3, 1) := chkD_at okL_law_9 71 rfl
theorem dL_law_1206 : decode cL_law 1206 = .ok (.iadd, 1) := chkD_at okL_law_9 72 rfl
theorem dL_law_1207 : decode cL_law 1207 = .ok (.iaload, 1) := chkD_at okL_law_9 73 rfl
theorem dL_law_1208 : decode cL_law 1208 = .ok (.i2l, 1) := chkD_at okL_law_9 74 rfl
theorem dL_law_1209 : decode cL_law 1209 = .ok (.bipush 32, 2) := chkD_at okL_law_9 75 rfl
theorem dL_law_1211 : decode cL_law 1211 = .ok (.lshl, 1) := chkD_at okL_law_9 76 rfl
theorem dL_law_1212 : decode cL_law 1212 = .ok (.aload_n 0, 1) := chkD_at okL_law_9 77 rfl
theorem dL_law_1213 : decode cL_law 1213 = .ok (.iload_n 3, 1) := chkD_at okL_law_9 78 rfl
theorem dL_law_1214 : decode cL_law 1214 = .ok (.iconst 4, 1) := chkD_at okL_law_9 79 rfl
theorem okL_law_10 : chkD cL_law [(1215, .iadd, 1), (1216, .iaload, 1), (1217, .i2l, 1), (1218, .ldc2_w 154, 3), (1221, .land, 1), (1222, .lor, 1), (1223, .invokevirtual 156, 3), (1226, .aload_n 2, 1), (1227, .aload_n 0, 1), (1228, .iload_n 3, 1), (1229, .iconst 1, 1), (1230, .iadd, 1), (1231, .iaload, 1), (1232, .aload_n 0, 1), (1233, .iload_n 3, 1), (1234, .iconst 2, 1), (1235, .iadd, 1), (1236, .iaload, 1), (1237, .aload_n 0, 1), (1238, .iload_n 3, 1), (1239, .iconst 3, 1), (1240, .iadd, 1), (1241, .iaload, 1), (1242, .i2l, 1), (1243, .bipush 32, 2), (1245, .lshl, 1), (1246, .aload_n 0, 1), (1247, .iload_n 3, 1), (1248, .iconst 4, 1), (1249, .iadd, 1), (1250, .iaload, 1), (1251, .i2l, 1), (1252, .ldc2_w 154, 3), (1255, .land, 1), (1256, .lor, 1), (1257, .invokevirtual 160, 3), (1260, .lcmp, 1), (1261, .ifCond .eq 242, 3), (1264, .iconst 0, 1), (1265, .ireturn, 1), (1266, .aload_n 1, 1), (1267, .aload_n 0, 1), (1268, .iload_n 3, 1), (1269, .iconst 1, 1), (1270, .iadd, 1), (1271, .iaload, 1), (1272, .aload_n 0, 1), (1273, .iload_n 3, 1), (1274, .iconst 2, 1), (1275, .iadd, 1), (1276, .iaload, 1), (1277, .aload_n 0, 1), (1278, .iload_n 3, 1), (1279, .iconst 3, 1), (1280, .iadd, 1), (1281, .iaload, 1), (1282, .aload_n 0, 1), (1283, .iload_n 3, 1), (1284, .iconst 4, 1), (1285, .iadd, 1), (1286, .iaload, 1), (1287, .aload_n 0, 1), (1288, .iload_n 3, 1), (1289, .iconst 5, 1), (1290, .iadd, 1), (1291, .iaload, 1), (1292, .invokevirtual 161, 3), (1295, .aload_n 2, 1), (1296, .aload_n 0, 1), (1297, .iload_n 3, 1), (1298, .iconst 1, 1), (1299, .iadd, 1), (1300, .iaload, 1), (1301, .aload_n 0, 1), (1302, .iload_n 3, 1), (1303, .iconst 2, 1), (1304, .iadd, 1), (1305, .iaload, 1), (1306, .aload_n 0, 1), (1307, .iload_n 3, 1)] = true := by decide +kernel
theorem dL_law_1215 : decode cL_law 1215 = .ok (.iadd, 1) := chkD_at okL_law_10 0 rfl
theorem dL_law_1216 : decode cL_law 1216 = .ok (.iaload, 1) := chkD_at okL_law_10 1 rfl
theorem dL_law_1217 : decode cL_law 1217 = .ok (.i2l, 1) := chkD_at okL_law_10 2 rfl
theorem dL_law_1218 : decode cL_law 1218 = .ok (.ldc2_w 154, 3) := chkD_at okL_law_10 3 rfl
theorem dL_law_1221 : decode cL_law 1221 = .ok (.land, 1) := chkD_at okL_law_10 4 rfl
theorem dL_law_1222 : decode cL_law 1222 = .ok (.lor, 1) := chkD_at okL_law_10 5 rfl
theorem dL_law_1223 : decode cL_law 1223 = .ok (.invokevirtual 156, 3) := chkD_at okL_law_10 6 rfl
theorem dL_law_1226 : decode cL_law 1226 = .ok (.aload_n 2, 1) := chkD_at okL_law_10 7 rfl
theorem dL_law_1227 : decode cL_law 1227 = .ok (.aload_n 0, 1) := chkD_at okL_law_10 8 rfl
theorem dL_law_1228 : decode cL_law 1228 = .ok (.iload_n 3, 1) := chkD_at okL_law_10 9 rfl
theorem dL_law_1229 : decode cL_law 1229 = .ok (.iconst 1, 1) := chkD_at okL_law_10 10 rfl
theorem dL_law_1230 : decode cL_law 1230 = .ok (.iadd, 1) := chkD_at okL_law_10 11 rfl
theorem dL_law_1231 : decode cL_law 1231 = .ok (.iaload, 1) := chkD_at okL_law_10 12 rfl
theorem dL_law_1232 : decode cL_law 1232 = .ok (.aload_n 0, 1) := chkD_at okL_law_10 13 rfl
theorem dL_law_1233 : decode cL_law 1233 = .ok (.iload_n 3, 1) := chkD_at okL_law_10 14 rfl
theorem dL_law_1234 : decode cL_law 1234 = .ok (.iconst 2, 1) := chkD_at okL_law_10 15 rfl
theorem dL_law_1235 : decode cL_law 1235 = .ok (.iadd, 1) := chkD_at okL_law_10 16 rfl
theorem dL_law_1236 : decode cL_law 1236 = .ok (.iaload, 1) := chkD_at okL_law_10 17 rfl
theorem dL_law_1237 : decode cL_law 1237 = .ok (.aload_n 0, 1) := chkD_at okL_law_10 18 rfl
theorem dL_law_1238 : decode cL_law 1238 = .ok (.iload_n 3, 1) := chkD_at okL_law_10 19 rfl
theorem dL_law_1239 : decode cL_law 1239 = .ok (.iconst 3, 1) := chkD_at okL_law_10 20 rfl
theorem dL_law_1240 : decode cL_law 1240 = .ok (.iadd, 1) := chkD_at okL_law_10 21 rfl
theorem dL_law_1241 : decode cL_law 1241 = .ok (.iaload, 1) := chkD_at okL_law_10 22 rfl
theorem dL_law_1242 : decode cL_law 1242 = .ok (.i2l, 1) := chkD_at okL_law_10 23 rfl
theorem dL_law_1243 : decode cL_law 1243 = .ok (.bipush 32, 2) := chkD_at okL_law_10 24 rfl
theorem dL_law_1245 : decode cL_law 1245 = .ok (.lshl, 1) := chkD_at okL_law_10 25 rfl
theorem dL_law_1246 : decode cL_law 1246 = .ok (.aload_n 0, 1) := chkD_at okL_law_10 26 rfl
theorem dL_law_1247 : decode cL_law 1247 = .ok (.iload_n 3, 1) := chkD_at okL_law_10 27 rfl
theorem dL_law_1248 : decode cL_law 1248 = .ok (.iconst 4, 1) := chkD_at okL_law_10 28 rfl
theorem dL_law_1249 : decode cL_law 1249 = .ok (.iadd, 1) := chkD_at okL_law_10 29 rfl
theorem dL_law_1250 : decode cL_law 1250 = .ok (.iaload, 1) := chkD_at okL_law_10 30 rfl
theorem dL_law_1251 : decode cL_law 1251 = .ok (.i2l, 1) := chkD_at okL_law_10 31 rfl
theorem dL_law_1252 : decode cL_law 1252 = .ok (.ldc2_w 154, 3) := chkD_at okL_law_10 32 rfl
theorem dL_law_1255 : decode cL_law 1255 = .ok (.land, 1) := chkD_at okL_law_10 33 rfl
theorem dL_law_1256 : decode cL_law 1256 = .ok (.lor, 1) := chkD_at okL_law_10 34 rfl
theorem dL_law_1257 : decode cL_law 1257 = .ok (.invokevirtual 160, 3) := chkD_at okL_law_10 35 rfl
theorem dL_law_1260 : decode cL_law 1260 = .ok (.lcmp, 1) := chkD_at okL_law_10 36 rfl
theorem dL_law_1261 : decode cL_law 1261 = .ok (.ifCond .eq 242, 3) := chkD_at okL_law_10 37 rfl
theorem dL_law_1264 : decode cL_law 1264 = .ok (.iconst 0, 1) := chkD_at okL_law_10 38 rfl
theorem dL_law_1265 : decode cL_law 1265 = .ok (.ireturn, 1) := chkD_at okL_law_10 39 rfl
theorem dL_law_1266 : decode cL_law 1266 = .ok (.aload_n 1, 1) := chkD_at okL_law_10 40 rfl
theorem dL_law_1267 : decode cL_law 1267 = .ok (.aload_n 0, 1) := chkD_at okL_law_10 41 rfl
theorem dL_law_1268 : decode cL_law 1268 = .ok (.iload_n 3, 1) := chkD_at okL_law_10 42 rfl
theorem dL_law_1269 : decode cL_law 1269 = .ok (.iconst 1, 1) := chkD_at okL_law_10 43 rfl
theorem dL_law_1270 : decode cL_law 1270 = .ok (.iadd, 1) := chkD_at okL_law_10 44 rfl
theorem dL_law_1271 : decode cL_law 1271 = .ok (.iaload, 1) := chkD_at okL_law_10 45 rfl
theorem dL_law_1272 : decode cL_law 1272 = .ok (.aload_n 0, 1) := chkD_at okL_law_10 46 rfl
theorem dL_law_1273 : decode cL_law 1273 = .ok (.iload_n 3, 1) := chkD_at okL_law_10 47 rfl
theorem dL_law_1274 : decode cL_law 1274 = .ok (.iconst 2, 1) := chkD_at okL_law_10 48 rfl
theorem dL_law_1275 : decode cL_law 1275 = .ok (.iadd, 1) := chkD_at okL_law_10 49 rfl
theorem dL_law_1276 : decode cL_law 1276 = .ok (.iaload, 1) := chkD_at okL_law_10 50 rfl
theorem dL_law_1277 : decode cL_law 1277 = .ok (.aload_n 0, 1) := chkD_at okL_law_10 51 rfl
theorem dL_law_1278 : decode cL_law 1278 = .ok (.iload_n 3, 1) := chkD_at okL_law_10 52 rfl
theorem dL_law_1279 : decode cL_law 1279 = .ok (.iconst 3, 1) := chkD_at okL_law_10 53 rfl
theorem dL_law_1280 : decode cL_law 1280 = .ok (.iadd, 1) := chkD_at okL_law_10 54 rfl
theorem dL_law_1281 : decode cL_law 1281 = .ok (.iaload, 1) := chkD_at okL_law_10 55 rfl
theorem dL_law_1282 : decode cL_law 1282 = .ok (.aload_n 0, 1) := chkD_at okL_law_10 56 rfl
theorem dL_law_1283 : decode cL_law 1283 = .ok (.iload_n 3, 1) := chkD_at okL_law_10 57 rfl
theorem dL_law_1284 : decode cL_law 1284 = .ok (.iconst 4, 1) := chkD_at okL_law_10 58 rfl
theorem dL_law_1285 : decode cL_law 1285 = .ok (.iadd, 1) := chkD_at okL_law_10 59 rfl
theorem dL_law_1286 : decode cL_law 1286 = .ok (.iaload, 1) := chkD_at okL_law_10 60 rfl
theorem dL_law_1287 : decode cL_law 1287 = .ok (.aload_n 0, 1) := chkD_at okL_law_10 61 rfl
theorem dL_law_1288 : decode cL_law 1288 = .ok (.iload_n 3, 1) := chkD_at okL_law_10 62 rfl
theorem dL_law_1289 : decode cL_law 1289 = .ok (.iconst 5, 1) := chkD_at okL_law_10 63 rfl
theorem dL_law_1290 : decode cL_law 1290 = .ok (.iadd, 1) := chkD_at okL_law_10 64 rfl
theorem dL_law_1291 : decode cL_law 1291 = .ok (.iaload, 1) := chkD_at okL_law_10 65 rfl
theorem dL_law_1292 : decode cL_law 1292 = .ok (.invokevirtual 161, 3) := chkD_at okL_law_10 66 rfl
theorem dL_law_1295 : decode cL_law 1295 = .ok (.aload_n 2, 1) := chkD_at okL_law_10 67 rfl
theorem dL_law_1296 : decode cL_law 1296 = .ok (.aload_n 0, 1) := chkD_at okL_law_10 68 rfl
theorem dL_law_1297 : decode cL_law 1297 = .ok (.iload_n 3, 1) := chkD_at okL_law_10 69 rfl
theorem dL_law_1298 : decode cL_law 1298 = .ok (.iconst 1, 1) := chkD_at okL_law_10 70 rfl
theorem dL_law_1299 : decode cL_law 1299 = .ok (.iadd, 1) := chkD_at okL_law_10 71 rfl
theorem dL_law_1300 : decode cL_law 1300 = .ok (.iaload, 1) := chkD_at okL_law_10 72 rfl
theorem dL_law_1301 : decode cL_law 1301 = .ok (.aload_n 0, 1) := chkD_at okL_law_10 73 rfl
theorem dL_law_1302 : decode cL_law 1302 = .ok (.iload_n 3, 1) := chkD_at okL_law_10 74 rfl
theorem dL_law_1303 : decode cL_law 1303 = .ok (.iconst 2, 1) := chkD_at okL_law_10 75 rfl
theorem dL_law_1304 : decode cL_law 1304 = .ok (.iadd, 1) := chkD_at okL_law_10 76 rfl
theorem dL_law_1305 : decode cL_law 1305 = .ok (.iaload, 1) := chkD_at okL_law_10 77 rfl
theorem dL_law_1306 : decode cL_law 1306 = .ok (.aload_n 0, 1) := chkD_at okL_law_10 78 rfl
theorem dL_law_1307 : decode cL_law 1307 = .ok (.iload_n 3, 1) := chkD_at okL_law_10 79 rfl
theorem okL_law_11 : chkD cL_law [(1308, .iconst 3, 1), (1309, .iadd, 1), (1310, .iaload, 1), (1311, .aload_n 0, 1), (1312, .iload_n 3, 1), (1313, .iconst 4, 1), (1314, .iadd, 1), (1315, .iaload, 1), (1316, .aload_n 0, 1), (1317, .iload_n 3, 1), (1318, .iconst 5, 1), (1319, .iadd, 1), (1320, .iaload, 1), (1321, .invokevirtual 165, 3), (1324, .if_icmp .eq 179, 3), (1327, .iconst 0, 1), (1328, .ireturn, 1), (1329, .aload_n 1, 1), (1330, .aload_n 0, 1), (1331, .iload_n 3, 1), (1332, .iconst 1, 1), (1333, .iadd, 1), (1334, .iaload, 1), (1335, .invokevirtual 166, 3), (1338, .aload_n 2, 1), (1339, .aload_n 0, 1), (1340, .iload_n 3, 1), (1341, .iconst 1, 1), (1342, .iadd, 1), (1343, .iaload, 1), (1344, .invokevirtual 169, 3), (1347, .if_icmp .eq 156, 3), (1350, .iconst 0, 1), (1351, .ireturn, 1), (1352, .aload_n 1, 1), (1353, .aload_n 0, 1), (1354, .iload_n 3, 1), (1355, .iconst 1, 1), (1356, .iadd, 1), (1357, .iaload, 1), (1358, .aload_n 0, 1), (1359, .iload_n 3, 1), (1360, .iconst 2, 1), (1361, .iadd, 1), (1362, .iaload, 1), (1363, .invokevirtual 170, 3), (1366, .aload_n 2, 1), (1367, .aload_n 0, 1), (1368, .iload_n 3, 1), (1369, .iconst 1, 1), (1370, .iadd, 1), (1371, .iaload, 1), (1372, .aload_n 0, 1), (1373, .iload_n 3, 1), (1374, .iconst 2, 1), (1375, .iadd, 1), (1376, .iaload, 1), (1377, .invokevirtual 173, 3), (1380, .if_icmp .eq 123, 3), (1383, .iconst 0, 1), (1384, .ireturn, 1), (1385, .aload_n 1, 1), (1386, .aload_n 0, 1), (1387, .iload_n 3, 1), (1388, .iconst 1, 1), (1389, .iadd, 1), (1390, .iaload, 1), (1391, .aload_n 0, 1), (1392, .iload_n 3, 1), (1393, .iconst 2, 1), (1394, .iadd, 1), (1395, .iaload, 1), (1396, .invokevirtual 174, 3), (1399, .aload_n 2, 1), (1400, .aload_n 0, 1), (1401, .iload_n 3, 1), (1402, .iconst 1, 1), (1403, .iadd, 1), (1404, .iaload, 1), (1405, .aload_n 0, 1)] = true := by decide +kernel
theorem dL_law_1308 : decode cL_law 1308 = .ok (.iconst 3, 1) := chkD_at okL_law_11 0 rfl
theorem dL_law_1309 : decode cL_law 1309 = .ok (.iadd, 1) := chkD_at okL_law_11 1 rfl
theorem dL_law_1310 : decode cL_law 1310 = .ok (.iaload, 1) := chkD_at okL_law_11 2 rfl
theorem dL_law_1311 : decode cL_law 1311 = .ok (.aload_n 0, 1) := chkD_at okL_law_11 3 rfl
theorem dL_law_1312 : decode cL_law 1312 = .ok (.iload_n 3, 1) := chkD_at okL_law_11 4 rfl
theorem dL_law_1313 : decode cL_law 1313 = .ok (.iconst 4, 1) := chkD_at okL_law_11 5 rfl
theorem dL_law_1314 : decode cL_law 1314 = .ok (.iadd, 1) := chkD_at okL_law_11 6 rfl
theorem dL_law_1315 : decode cL_law 1315 = .ok (.iaload, 1) := chkD_at okL_law_11 7 rfl
theorem dL_law_1316 : decode cL_law 1316 = .ok (.aload_n 0, 1) := chkD_at okL_law_11 8 rfl
theorem dL_law_1317 : decode cL_law 1317 = .ok (.iload_n 3, 1) := chkD_at okL_law_11 9 rfl
theorem dL_law_1318 : decode cL_law 1318 = .ok (.iconst 5, 1) := chkD_at okL_law_11 10 rfl
theorem dL_law_1319 : decode cL_law 1319 = .ok (.iadd, 1) := chkD_at okL_law_11 11 rfl
theorem dL_law_1320 : decode cL_law 1320 = .ok (.iaload, 1) := chkD_at okL_law_11 12 rfl
theorem dL_law_1321 : decode cL_law 1321 = .ok (.invokevirtual 165, 3) := chkD_at okL_law_11 13 rfl
theorem dL_law_1324 : decode cL_law 1324 = .ok (.if_icmp .eq 179, 3) := chkD_at okL_law_11 14 rfl
theorem dL_law_1327 : decode cL_law 1327 = .ok (.iconst 0, 1) := chkD_at okL_law_11 15 rfl
theorem dL_law_1328 : decode cL_law 1328 = .ok (.ireturn, 1) := chkD_at okL_law_11 16 rfl
theorem dL_law_1329 : decode cL_law 1329 = .ok (.aload_n 1, 1) := chkD_at okL_law_11 17 rfl
theorem dL_law_1330 : decode cL_law 1330 = .ok (.aload_n 0, 1) := chkD_at okL_law_11 18 rfl
theorem dL_law_1331 : decode cL_law 1331 = .ok (.iload_n 3, 1) := chkD_at okL_law_11 19 rfl
theorem dL_law_1332 : decode cL_law 1332 = .ok (.iconst 1, 1) := chkD_at okL_law_11 20 rfl
theorem dL_law_1333 : decode cL_law 1333 = .ok (.iadd, 1) := chkD_at okL_law_11 21 rfl
theorem dL_law_1334 : decode cL_law 1334 = .ok (.iaload, 1) := chkD_at okL_law_11 22 rfl
theorem dL_law_1335 : decode cL_law 1335 = .ok (.invokevirtual 166, 3) := chkD_at okL_law_11 23 rfl
theorem dL_law_1338 : decode cL_law 1338 = .ok (.aload_n 2, 1) := chkD_at okL_law_11 24 rfl
theorem dL_law_1339 : decode cL_law 1339 = .ok (.aload_n 0, 1) := chkD_at okL_law_11 25 rfl
theorem dL_law_1340 : decode cL_law 1340 = .ok (.iload_n 3, 1) := chkD_at okL_law_11 26 rfl
theorem dL_law_1341 : decode cL_law 1341 = .ok (.iconst 1, 1) := chkD_at okL_law_11 27 rfl
theorem dL_law_1342 : decode cL_law 1342 = .ok (.iadd, 1) := chkD_at okL_law_11 28 rfl
theorem dL_law_1343 : decode cL_law 1343 = .ok (.iaload, 1) := chkD_at okL_law_11 29 rfl
theorem dL_law_1344 : decode cL_law 1344 = .ok (.invokevirtual 169, 3) := chkD_at okL_law_11 30 rfl
theorem dL_law_1347 : decode cL_law 1347 = .ok (.if_icmp .eq 156, 3) := chkD_at okL_law_11 31 rfl
theorem dL_law_1350 : decode cL_law 1350 = .ok (.iconst 0, 1) := chkD_at okL_law_11 32 rfl
theorem dL_law_1351 : decode cL_law 1351 = .ok (.ireturn, 1) := chkD_at okL_law_11 33 rfl
theorem dL_law_1352 : decode cL_law 1352 = .ok (.aload_n 1, 1) := chkD_at okL_law_11 34 rfl
theorem dL_law_1353 : decode cL_law 1353 = .ok (.aload_n 0, 1) := chkD_at okL_law_11 35 rfl
theorem dL_law_1354 : decode cL_law 1354 = .ok (.iload_n 3, 1) := chkD_at okL_law_11 36 rfl
theorem dL_law_1355 : decode cL_law 1355 = .ok (.iconst 1, 1) := chkD_at okL_law_11 37 rfl
theorem dL_law_1356 : decode cL_law 1356 = .ok (.iadd, 1) := chkD_at okL_law_11 38 rfl
theorem dL_law_1357 : decode cL_law 1357 = .ok (.iaload, 1) := chkD_at okL_law_11 39 rfl
theorem dL_law_1358 : decode cL_law 1358 = .ok (.aload_n 0, 1) := chkD_at okL_law_11 40 rfl
theorem dL_law_1359 : decode cL_law 1359 = .ok (.iload_n 3, 1) := chkD_at okL_law_11 41 rfl
theorem dL_law_1360 : decode cL_law 1360 = .ok (.iconst 2, 1) := chkD_at okL_law_11 42 rfl
theorem dL_law_1361 : decode cL_law 1361 = .ok (.iadd, 1) := chkD_at okL_law_11 43 rfl
theorem dL_law_1362 : decode cL_law 1362 = .ok (.iaload, 1) := chkD_at okL_law_11 44 rfl
theorem dL_law_1363 : decode cL_law 1363 = .ok (.invokevirtual 170, 3) := chkD_at okL_law_11 45 rfl
theorem dL_law_1366 : decode cL_law 1366 = .ok (.aload_n 2, 1) := chkD_at okL_law_11 46 rfl
theorem dL_law_1367 : decode cL_law 1367 = .ok (.aload_n 0, 1) := chkD_at okL_law_11 47 rfl
theorem dL_law_1368 : decode cL_law 1368 = .ok (.iload_n 3, 1) := chkD_at okL_law_11 48 rfl
theorem dL_law_1369 : decode cL_law 1369 = .ok (.iconst 1, 1) := chkD_at okL_law_11 49 rfl
theorem dL_law_1370 : decode cL_law 1370 = .ok (.iadd, 1) := chkD_at okL_law_11 50 rfl
theorem dL_law_1371 : decode cL_law 1371 = .ok (.iaload, 1) := chkD_at okL_law_11 51 rfl
theorem dL_law_1372 : decode cL_law 1372 = .ok (.aload_n 0, 1) := chkD_at okL_law_11 52 rfl
theorem dL_law_1373 : decode cL_law 1373 = .ok (.iload_n 3, 1) := chkD_at okL_law_11 53 rfl
theorem dL_law_1374 : decode cL_law 1374 = .ok (.iconst 2, 1) := chkD_at okL_law_11 54 rfl
theorem dL_law_1375 : decode cL_law 1375 = .ok (.iadd, 1) := chkD_at okL_law_11 55 rfl
theorem dL_law_1376 : decode cL_law 1376 = .ok (.iaload, 1) := chkD_at okL_law_11 56 rfl
theorem dL_law_1377 : decode cL_law 1377 = .ok (.invokevirtual 173, 3) := chkD_at okL_law_11 57 rfl
theorem dL_law_1380 : decode cL_law 1380 = .ok (.if_icmp .eq 123, 3) := chkD_at okL_law_11 58 rfl
theorem dL_law_1383 : decode cL_law 1383 = .ok (.iconst 0, 1) := chkD_at okL_law_11 59 rfl
theorem dL_law_1384 : decode cL_law 1384 = .ok (.ireturn, 1) := chkD_at okL_law_11 60 rfl
theorem dL_law_1385 : decode cL_law 1385 = .ok (.aload_n 1, 1) := chkD_at okL_law_11 61 rfl
theorem dL_law_1386 : decode cL_law 1386 = .ok (.aload_n 0, 1) := chkD_at okL_law_11 62 rfl
theorem dL_law_1387 : decode cL_law 1387 = .ok (.iload_n 3, 1) := chkD_at okL_law_11 63 rfl
theorem dL_law_1388 : decode cL_law 1388 = .ok (.iconst 1, 1) := chkD_at okL_law_11 64 rfl
theorem dL_law_1389 : decode cL_law 1389 = .ok (.iadd, 1) := chkD_at okL_law_11 65 rfl
theorem dL_law_1390 : decode cL_law 1390 = .ok (.iaload, 1) := chkD_at okL_law_11 66 rfl
theorem dL_law_1391 : decode cL_law 1391 = .ok (.aload_n 0, 1) := chkD_at okL_law_11 67 rfl
theorem dL_law_1392 : decode cL_law 1392 = .ok (.iload_n 3, 1) := chkD_at okL_law_11 68 rfl
theorem dL_law_1393 : decode cL_law 1393 = .ok (.iconst 2, 1) := chkD_at okL_law_11 69 rfl
theorem dL_law_1394 : decode cL_law 1394 = .ok (.iadd, 1) := chkD_at okL_law_11 70 rfl
theorem dL_law_1395 : decode cL_law 1395 = .ok (.iaload, 1) := chkD_at okL_law_11 71 rfl
theorem dL_law_1396 : decode cL_law 1396 = .ok (.invokevirtual 174, 3) := chkD_at okL_law_11 72 rfl
theorem dL_law_1399 : decode cL_law 1399 = .ok (.aload_n 2, 1) := chkD_at okL_law_11 73 rfl
theorem dL_law_1400 : decode cL_law 1400 = .ok (.aload_n 0, 1) := chkD_at okL_law_11 74 rfl
theorem dL_law_1401 : decode cL_law 1401 = .ok (.iload_n 3, 1) := chkD_at okL_law_11 75 rfl
theorem dL_law_1402 : decode cL_law 1402 = .ok (.iconst 1, 1) := chkD_at okL_law_11 76 rfl
theorem dL_law_1403 : decode cL_law 1403 = .ok (.iadd, 1) := chkD_at okL_law_11 77 rfl
theorem dL_law_1404 : decode cL_law 1404 = .ok (.iaload, 1) := chkD_at okL_law_11 78 rfl
theorem dL_law_1405 : decode cL_law 1405 = .ok (.aload_n 0, 1) := chkD_at okL_law_11 79 rfl
theorem okL_law_12 : chkD cL_law [(1406, .iload_n 3, 1), (1407, .iconst 2, 1), (1408, .iadd, 1), (1409, .iaload, 1), (1410, .invokevirtual 177, 3), (1413, .if_icmp .eq 90, 3), (1416, .iconst 0, 1), (1417, .ireturn, 1), (1418, .aload_n 1, 1), (1419, .invokevirtual 178, 3), (1422, .aload_n 2, 1), (1423, .invokevirtual 181, 3), (1426, .if_icmp .eq 77, 3), (1429, .iconst 0, 1), (1430, .ireturn, 1), (1431, .aload_n 1, 1), (1432, .invokevirtual 182, 3), (1435, .aload_n 2, 1), (1436, .invokevirtual 185, 3), (1439, .if_icmp .eq 64, 3), (1442, .iconst 0, 1), (1443, .ireturn, 1), (1444, .aload_n 1, 1), (1445, .invokevirtual 186, 3), (1448, .aload_n 2, 1), (1449, .invokevirtual 189, 3), (1452, .if_icmp .eq 51, 3), (1455, .iconst 0, 1), (1456, .ireturn, 1), (1457, .aload_n 1, 1), (1458, .aload_n 0, 1), (1459, .iload_n 3, 1), (1460, .iconst 1, 1), (1461, .iadd, 1), (1462, .iaload, 1), (1463, .invokevirtual 190, 3), (1466, .aload_n 2, 1), (1467, .aload_n 0, 1), (1468, .iload_n 3, 1), (1469, .iconst 1, 1), (1470, .iadd, 1), (1471, .iaload, 1), (1472, .invokevirtual 193, 3), (1475, .if_icmp .eq 28, 3), (1478, .iconst 0, 1), (1479, .ireturn, 1), (1480, .aload_n 1, 1), (1481, .aload_n 0, 1), (1482, .iload_n 3, 1), (1483, .iconst 1, 1), (1484, .iadd, 1), (1485, .iaload, 1), (1486, .invokevirtual 194, 3), (1489, .aload_n 2, 1), (1490, .aload_n 0, 1), (1491, .iload_n 3, 1), (1492, .iconst 1, 1), (1493, .iadd, 1), (1494, .iaload, 1), (1495, .invokevirtual 197, 3), (1498, .if_icmp .eq 5, 3), (1501, .iconst 0, 1), (1502, .ireturn, 1), (1503, .iinc 3 6, 3), (1506, .goto (-1488), 3), (1509, .iconst 1, 1), (1510, .ireturn, 1)] = true := by decide +kernel
theorem dL_law_1406 : decode cL_law 1406 = .ok (.iload_n 3, 1) := chkD_at okL_law_12 0 rfl
theorem dL_law_1407 : decode cL_law 1407 = .ok (.iconst 2, 1) := chkD_at okL_law_12 1 rfl
theorem dL_law_1408 : decode cL_law 1408 = .ok (.iadd, 1) := chkD_at okL_law_12 2 rfl
theorem dL_law_1409 : decode cL_law 1409 = .ok (.iaload, 1) := chkD_at okL_law_12 3 rfl
theorem dL_law_1410 : decode cL_law 1410 = .ok (.invokevirtual 177, 3) := chkD_at okL_law_12 4 rfl
theorem dL_law_1413 : decode cL_law 1413 = .ok (.if_icmp .eq 90, 3) := chkD_at okL_law_12 5 rfl
theorem dL_law_1416 : decode cL_law 1416 = .ok (.iconst 0, 1) := chkD_at okL_law_12 6 rfl
theorem dL_law_1417 : decode cL_law 1417 = .ok (.ireturn, 1) := chkD_at okL_law_12 7 rfl
theorem dL_law_1418 : decode cL_law 1418 = .ok (.aload_n 1, 1) := chkD_at okL_law_12 8 rfl
theorem dL_law_1419 : decode cL_law 1419 = .ok (.invokevirtual 178, 3) := chkD_at okL_law_12 9 rfl
theorem dL_law_1422 : decode cL_law 1422 = .ok (.aload_n 2, 1) := chkD_at okL_law_12 10 rfl
theorem dL_law_1423 : decode cL_law 1423 = .ok (.invokevirtual 181, 3) := chkD_at okL_law_12 11 rfl
theorem dL_law_1426 : decode cL_law 1426 = .ok (.if_icmp .eq 77, 3) := chkD_at okL_law_12 12 rfl
theorem dL_law_1429 : decode cL_law 1429 = .ok (.iconst 0, 1) := chkD_at okL_law_12 13 rfl
theorem dL_law_1430 : decode cL_law 1430 = .ok (.ireturn, 1) := chkD_at okL_law_12 14 rfl
theorem dL_law_1431 : decode cL_law 1431 = .ok (.aload_n 1, 1) := chkD_at okL_law_12 15 rfl
theorem dL_law_1432 : decode cL_law 1432 = .ok (.invokevirtual 182, 3) := chkD_at okL_law_12 16 rfl
theorem dL_law_1435 : decode cL_law 1435 = .ok (.aload_n 2, 1) := chkD_at okL_law_12 17 rfl
theorem dL_law_1436 : decode cL_law 1436 = .ok (.invokevirtual 185, 3) := chkD_at okL_law_12 18 rfl
theorem dL_law_1439 : decode cL_law 1439 = .ok (.if_icmp .eq 64, 3) := chkD_at okL_law_12 19 rfl
theorem dL_law_1442 : decode cL_law 1442 = .ok (.iconst 0, 1) := chkD_at okL_law_12 20 rfl
theorem dL_law_1443 : decode cL_law 1443 = .ok (.ireturn, 1) := chkD_at okL_law_12 21 rfl
theorem dL_law_1444 : decode cL_law 1444 = .ok (.aload_n 1, 1) := chkD_at okL_law_12 22 rfl
theorem dL_law_1445 : decode cL_law 1445 = .ok (.invokevirtual 186, 3) := chkD_at okL_law_12 23 rfl
theorem dL_law_1448 : decode cL_law 1448 = .ok (.aload_n 2, 1) := chkD_at okL_law_12 24 rfl
theorem dL_law_1449 : decode cL_law 1449 = .ok (.invokevirtual 189, 3) := chkD_at okL_law_12 25 rfl
theorem dL_law_1452 : decode cL_law 1452 = .ok (.if_icmp .eq 51, 3) := chkD_at okL_law_12 26 rfl
theorem dL_law_1455 : decode cL_law 1455 = .ok (.iconst 0, 1) := chkD_at okL_law_12 27 rfl
theorem dL_law_1456 : decode cL_law 1456 = .ok (.ireturn, 1) := chkD_at okL_law_12 28 rfl
theorem dL_law_1457 : decode cL_law 1457 = .ok (.aload_n 1, 1) := chkD_at okL_law_12 29 rfl
theorem dL_law_1458 : decode cL_law 1458 = .ok (.aload_n 0, 1) := chkD_at okL_law_12 30 rfl
theorem dL_law_1459 : decode cL_law 1459 = .ok (.iload_n 3, 1) := chkD_at okL_law_12 31 rfl
theorem dL_law_1460 : decode cL_law 1460 = .ok (.iconst 1, 1) := chkD_at okL_law_12 32 rfl
theorem dL_law_1461 : decode cL_law 1461 = .ok (.iadd, 1) := chkD_at okL_law_12 33 rfl
theorem dL_law_1462 : decode cL_law 1462 = .ok (.iaload, 1) := chkD_at okL_law_12 34 rfl
theorem dL_law_1463 : decode cL_law 1463 = .ok (.invokevirtual 190, 3) := chkD_at okL_law_12 35 rfl
theorem dL_law_1466 : decode cL_law 1466 = .ok (.aload_n 2, 1) := chkD_at okL_law_12 36 rfl
theorem dL_law_1467 : decode cL_law 1467 = .ok (.aload_n 0, 1) := chkD_at okL_law_12 37 rfl
theorem dL_law_1468 : decode cL_law 1468 = .ok (.iload_n 3, 1) := chkD_at okL_law_12 38 rfl
theorem dL_law_1469 : decode cL_law 1469 = .ok (.iconst 1, 1) := chkD_at okL_law_12 39 rfl
theorem dL_law_1470 : decode cL_law 1470 = .ok (.iadd, 1) := chkD_at okL_law_12 40 rfl
theorem dL_law_1471 : decode cL_law 1471 = .ok (.iaload, 1) := chkD_at okL_law_12 41 rfl
theorem dL_law_1472 : decode cL_law 1472 = .ok (.invokevirtual 193, 3) := chkD_at okL_law_12 42 rfl
theorem dL_law_1475 : decode cL_law 1475 = .ok (.if_icmp .eq 28, 3) := chkD_at okL_law_12 43 rfl
theorem dL_law_1478 : decode cL_law 1478 = .ok (.iconst 0, 1) := chkD_at okL_law_12 44 rfl
theorem dL_law_1479 : decode cL_law 1479 = .ok (.ireturn, 1) := chkD_at okL_law_12 45 rfl
theorem dL_law_1480 : decode cL_law 1480 = .ok (.aload_n 1, 1) := chkD_at okL_law_12 46 rfl
theorem dL_law_1481 : decode cL_law 1481 = .ok (.aload_n 0, 1) := chkD_at okL_law_12 47 rfl
theorem dL_law_1482 : decode cL_law 1482 = .ok (.iload_n 3, 1) := chkD_at okL_law_12 48 rfl
theorem dL_law_1483 : decode cL_law 1483 = .ok (.iconst 1, 1) := chkD_at okL_law_12 49 rfl
theorem dL_law_1484 : decode cL_law 1484 = .ok (.iadd, 1) := chkD_at okL_law_12 50 rfl
theorem dL_law_1485 : decode cL_law 1485 = .ok (.iaload, 1) := chkD_at okL_law_12 51 rfl
theorem dL_law_1486 : decode cL_law 1486 = .ok (.invokevirtual 194, 3) := chkD_at okL_law_12 52 rfl
theorem dL_law_1489 : decode cL_law 1489 = .ok (.aload_n 2, 1) := chkD_at okL_law_12 53 rfl
theorem dL_law_1490 : decode cL_law 1490 = .ok (.aload_n 0, 1) := chkD_at okL_law_12 54 rfl
theorem dL_law_1491 : decode cL_law 1491 = .ok (.iload_n 3, 1) := chkD_at okL_law_12 55 rfl
theorem dL_law_1492 : decode cL_law 1492 = .ok (.iconst 1, 1) := chkD_at okL_law_12 56 rfl
theorem dL_law_1493 : decode cL_law 1493 = .ok (.iadd, 1) := chkD_at okL_law_12 57 rfl
theorem dL_law_1494 : decode cL_law 1494 = .ok (.iaload, 1) := chkD_at okL_law_12 58 rfl
theorem dL_law_1495 : decode cL_law 1495 = .ok (.invokevirtual 197, 3) := chkD_at okL_law_12 59 rfl
theorem dL_law_1498 : decode cL_law 1498 = .ok (.if_icmp .eq 5, 3) := chkD_at okL_law_12 60 rfl
theorem dL_law_1501 : decode cL_law 1501 = .ok (.iconst 0, 1) := chkD_at okL_law_12 61 rfl
theorem dL_law_1502 : decode cL_law 1502 = .ok (.ireturn, 1) := chkD_at okL_law_12 62 rfl
theorem dL_law_1503 : decode cL_law 1503 = .ok (.iinc 3 6, 3) := chkD_at okL_law_12 63 rfl
theorem dL_law_1506 : decode cL_law 1506 = .ok (.goto (-1488), 3) := chkD_at okL_law_12 64 rfl
theorem dL_law_1509 : decode cL_law 1509 = .ok (.iconst 1, 1) := chkD_at okL_law_12 65 rfl
theorem dL_law_1510 : decode cL_law 1510 = .ok (.ireturn, 1) := chkD_at okL_law_12 66 rfl
