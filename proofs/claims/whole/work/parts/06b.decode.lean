theorem okX7_init_0 : chkD cX7_init [(0, .aload_n 0, 1), (1, .invokespecial 1, 3), (4, .aload_n 0, 1), (5, .bipush 8, 2), (7, .newarray .int, 2), (9, .dup, 1), (10, .iconst 0, 1), (11, .iconst 5, 1), (12, .iastore, 1), (13, .dup, 1), (14, .iconst 1, 1), (15, .iconst 5, 1), (16, .iastore, 1), (17, .dup, 1), (18, .iconst 2, 1), (19, .iconst 5, 1), (20, .iastore, 1), (21, .dup, 1), (22, .iconst 3, 1), (23, .iconst 5, 1), (24, .iastore, 1), (25, .dup, 1), (26, .iconst 4, 1), (27, .iconst 5, 1), (28, .iastore, 1), (29, .dup, 1), (30, .iconst 5, 1), (31, .iconst 5, 1), (32, .iastore, 1), (33, .dup, 1), (34, .bipush 6, 2), (36, .iconst 5, 1), (37, .iastore, 1), (38, .dup, 1), (39, .bipush 7, 2), (41, .iconst 5, 1), (42, .iastore, 1), (43, .putfield 7, 3), (46, .aload_n 0, 1), (47, .bipush 17, 2), (49, .newarray .int, 2), (51, .putfield 13, 3), (54, .aload_n 0, 1), (55, .iconst 2, 1), (56, .newarray .int, 2), (58, .dup, 1), (59, .iconst 0, 1), (60, .iconst 1, 1), (61, .iastore, 1), (62, .dup, 1), (63, .iconst 1, 1), (64, .iconst 1, 1), (65, .iastore, 1), (66, .putfield 16, 3), (69, .aload_n 0, 1), (70, .bipush 90, 2), (72, .newarray .int, 2), (74, .putfield 19, 3), (77, .aload_n 0, 1), (78, .bipush 90, 2), (80, .newarray .int, 2), (82, .putfield 22, 3), (85, .aload_n 0, 1), (86, .bipush 90, 2), (88, .newarray .int, 2), (90, .putfield 25, 3), (93, .aload_n 0, 1), (94, .bipush 7, 2), (96, .newarray .int, 2), (98, .putfield 28, 3), (101, .aload_n 0, 1), (102, .bipush 92, 2), (104, .newarray .int, 2), (106, .putfield 31, 3), (109, .aload_n 0, 1), (110, .sipush 256, 3), (113, .newarray .int, 2), (115, .putfield 34, 3), (118, .aload_n 0, 1), (119, .sipush 1840, 3)] = true := by decide +kernel
theorem dX7_init_0 : decode cX7_init 0 = .ok (.aload_n 0, 1) := chkD_at okX7_init_0 0 rfl
theorem dX7_init_1 : decode cX7_init 1 = .ok (.invokespecial 1, 3) := chkD_at okX7_init_0 1 rfl
theorem dX7_init_4 : decode cX7_init 4 = .ok (.aload_n 0, 1) := chkD_at okX7_init_0 2 rfl
theorem dX7_init_5 : decode cX7_init 5 = .ok (.bipush 8, 2) := chkD_at okX7_init_0 3 rfl
theorem dX7_init_7 : decode cX7_init 7 = .ok (.newarray .int, 2) := chkD_at okX7_init_0 4 rfl
theorem dX7_init_9 : decode cX7_init 9 = .ok (.dup, 1) := chkD_at okX7_init_0 5 rfl
theorem dX7_init_10 : decode cX7_init 10 = .ok (.iconst 0, 1) := chkD_at okX7_init_0 6 rfl
theorem dX7_init_11 : decode cX7_init 11 = .ok (.iconst 5, 1) := chkD_at okX7_init_0 7 rfl
theorem dX7_init_12 : decode cX7_init 12 = .ok (.iastore, 1) := chkD_at okX7_init_0 8 rfl
theorem dX7_init_13 : decode cX7_init 13 = .ok (.dup, 1) := chkD_at okX7_init_0 9 rfl
theorem dX7_init_14 : decode cX7_init 14 = .ok (.iconst 1, 1) := chkD_at okX7_init_0 10 rfl
theorem dX7_init_15 : decode cX7_init 15 = .ok (.iconst 5, 1) := chkD_at okX7_init_0 11 rfl
theorem dX7_init_16 : decode cX7_init 16 = .ok (.iastore, 1) := chkD_at okX7_init_0 12 rfl
theorem dX7_init_17 : decode cX7_init 17 = .ok (.dup, 1) := chkD_at okX7_init_0 13 rfl
theorem dX7_init_18 : decode cX7_init 18 = .ok (.iconst 2, 1) := chkD_at okX7_init_0 14 rfl
theorem dX7_init_19 : decode cX7_init 19 = .ok (.iconst 5, 1) := chkD_at okX7_init_0 15 rfl
theorem dX7_init_20 : decode cX7_init 20 = .ok (.iastore, 1) := chkD_at okX7_init_0 16 rfl
theorem dX7_init_21 : decode cX7_init 21 = .ok (.dup, 1) := chkD_at okX7_init_0 17 rfl
theorem dX7_init_22 : decode cX7_init 22 = .ok (.iconst 3, 1) := chkD_at okX7_init_0 18 rfl
theorem dX7_init_23 : decode cX7_init 23 = .ok (.iconst 5, 1) := chkD_at okX7_init_0 19 rfl
theorem dX7_init_24 : decode cX7_init 24 = .ok (.iastore, 1) := chkD_at okX7_init_0 20 rfl
theorem dX7_init_25 : decode cX7_init 25 = .ok (.dup, 1) := chkD_at okX7_init_0 21 rfl
theorem dX7_init_26 : decode cX7_init 26 = .ok (.iconst 4, 1) := chkD_at okX7_init_0 22 rfl
theorem dX7_init_27 : decode cX7_init 27 = .ok (.iconst 5, 1) := chkD_at okX7_init_0 23 rfl
theorem dX7_init_28 : decode cX7_init 28 = .ok (.iastore, 1) := chkD_at okX7_init_0 24 rfl
theorem dX7_init_29 : decode cX7_init 29 = .ok (.dup, 1) := chkD_at okX7_init_0 25 rfl
theorem dX7_init_30 : decode cX7_init 30 = .ok (.iconst 5, 1) := chkD_at okX7_init_0 26 rfl
theorem dX7_init_31 : decode cX7_init 31 = .ok (.iconst 5, 1) := chkD_at okX7_init_0 27 rfl
theorem dX7_init_32 : decode cX7_init 32 = .ok (.iastore, 1) := chkD_at okX7_init_0 28 rfl
theorem dX7_init_33 : decode cX7_init 33 = .ok (.dup, 1) := chkD_at okX7_init_0 29 rfl
theorem dX7_init_34 : decode cX7_init 34 = .ok (.bipush 6, 2) := chkD_at okX7_init_0 30 rfl
theorem dX7_init_36 : decode cX7_init 36 = .ok (.iconst 5, 1) := chkD_at okX7_init_0 31 rfl
theorem dX7_init_37 : decode cX7_init 37 = .ok (.iastore, 1) := chkD_at okX7_init_0 32 rfl
theorem dX7_init_38 : decode cX7_init 38 = .ok (.dup, 1) := chkD_at okX7_init_0 33 rfl
theorem dX7_init_39 : decode cX7_init 39 = .ok (.bipush 7, 2) := chkD_at okX7_init_0 34 rfl
theorem dX7_init_41 : decode cX7_init 41 = .ok (.iconst 5, 1) := chkD_at okX7_init_0 35 rfl
theorem dX7_init_42 : decode cX7_init 42 = .ok (.iastore, 1) := chkD_at okX7_init_0 36 rfl
theorem dX7_init_43 : decode cX7_init 43 = .ok (.putfield 7, 3) := chkD_at okX7_init_0 37 rfl
theorem dX7_init_46 : decode cX7_init 46 = .ok (.aload_n 0, 1) := chkD_at okX7_init_0 38 rfl
theorem dX7_init_47 : decode cX7_init 47 = .ok (.bipush 17, 2) := chkD_at okX7_init_0 39 rfl
theorem dX7_init_49 : decode cX7_init 49 = .ok (.newarray .int, 2) := chkD_at okX7_init_0 40 rfl
theorem dX7_init_51 : decode cX7_init 51 = .ok (.putfield 13, 3) := chkD_at okX7_init_0 41 rfl
theorem dX7_init_54 : decode cX7_init 54 = .ok (.aload_n 0, 1) := chkD_at okX7_init_0 42 rfl
theorem dX7_init_55 : decode cX7_init 55 = .ok (.iconst 2, 1) := chkD_at okX7_init_0 43 rfl
theorem dX7_init_56 : decode cX7_init 56 = .ok (.newarray .int, 2) := chkD_at okX7_init_0 44 rfl
theorem dX7_init_58 : decode cX7_init 58 = .ok (.dup, 1) := chkD_at okX7_init_0 45 rfl
theorem dX7_init_59 : decode cX7_init 59 = .ok (.iconst 0, 1) := chkD_at okX7_init_0 46 rfl
theorem dX7_init_60 : decode cX7_init 60 = .ok (.iconst 1, 1) := chkD_at okX7_init_0 47 rfl
theorem dX7_init_61 : decode cX7_init 61 = .ok (.iastore, 1) := chkD_at okX7_init_0 48 rfl
theorem dX7_init_62 : decode cX7_init 62 = .ok (.dup, 1) := chkD_at okX7_init_0 49 rfl
theorem dX7_init_63 : decode cX7_init 63 = .ok (.iconst 1, 1) := chkD_at okX7_init_0 50 rfl
theorem dX7_init_64 : decode cX7_init 64 = .ok (.iconst 1, 1) := chkD_at okX7_init_0 51 rfl
theorem dX7_init_65 : decode cX7_init 65 = .ok (.iastore, 1) := chkD_at okX7_init_0 52 rfl
theorem dX7_init_66 : decode cX7_init 66 = .ok (.putfield 16, 3) := chkD_at okX7_init_0 53 rfl
theorem dX7_init_69 : decode cX7_init 69 = .ok (.aload_n 0, 1) := chkD_at okX7_init_0 54 rfl
theorem dX7_init_70 : decode cX7_init 70 = .ok (.bipush 90, 2) := chkD_at okX7_init_0 55 rfl
theorem dX7_init_72 : decode cX7_init 72 = .ok (.newarray .int, 2) := chkD_at okX7_init_0 56 rfl
theorem dX7_init_74 : decode cX7_init 74 = .ok (.putfield 19, 3) := chkD_at okX7_init_0 57 rfl
theorem dX7_init_77 : decode cX7_init 77 = .ok (.aload_n 0, 1) := chkD_at okX7_init_0 58 rfl
theorem dX7_init_78 : decode cX7_init 78 = .ok (.bipush 90, 2) := chkD_at okX7_init_0 59 rfl
theorem dX7_init_80 : decode cX7_init 80 = .ok (.newarray .int, 2) := chkD_at okX7_init_0 60 rfl
theorem dX7_init_82 : decode cX7_init 82 = .ok (.putfield 22, 3) := chkD_at okX7_init_0 61 rfl
theorem dX7_init_85 : decode cX7_init 85 = .ok (.aload_n 0, 1) := chkD_at okX7_init_0 62 rfl
theorem dX7_init_86 : decode cX7_init 86 = .ok (.bipush 90, 2) := chkD_at okX7_init_0 63 rfl
theorem dX7_init_88 : decode cX7_init 88 = .ok (.newarray .int, 2) := chkD_at okX7_init_0 64 rfl
theorem dX7_init_90 : decode cX7_init 90 = .ok (.putfield 25, 3) := chkD_at okX7_init_0 65 rfl
theorem dX7_init_93 : decode cX7_init 93 = .ok (.aload_n 0, 1) := chkD_at okX7_init_0 66 rfl
theorem dX7_init_94 : decode cX7_init 94 = .ok (.bipush 7, 2) := chkD_at okX7_init_0 67 rfl
theorem dX7_init_96 : decode cX7_init 96 = .ok (.newarray .int, 2) := chkD_at okX7_init_0 68 rfl
theorem dX7_init_98 : decode cX7_init 98 = .ok (.putfield 28, 3) := chkD_at okX7_init_0 69 rfl
theorem dX7_init_101 : decode cX7_init 101 = .ok (.aload_n 0, 1) := chkD_at okX7_init_0 70 rfl
theorem dX7_init_102 : decode cX7_init 102 = .ok (.bipush 92, 2) := chkD_at okX7_init_0 71 rfl
theorem dX7_init_104 : decode cX7_init 104 = .ok (.newarray .int, 2) := chkD_at okX7_init_0 72 rfl
theorem dX7_init_106 : decode cX7_init 106 = .ok (.putfield 31, 3) := chkD_at okX7_init_0 73 rfl
theorem dX7_init_109 : decode cX7_init 109 = .ok (.aload_n 0, 1) := chkD_at okX7_init_0 74 rfl
theorem dX7_init_110 : decode cX7_init 110 = .ok (.sipush 256, 3) := chkD_at okX7_init_0 75 rfl
theorem dX7_init_113 : decode cX7_init 113 = .ok (.newarray .int, 2) := chkD_at okX7_init_0 76 rfl
theorem dX7_init_115 : decode cX7_init 115 = .ok (.putfield 34, 3) := chkD_at okX7_init_0 77 rfl
theorem dX7_init_118 : decode cX7_init 118 = .ok (.aload_n 0, 1) := chkD_at okX7_init_0 78 rfl
theorem dX7_init_119 : decode cX7_init 119 = .ok (.sipush 1840, 3) := chkD_at okX7_init_0 79 rfl
theorem okX7_init_1 : chkD cX7_init [(122, .newarray .boolean, 2), (124, .putfield 37, 3), (127, .aload_n 0, 1), (128, .bipush 30, 2), (130, .newarray .int, 2), (132, .putfield 41, 3), (135, .aload_n 0, 1), (136, .bipush 8, 2), (138, .newarray .int, 2), (140, .putfield 44, 3), (143, .aload_n 0, 1), (144, .sipush 1840, 3), (147, .newarray .int, 2), (149, .putfield 47, 3), (152, .aload_n 0, 1), (153, .sipush 1840, 3), (156, .newarray .int, 2), (158, .putfield 50, 3), (161, .aload_n 0, 1), (162, .sipush 1840, 3), (165, .newarray .boolean, 2), (167, .putfield 53, 3), (170, .aload_n 0, 1), (171, .bipush 120, 2), (173, .newarray .int, 2), (175, .putfield 56, 3), (178, .aload_n 0, 1), (179, .iconst 4, 1), (180, .newarray .int, 2), (182, .putfield 59, 3), (185, .aload_n 0, 1), (186, .iconst 4, 1), (187, .newarray .int, 2), (189, .putfield 62, 3), (192, .aload_n 0, 1), (193, .sipush 160, 3), (196, .newarray .long, 2), (198, .putfield 65, 3), (201, .aload_n 0, 1), (202, .bipush 40, 2), (204, .newarray .long, 2), (206, .putfield 69, 3), (209, .aload_n 0, 1), (210, .sipush 130, 3), (213, .newarray .int, 2), (215, .putfield 72, 3), (218, .aload_n 0, 1), (219, .sipush 130, 3), (222, .newarray .int, 2), (224, .putfield 75, 3), (227, .aload_n 0, 1), (228, .iconst 2, 1), (229, .newarray .int, 2), (231, .putfield 78, 3), (234, .iconst 0, 1), (235, .istore_n 1, 1), (236, .iconst 0, 1), (237, .istore_n 2, 1), (238, .iload_n 2, 1), (239, .sipush 256, 3), (242, .if_icmp .ge 56, 3), (245, .iload_n 2, 1), (246, .ifCond .le 15, 3), (249, .iload_n 2, 1), (250, .invokestatic 81, 3), (253, .iconst 3, 1), (254, .if_icmp .gt 7, 3), (257, .iconst 1, 1), (258, .goto 4, 3), (261, .iconst 0, 1), (262, .istore_n 3, 1), (263, .aload_n 0, 1), (264, .getfield 34, 3), (267, .iload_n 2, 1), (268, .iload_n 3, 1), (269, .ifCond .eq 7, 3), (272, .iload_n 1, 1), (273, .goto 4, 3), (276, .iconst (-1), 1), (277, .iastore, 1)] = true := by decide +kernel
theorem dX7_init_122 : decode cX7_init 122 = .ok (.newarray .boolean, 2) := chkD_at okX7_init_1 0 rfl
theorem dX7_init_124 : decode cX7_init 124 = .ok (.putfield 37, 3) := chkD_at okX7_init_1 1 rfl
theorem dX7_init_127 : decode cX7_init 127 = .ok (.aload_n 0, 1) := chkD_at okX7_init_1 2 rfl
theorem dX7_init_128 : decode cX7_init 128 = .ok (.bipush 30, 2) := chkD_at okX7_init_1 3 rfl
theorem dX7_init_130 : decode cX7_init 130 = .ok (.newarray .int, 2) := chkD_at okX7_init_1 4 rfl
theorem dX7_init_132 : decode cX7_init 132 = .ok (.putfield 41, 3) := chkD_at okX7_init_1 5 rfl
theorem dX7_init_135 : decode cX7_init 135 = .ok (.aload_n 0, 1) := chkD_at okX7_init_1 6 rfl
theorem dX7_init_136 : decode cX7_init 136 = .ok (.bipush 8, 2) := chkD_at okX7_init_1 7 rfl
theorem dX7_init_138 : decode cX7_init 138 = .ok (.newarray .int, 2) := chkD_at okX7_init_1 8 rfl
theorem dX7_init_140 : decode cX7_init 140 = .ok (.putfield 44, 3) := chkD_at okX7_init_1 9 rfl
theorem dX7_init_143 : decode cX7_init 143 = .ok (.aload_n 0, 1) := chkD_at okX7_init_1 10 rfl
theorem dX7_init_144 : decode cX7_init 144 = .ok (.sipush 1840, 3) := chkD_at okX7_init_1 11 rfl
theorem dX7_init_147 : decode cX7_init 147 = .ok (.newarray .int, 2) := chkD_at okX7_init_1 12 rfl
theorem dX7_init_149 : decode cX7_init 149 = .ok (.putfield 47, 3) := chkD_at okX7_init_1 13 rfl
theorem dX7_init_152 : decode cX7_init 152 = .ok (.aload_n 0, 1) := chkD_at okX7_init_1 14 rfl
theorem dX7_init_153 : decode cX7_init 153 = .ok (.sipush 1840, 3) := chkD_at okX7_init_1 15 rfl
theorem dX7_init_156 : decode cX7_init 156 = .ok (.newarray .int, 2) := chkD_at okX7_init_1 16 rfl
theorem dX7_init_158 : decode cX7_init 158 = .ok (.putfield 50, 3) := chkD_at okX7_init_1 17 rfl
theorem dX7_init_161 : decode cX7_init 161 = .ok (.aload_n 0, 1) := chkD_at okX7_init_1 18 rfl
theorem dX7_init_162 : decode cX7_init 162 = .ok (.sipush 1840, 3) := chkD_at okX7_init_1 19 rfl
theorem dX7_init_165 : decode cX7_init 165 = .ok (.newarray .boolean, 2) := chkD_at okX7_init_1 20 rfl
theorem dX7_init_167 : decode cX7_init 167 = .ok (.putfield 53, 3) := chkD_at okX7_init_1 21 rfl
theorem dX7_init_170 : decode cX7_init 170 = .ok (.aload_n 0, 1) := chkD_at okX7_init_1 22 rfl
theorem dX7_init_171 : decode cX7_init 171 = .ok (.bipush 120, 2) := chkD_at okX7_init_1 23 rfl
theorem dX7_init_173 : decode cX7_init 173 = .ok (.newarray .int, 2) := chkD_at okX7_init_1 24 rfl
theorem dX7_init_175 : decode cX7_init 175 = .ok (.putfield 56, 3) := chkD_at okX7_init_1 25 rfl
theorem dX7_init_178 : decode cX7_init 178 = .ok (.aload_n 0, 1) := chkD_at okX7_init_1 26 rfl
theorem dX7_init_179 : decode cX7_init 179 = .ok (.iconst 4, 1) := chkD_at okX7_init_1 27 rfl
theorem dX7_init_180 : decode cX7_init 180 = .ok (.newarray .int, 2) := chkD_at okX7_init_1 28 rfl
theorem dX7_init_182 : decode cX7_init 182 = .ok (.putfield 59, 3) := chkD_at okX7_init_1 29 rfl
theorem dX7_init_185 : decode cX7_init 185 = .ok (.aload_n 0, 1) := chkD_at okX7_init_1 30 rfl
theorem dX7_init_186 : decode cX7_init 186 = .ok (.iconst 4, 1) := chkD_at okX7_init_1 31 rfl
theorem dX7_init_187 : decode cX7_init 187 = .ok (.newarray .int, 2) := chkD_at okX7_init_1 32 rfl
theorem dX7_init_189 : decode cX7_init 189 = .ok (.putfield 62, 3) := chkD_at okX7_init_1 33 rfl
theorem dX7_init_192 : decode cX7_init 192 = .ok (.aload_n 0, 1) := chkD_at okX7_init_1 34 rfl
theorem dX7_init_193 : decode cX7_init 193 = .ok (.sipush 160, 3) := chkD_at okX7_init_1 35 rfl
theorem dX7_init_196 : decode cX7_init 196 = .ok (.newarray .long, 2) := chkD_at okX7_init_1 36 rfl
theorem dX7_init_198 : decode cX7_init 198 = .ok (.putfield 65, 3) := chkD_at okX7_init_1 37 rfl
theorem dX7_init_201 : decode cX7_init 201 = .ok (.aload_n 0, 1) := chkD_at okX7_init_1 38 rfl
theorem dX7_init_202 : decode cX7_init 202 = .ok (.bipush 40, 2) := chkD_at okX7_init_1 39 rfl
theorem dX7_init_204 : decode cX7_init 204 = .ok (.newarray .long, 2) := chkD_at okX7_init_1 40 rfl
theorem dX7_init_206 : decode cX7_init 206 = .ok (.putfield 69, 3) := chkD_at okX7_init_1 41 rfl
theorem dX7_init_209 : decode cX7_init 209 = .ok (.aload_n 0, 1) := chkD_at okX7_init_1 42 rfl
theorem dX7_init_210 : decode cX7_init 210 = .ok (.sipush 130, 3) := chkD_at okX7_init_1 43 rfl
theorem dX7_init_213 : decode cX7_init 213 = .ok (.newarray .int, 2) := chkD_at okX7_init_1 44 rfl
theorem dX7_init_215 : decode cX7_init 215 = .ok (.putfield 72, 3) := chkD_at okX7_init_1 45 rfl
theorem dX7_init_218 : decode cX7_init 218 = .ok (.aload_n 0, 1) := chkD_at okX7_init_1 46 rfl
theorem dX7_init_219 : decode cX7_init 219 = .ok (.sipush 130, 3) := chkD_at okX7_init_1 47 rfl
theorem dX7_init_222 : decode cX7_init 222 = .ok (.newarray .int, 2) := chkD_at okX7_init_1 48 rfl
theorem dX7_init_224 : decode cX7_init 224 = .ok (.putfield 75, 3) := chkD_at okX7_init_1 49 rfl
theorem dX7_init_227 : decode cX7_init 227 = .ok (.aload_n 0, 1) := chkD_at okX7_init_1 50 rfl
theorem dX7_init_228 : decode cX7_init 228 = .ok (.iconst 2, 1) := chkD_at okX7_init_1 51 rfl
theorem dX7_init_229 : decode cX7_init 229 = .ok (.newarray .int, 2) := chkD_at okX7_init_1 52 rfl
theorem dX7_init_231 : decode cX7_init 231 = .ok (.putfield 78, 3) := chkD_at okX7_init_1 53 rfl
theorem dX7_init_234 : decode cX7_init 234 = .ok (.iconst 0, 1) := chkD_at okX7_init_1 54 rfl
theorem dX7_init_235 : decode cX7_init 235 = .ok (.istore_n 1, 1) := chkD_at okX7_init_1 55 rfl
theorem dX7_init_236 : decode cX7_init 236 = .ok (.iconst 0, 1) := chkD_at okX7_init_1 56 rfl
theorem dX7_init_237 : decode cX7_init 237 = .ok (.istore_n 2, 1) := chkD_at okX7_init_1 57 rfl
theorem dX7_init_238 : decode cX7_init 238 = .ok (.iload_n 2, 1) := chkD_at okX7_init_1 58 rfl
theorem dX7_init_239 : decode cX7_init 239 = .ok (.sipush 256, 3) := chkD_at okX7_init_1 59 rfl
theorem dX7_init_242 : decode cX7_init 242 = .ok (.if_icmp .ge 56, 3) := chkD_at okX7_init_1 60 rfl
theorem dX7_init_245 : decode cX7_init 245 = .ok (.iload_n 2, 1) := chkD_at okX7_init_1 61 rfl
theorem dX7_init_246 : decode cX7_init 246 = .ok (.ifCond .le 15, 3) := chkD_at okX7_init_1 62 rfl
theorem dX7_init_249 : decode cX7_init 249 = .ok (.iload_n 2, 1) := chkD_at okX7_init_1 63 rfl
theorem dX7_init_250 : decode cX7_init 250 = .ok (.invokestatic 81, 3) := chkD_at okX7_init_1 64 rfl
theorem dX7_init_253 : decode cX7_init 253 = .ok (.iconst 3, 1) := chkD_at okX7_init_1 65 rfl
theorem dX7_init_254 : decode cX7_init 254 = .ok (.if_icmp .gt 7, 3) := chkD_at okX7_init_1 66 rfl
theorem dX7_init_257 : decode cX7_init 257 = .ok (.iconst 1, 1) := chkD_at okX7_init_1 67 rfl
theorem dX7_init_258 : decode cX7_init 258 = .ok (.goto 4, 3) := chkD_at okX7_init_1 68 rfl
theorem dX7_init_261 : decode cX7_init 261 = .ok (.iconst 0, 1) := chkD_at okX7_init_1 69 rfl
theorem dX7_init_262 : decode cX7_init 262 = .ok (.istore_n 3, 1) := chkD_at okX7_init_1 70 rfl
theorem dX7_init_263 : decode cX7_init 263 = .ok (.aload_n 0, 1) := chkD_at okX7_init_1 71 rfl
theorem dX7_init_264 : decode cX7_init 264 = .ok (.getfield 34, 3) := chkD_at okX7_init_1 72 rfl
theorem dX7_init_267 : decode cX7_init 267 = .ok (.iload_n 2, 1) := chkD_at okX7_init_1 73 rfl
theorem dX7_init_268 : decode cX7_init 268 = .ok (.iload_n 3, 1) := chkD_at okX7_init_1 74 rfl
theorem dX7_init_269 : decode cX7_init 269 = .ok (.ifCond .eq 7, 3) := chkD_at okX7_init_1 75 rfl
theorem dX7_init_272 : decode cX7_init 272 = .ok (.iload_n 1, 1) := chkD_at okX7_init_1 76 rfl
theorem dX7_init_273 : decode cX7_init 273 = .ok (.goto 4, 3) := chkD_at okX7_init_1 77 rfl
theorem dX7_init_276 : decode cX7_init 276 = .ok (.iconst (-1), 1) := chkD_at okX7_init_1 78 rfl
theorem dX7_init_277 : decode cX7_init 277 = .ok (.iastore, 1) := chkD_at okX7_init_1 79 rfl
theorem okX7_init_2 : chkD cX7_init [(278, .iload_n 3, 1), (279, .ifCond .eq 13, 3), (282, .aload_n 0, 1), (283, .getfield 31, 3), (286, .iload_n 1, 1), (287, .iload_n 2, 1), (288, .iastore, 1), (289, .iinc 1 1, 3), (292, .iinc 2 1, 3), (295, .goto (-57), 3), (298, .return_, 1)] = true := by decide +kernel
theorem dX7_init_278 : decode cX7_init 278 = .ok (.iload_n 3, 1) := chkD_at okX7_init_2 0 rfl
theorem dX7_init_279 : decode cX7_init 279 = .ok (.ifCond .eq 13, 3) := chkD_at okX7_init_2 1 rfl
theorem dX7_init_282 : decode cX7_init 282 = .ok (.aload_n 0, 1) := chkD_at okX7_init_2 2 rfl
theorem dX7_init_283 : decode cX7_init 283 = .ok (.getfield 31, 3) := chkD_at okX7_init_2 3 rfl
theorem dX7_init_286 : decode cX7_init 286 = .ok (.iload_n 1, 1) := chkD_at okX7_init_2 4 rfl
theorem dX7_init_287 : decode cX7_init 287 = .ok (.iload_n 2, 1) := chkD_at okX7_init_2 5 rfl
theorem dX7_init_288 : decode cX7_init 288 = .ok (.iastore, 1) := chkD_at okX7_init_2 6 rfl
theorem dX7_init_289 : decode cX7_init 289 = .ok (.iinc 1 1, 3) := chkD_at okX7_init_2 7 rfl
theorem dX7_init_292 : decode cX7_init 292 = .ok (.iinc 2 1, 3) := chkD_at okX7_init_2 8 rfl
theorem dX7_init_295 : decode cX7_init 295 = .ok (.goto (-57), 3) := chkD_at okX7_init_2 9 rfl
theorem dX7_init_298 : decode cX7_init 298 = .ok (.return_, 1) := chkD_at okX7_init_2 10 rfl
theorem okX7_in_0 : chkD cX7_in [(0, .iload_n 0, 1), (1, .iload_n 1, 1), (2, .if_icmp .lt 12, 3), (5, .iload_n 0, 1), (6, .iload_n 2, 1), (7, .if_icmp .gt 7, 3), (10, .iconst 1, 1), (11, .goto 4, 3), (14, .iconst 0, 1), (15, .ireturn, 1)] = true := by decide +kernel
theorem dX7_in_0 : decode cX7_in 0 = .ok (.iload_n 0, 1) := chkD_at okX7_in_0 0 rfl
theorem dX7_in_1 : decode cX7_in 1 = .ok (.iload_n 1, 1) := chkD_at okX7_in_0 1 rfl
theorem dX7_in_2 : decode cX7_in 2 = .ok (.if_icmp .lt 12, 3) := chkD_at okX7_in_0 2 rfl
theorem dX7_in_5 : decode cX7_in 5 = .ok (.iload_n 0, 1) := chkD_at okX7_in_0 3 rfl
theorem dX7_in_6 : decode cX7_in 6 = .ok (.iload_n 2, 1) := chkD_at okX7_in_0 4 rfl
theorem dX7_in_7 : decode cX7_in 7 = .ok (.if_icmp .gt 7, 3) := chkD_at okX7_in_0 5 rfl
theorem dX7_in_10 : decode cX7_in 10 = .ok (.iconst 1, 1) := chkD_at okX7_in_0 6 rfl
theorem dX7_in_11 : decode cX7_in 11 = .ok (.goto 4, 3) := chkD_at okX7_in_0 7 rfl
theorem dX7_in_14 : decode cX7_in 14 = .ok (.iconst 0, 1) := chkD_at okX7_in_0 8 rfl
theorem dX7_in_15 : decode cX7_in 15 = .ok (.ireturn, 1) := chkD_at okX7_in_0 9 rfl
theorem okX7_finds_0 : chkD cX7_finds [(0, .aload_n 0, 1), (1, .getfield 28, 3), (4, .ldc 85, 2), (6, .iload_n 1, 1), (7, .isub, 1), (8, .dup2, 1), (9, .iaload, 1), (10, .iconst 1, 1), (11, .iadd, 1), (12, .iastore, 1), (13, .iload_n 1, 1), (14, .ireturn, 1)] = true := by decide +kernel
theorem dX7_finds_0 : decode cX7_finds 0 = .ok (.aload_n 0, 1) := chkD_at okX7_finds_0 0 rfl
theorem dX7_finds_1 : decode cX7_finds 1 = .ok (.getfield 28, 3) := chkD_at okX7_finds_0 1 rfl
theorem dX7_finds_4 : decode cX7_finds 4 = .ok (.ldc 85, 2) := chkD_at okX7_finds_0 2 rfl
theorem dX7_finds_6 : decode cX7_finds 6 = .ok (.iload_n 1, 1) := chkD_at okX7_finds_0 3 rfl
theorem dX7_finds_7 : decode cX7_finds 7 = .ok (.isub, 1) := chkD_at okX7_finds_0 4 rfl
theorem dX7_finds_8 : decode cX7_finds 8 = .ok (.dup2, 1) := chkD_at okX7_finds_0 5 rfl
theorem dX7_finds_9 : decode cX7_finds 9 = .ok (.iaload, 1) := chkD_at okX7_finds_0 6 rfl
theorem dX7_finds_10 : decode cX7_finds 10 = .ok (.iconst 1, 1) := chkD_at okX7_finds_0 7 rfl
theorem dX7_finds_11 : decode cX7_finds 11 = .ok (.iadd, 1) := chkD_at okX7_finds_0 8 rfl
theorem dX7_finds_12 : decode cX7_finds 12 = .ok (.iastore, 1) := chkD_at okX7_finds_0 9 rfl
theorem dX7_finds_13 : decode cX7_finds 13 = .ok (.iload_n 1, 1) := chkD_at okX7_finds_0 10 rfl
theorem dX7_finds_14 : decode cX7_finds 14 = .ok (.ireturn, 1) := chkD_at okX7_finds_0 11 rfl
theorem okX7_ones_0 : chkD cX7_ones [(0, .iconst 0, 1), (1, .istore_n 1, 1), (2, .iload_n 0, 1), (3, .istore_n 2, 1), (4, .iload_n 2, 1), (5, .ifCond .eq 15, 3), (8, .iinc 1 1, 3), (11, .iload_n 2, 1), (12, .iload_n 2, 1), (13, .iconst 1, 1), (14, .isub, 1), (15, .iand, 1), (16, .istore_n 2, 1), (17, .goto (-13), 3), (20, .iload_n 1, 1), (21, .ireturn, 1)] = true := by decide +kernel
theorem dX7_ones_0 : decode cX7_ones 0 = .ok (.iconst 0, 1) := chkD_at okX7_ones_0 0 rfl
theorem dX7_ones_1 : decode cX7_ones 1 = .ok (.istore_n 1, 1) := chkD_at okX7_ones_0 1 rfl
theorem dX7_ones_2 : decode cX7_ones 2 = .ok (.iload_n 0, 1) := chkD_at okX7_ones_0 2 rfl
theorem dX7_ones_3 : decode cX7_ones 3 = .ok (.istore_n 2, 1) := chkD_at okX7_ones_0 3 rfl
theorem dX7_ones_4 : decode cX7_ones 4 = .ok (.iload_n 2, 1) := chkD_at okX7_ones_0 4 rfl
theorem dX7_ones_5 : decode cX7_ones 5 = .ok (.ifCond .eq 15, 3) := chkD_at okX7_ones_0 5 rfl
theorem dX7_ones_8 : decode cX7_ones 8 = .ok (.iinc 1 1, 3) := chkD_at okX7_ones_0 6 rfl
theorem dX7_ones_11 : decode cX7_ones 11 = .ok (.iload_n 2, 1) := chkD_at okX7_ones_0 7 rfl
theorem dX7_ones_12 : decode cX7_ones 12 = .ok (.iload_n 2, 1) := chkD_at okX7_ones_0 8 rfl
theorem dX7_ones_13 : decode cX7_ones 13 = .ok (.iconst 1, 1) := chkD_at okX7_ones_0 9 rfl
theorem dX7_ones_14 : decode cX7_ones 14 = .ok (.isub, 1) := chkD_at okX7_ones_0 10 rfl
theorem dX7_ones_15 : decode cX7_ones 15 = .ok (.iand, 1) := chkD_at okX7_ones_0 11 rfl
theorem dX7_ones_16 : decode cX7_ones 16 = .ok (.istore_n 2, 1) := chkD_at okX7_ones_0 12 rfl
theorem dX7_ones_17 : decode cX7_ones 17 = .ok (.goto (-13), 3) := chkD_at okX7_ones_0 13 rfl
theorem dX7_ones_20 : decode cX7_ones 20 = .ok (.iload_n 1, 1) := chkD_at okX7_ones_0 14 rfl
theorem dX7_ones_21 : decode cX7_ones 21 = .ok (.ireturn, 1) := chkD_at okX7_ones_0 15 rfl
theorem okX7_has_0 : chkD cX7_has [(0, .iload_n 0, 1), (1, .iload_n 1, 1), (2, .ishr, 1), (3, .iconst 1, 1), (4, .iand, 1), (5, .iconst 1, 1), (6, .if_icmp .ne 7, 3), (9, .iconst 1, 1), (10, .goto 4, 3), (13, .iconst 0, 1), (14, .ireturn, 1)] = true := by decide +kernel
theorem dX7_has_0 : decode cX7_has 0 = .ok (.iload_n 0, 1) := chkD_at okX7_has_0 0 rfl
theorem dX7_has_1 : decode cX7_has 1 = .ok (.iload_n 1, 1) := chkD_at okX7_has_0 1 rfl
theorem dX7_has_2 : decode cX7_has 2 = .ok (.ishr, 1) := chkD_at okX7_has_0 2 rfl
theorem dX7_has_3 : decode cX7_has 3 = .ok (.iconst 1, 1) := chkD_at okX7_has_0 3 rfl
theorem dX7_has_4 : decode cX7_has 4 = .ok (.iand, 1) := chkD_at okX7_has_0 4 rfl
theorem dX7_has_5 : decode cX7_has 5 = .ok (.iconst 1, 1) := chkD_at okX7_has_0 5 rfl
theorem dX7_has_6 : decode cX7_has 6 = .ok (.if_icmp .ne 7, 3) := chkD_at okX7_has_0 6 rfl
theorem dX7_has_9 : decode cX7_has 9 = .ok (.iconst 1, 1) := chkD_at okX7_has_0 7 rfl
theorem dX7_has_10 : decode cX7_has 10 = .ok (.goto 4, 3) := chkD_at okX7_has_0 8 rfl
theorem dX7_has_13 : decode cX7_has 13 = .ok (.iconst 0, 1) := chkD_at okX7_has_0 9 rfl
theorem dX7_has_14 : decode cX7_has 14 = .ok (.ireturn, 1) := chkD_at okX7_has_0 10 rfl
theorem okX7_isThing_0 : chkD cX7_isThing [(0, .iload_n 0, 1), (1, .iconst 0, 1), (2, .bipush 7, 2), (4, .invokestatic 86, 3), (7, .ireturn, 1)] = true := by decide +kernel
theorem dX7_isThing_0 : decode cX7_isThing 0 = .ok (.iload_n 0, 1) := chkD_at okX7_isThing_0 0 rfl
theorem dX7_isThing_1 : decode cX7_isThing 1 = .ok (.iconst 0, 1) := chkD_at okX7_isThing_0 1 rfl
theorem dX7_isThing_2 : decode cX7_isThing 2 = .ok (.bipush 7, 2) := chkD_at okX7_isThing_0 2 rfl
theorem dX7_isThing_4 : decode cX7_isThing 4 = .ok (.invokestatic 86, 3) := chkD_at okX7_isThing_0 3 rfl
theorem dX7_isThing_7 : decode cX7_isThing 7 = .ok (.ireturn, 1) := chkD_at okX7_isThing_0 4 rfl
theorem okX7_isStore_0 : chkD cX7_isStore [(0, .iload_n 0, 1), (1, .iconst 0, 1), (2, .bipush 99, 2), (4, .invokestatic 86, 3), (7, .ireturn, 1)] = true := by decide +kernel
theorem dX7_isStore_0 : decode cX7_isStore 0 = .ok (.iload_n 0, 1) := chkD_at okX7_isStore_0 0 rfl
theorem dX7_isStore_1 : decode cX7_isStore 1 = .ok (.iconst 0, 1) := chkD_at okX7_isStore_0 1 rfl
theorem dX7_isStore_2 : decode cX7_isStore 2 = .ok (.bipush 99, 2) := chkD_at okX7_isStore_0 2 rfl
theorem dX7_isStore_4 : decode cX7_isStore 4 = .ok (.invokestatic 86, 3) := chkD_at okX7_isStore_0 3 rfl
theorem dX7_isStore_7 : decode cX7_isStore 7 = .ok (.ireturn, 1) := chkD_at okX7_isStore_0 4 rfl
theorem okX7_isDish_0 : chkD cX7_isDish [(0, .iload_n 1, 1), (1, .iconst 0, 1), (2, .sipush 5119, 3), (5, .invokestatic 86, 3), (8, .ifCond .eq 34, 3), (11, .aload_n 0, 1), (12, .getfield 34, 3), (15, .iload_n 1, 1), (16, .iconst 0, 1), (17, .sipush 5119, 3), (20, .invokestatic 86, 3), (23, .ifCond .eq 10, 3), (26, .iload_n 1, 1), (27, .bipush 20, 2), (29, .idiv, 1), (30, .goto 4, 3), (33, .iconst 0, 1), (34, .iaload, 1), (35, .ifCond .lt 7, 3), (38, .iconst 1, 1), (39, .goto 4, 3), (42, .iconst 0, 1), (43, .ireturn, 1)] = true := by decide +kernel
theorem dX7_isDish_0 : decode cX7_isDish 0 = .ok (.iload_n 1, 1) := chkD_at okX7_isDish_0 0 rfl
theorem dX7_isDish_1 : decode cX7_isDish 1 = .ok (.iconst 0, 1) := chkD_at okX7_isDish_0 1 rfl
theorem dX7_isDish_2 : decode cX7_isDish 2 = .ok (.sipush 5119, 3) := chkD_at okX7_isDish_0 2 rfl
theorem dX7_isDish_5 : decode cX7_isDish 5 = .ok (.invokestatic 86, 3) := chkD_at okX7_isDish_0 3 rfl
theorem dX7_isDish_8 : decode cX7_isDish 8 = .ok (.ifCond .eq 34, 3) := chkD_at okX7_isDish_0 4 rfl
theorem dX7_isDish_11 : decode cX7_isDish 11 = .ok (.aload_n 0, 1) := chkD_at okX7_isDish_0 5 rfl
theorem dX7_isDish_12 : decode cX7_isDish 12 = .ok (.getfield 34, 3) := chkD_at okX7_isDish_0 6 rfl
theorem dX7_isDish_15 : decode cX7_isDish 15 = .ok (.iload_n 1, 1) := chkD_at okX7_isDish_0 7 rfl
theorem dX7_isDish_16 : decode cX7_isDish 16 = .ok (.iconst 0, 1) := chkD_at okX7_isDish_0 8 rfl
theorem dX7_isDish_17 : decode cX7_isDish 17 = .ok (.sipush 5119, 3) := chkD_at okX7_isDish_0 9 rfl
theorem dX7_isDish_20 : decode cX7_isDish 20 = .ok (.invokestatic 86, 3) := chkD_at okX7_isDish_0 10 rfl
theorem dX7_isDish_23 : decode cX7_isDish 23 = .ok (.ifCond .eq 10, 3) := chkD_at okX7_isDish_0 11 rfl
theorem dX7_isDish_26 : decode cX7_isDish 26 = .ok (.iload_n 1, 1) := chkD_at okX7_isDish_0 12 rfl
theorem dX7_isDish_27 : decode cX7_isDish 27 = .ok (.bipush 20, 2) := chkD_at okX7_isDish_0 13 rfl
theorem dX7_isDish_29 : decode cX7_isDish 29 = .ok (.idiv, 1) := chkD_at okX7_isDish_0 14 rfl
theorem dX7_isDish_30 : decode cX7_isDish 30 = .ok (.goto 4, 3) := chkD_at okX7_isDish_0 15 rfl
theorem dX7_isDish_33 : decode cX7_isDish 33 = .ok (.iconst 0, 1) := chkD_at okX7_isDish_0 16 rfl
theorem dX7_isDish_34 : decode cX7_isDish 34 = .ok (.iaload, 1) := chkD_at okX7_isDish_0 17 rfl
theorem dX7_isDish_35 : decode cX7_isDish 35 = .ok (.ifCond .lt 7, 3) := chkD_at okX7_isDish_0 18 rfl
theorem dX7_isDish_38 : decode cX7_isDish 38 = .ok (.iconst 1, 1) := chkD_at okX7_isDish_0 19 rfl
theorem dX7_isDish_39 : decode cX7_isDish 39 = .ok (.goto 4, 3) := chkD_at okX7_isDish_0 20 rfl
theorem dX7_isDish_42 : decode cX7_isDish 42 = .ok (.iconst 0, 1) := chkD_at okX7_isDish_0 21 rfl
theorem dX7_isDish_43 : decode cX7_isDish 43 = .ok (.ireturn, 1) := chkD_at okX7_isDish_0 22 rfl
theorem okX7_setOf_0 : chkD cX7_setOf [(0, .iload_n 0, 1), (1, .bipush 20, 2), (3, .idiv, 1), (4, .ireturn, 1)] = true := by decide +kernel
theorem dX7_setOf_0 : decode cX7_setOf 0 = .ok (.iload_n 0, 1) := chkD_at okX7_setOf_0 0 rfl
theorem dX7_setOf_1 : decode cX7_setOf 1 = .ok (.bipush 20, 2) := chkD_at okX7_setOf_0 1 rfl
theorem dX7_setOf_3 : decode cX7_setOf 3 = .ok (.idiv, 1) := chkD_at okX7_setOf_0 2 rfl
theorem dX7_setOf_4 : decode cX7_setOf 4 = .ok (.ireturn, 1) := chkD_at okX7_setOf_0 3 rfl
theorem okX7_wayOf_0 : chkD cX7_wayOf [(0, .iload_n 0, 1), (1, .bipush 20, 2), (3, .irem, 1), (4, .iconst 4, 1), (5, .idiv, 1), (6, .ireturn, 1)] = true := by decide +kernel
theorem dX7_wayOf_0 : decode cX7_wayOf 0 = .ok (.iload_n 0, 1) := chkD_at okX7_wayOf_0 0 rfl
theorem dX7_wayOf_1 : decode cX7_wayOf 1 = .ok (.bipush 20, 2) := chkD_at okX7_wayOf_0 1 rfl
theorem dX7_wayOf_3 : decode cX7_wayOf 3 = .ok (.irem, 1) := chkD_at okX7_wayOf_0 2 rfl
theorem dX7_wayOf_4 : decode cX7_wayOf 4 = .ok (.iconst 4, 1) := chkD_at okX7_wayOf_0 3 rfl
theorem dX7_wayOf_5 : decode cX7_wayOf 5 = .ok (.idiv, 1) := chkD_at okX7_wayOf_0 4 rfl
theorem dX7_wayOf_6 : decode cX7_wayOf 6 = .ok (.ireturn, 1) := chkD_at okX7_wayOf_0 5 rfl
theorem okX7_sauceOf_0 : chkD cX7_sauceOf [(0, .iload_n 0, 1), (1, .iconst 4, 1), (2, .irem, 1), (3, .ireturn, 1)] = true := by decide +kernel
theorem dX7_sauceOf_0 : decode cX7_sauceOf 0 = .ok (.iload_n 0, 1) := chkD_at okX7_sauceOf_0 0 rfl
theorem dX7_sauceOf_1 : decode cX7_sauceOf 1 = .ok (.iconst 4, 1) := chkD_at okX7_sauceOf_0 1 rfl
theorem dX7_sauceOf_2 : decode cX7_sauceOf 2 = .ok (.irem, 1) := chkD_at okX7_sauceOf_0 2 rfl
theorem dX7_sauceOf_3 : decode cX7_sauceOf 3 = .ok (.ireturn, 1) := chkD_at okX7_sauceOf_0 3 rfl
theorem okX7_placeOf_0 : chkD cX7_placeOf [(0, .bipush 20, 2), (2, .aload_n 0, 1), (3, .getfield 34, 3), (6, .iload_n 1, 1), (7, .invokestatic 90, 3), (10, .iaload, 1), (11, .imul, 1), (12, .iload_n 1, 1), (13, .bipush 20, 2), (15, .irem, 1), (16, .iadd, 1), (17, .ireturn, 1)] = true := by decide +kernel
theorem dX7_placeOf_0 : decode cX7_placeOf 0 = .ok (.bipush 20, 2) := chkD_at okX7_placeOf_0 0 rfl
theorem dX7_placeOf_2 : decode cX7_placeOf 2 = .ok (.aload_n 0, 1) := chkD_at okX7_placeOf_0 1 rfl
theorem dX7_placeOf_3 : decode cX7_placeOf 3 = .ok (.getfield 34, 3) := chkD_at okX7_placeOf_0 2 rfl
theorem dX7_placeOf_6 : decode cX7_placeOf 6 = .ok (.iload_n 1, 1) := chkD_at okX7_placeOf_0 3 rfl
theorem dX7_placeOf_7 : decode cX7_placeOf 7 = .ok (.invokestatic 90, 3) := chkD_at okX7_placeOf_0 4 rfl
theorem dX7_placeOf_10 : decode cX7_placeOf 10 = .ok (.iaload, 1) := chkD_at okX7_placeOf_0 5 rfl
theorem dX7_placeOf_11 : decode cX7_placeOf 11 = .ok (.imul, 1) := chkD_at okX7_placeOf_0 6 rfl
theorem dX7_placeOf_12 : decode cX7_placeOf 12 = .ok (.iload_n 1, 1) := chkD_at okX7_placeOf_0 7 rfl
theorem dX7_placeOf_13 : decode cX7_placeOf 13 = .ok (.bipush 20, 2) := chkD_at okX7_placeOf_0 8 rfl
theorem dX7_placeOf_15 : decode cX7_placeOf 15 = .ok (.irem, 1) := chkD_at okX7_placeOf_0 9 rfl
theorem dX7_placeOf_16 : decode cX7_placeOf 16 = .ok (.iadd, 1) := chkD_at okX7_placeOf_0 10 rfl
theorem dX7_placeOf_17 : decode cX7_placeOf 17 = .ok (.ireturn, 1) := chkD_at okX7_placeOf_0 11 rfl
theorem okX7_dishAt_0 : chkD cX7_dishAt [(0, .bipush 20, 2), (2, .aload_n 0, 1), (3, .getfield 31, 3), (6, .iload_n 1, 1), (7, .bipush 20, 2), (9, .idiv, 1), (10, .iaload, 1), (11, .imul, 1), (12, .iload_n 1, 1), (13, .bipush 20, 2), (15, .irem, 1), (16, .iadd, 1), (17, .ireturn, 1)] = true := by decide +kernel
theorem dX7_dishAt_0 : decode cX7_dishAt 0 = .ok (.bipush 20, 2) := chkD_at okX7_dishAt_0 0 rfl
theorem dX7_dishAt_2 : decode cX7_dishAt 2 = .ok (.aload_n 0, 1) := chkD_at okX7_dishAt_0 1 rfl
theorem dX7_dishAt_3 : decode cX7_dishAt 3 = .ok (.getfield 31, 3) := chkD_at okX7_dishAt_0 2 rfl
theorem dX7_dishAt_6 : decode cX7_dishAt 6 = .ok (.iload_n 1, 1) := chkD_at okX7_dishAt_0 3 rfl
theorem dX7_dishAt_7 : decode cX7_dishAt 7 = .ok (.bipush 20, 2) := chkD_at okX7_dishAt_0 4 rfl
theorem dX7_dishAt_9 : decode cX7_dishAt 9 = .ok (.idiv, 1) := chkD_at okX7_dishAt_0 5 rfl
theorem dX7_dishAt_10 : decode cX7_dishAt 10 = .ok (.iaload, 1) := chkD_at okX7_dishAt_0 6 rfl
theorem dX7_dishAt_11 : decode cX7_dishAt 11 = .ok (.imul, 1) := chkD_at okX7_dishAt_0 7 rfl
theorem dX7_dishAt_12 : decode cX7_dishAt 12 = .ok (.iload_n 1, 1) := chkD_at okX7_dishAt_0 8 rfl
theorem dX7_dishAt_13 : decode cX7_dishAt 13 = .ok (.bipush 20, 2) := chkD_at okX7_dishAt_0 9 rfl
theorem dX7_dishAt_15 : decode cX7_dishAt 15 = .ok (.irem, 1) := chkD_at okX7_dishAt_0 10 rfl
theorem dX7_dishAt_16 : decode cX7_dishAt 16 = .ok (.iadd, 1) := chkD_at okX7_dishAt_0 11 rfl
theorem dX7_dishAt_17 : decode cX7_dishAt 17 = .ok (.ireturn, 1) := chkD_at okX7_dishAt_0 12 rfl
theorem okX7_isKind_0 : chkD cX7_isKind [(0, .iload_n 0, 1), (1, .iconst 0, 1), (2, .iconst 5, 1), (3, .invokestatic 86, 3), (6, .ireturn, 1)] = true := by decide +kernel
theorem dX7_isKind_0 : decode cX7_isKind 0 = .ok (.iload_n 0, 1) := chkD_at okX7_isKind_0 0 rfl
theorem dX7_isKind_1 : decode cX7_isKind 1 = .ok (.iconst 0, 1) := chkD_at okX7_isKind_0 1 rfl
theorem dX7_isKind_2 : decode cX7_isKind 2 = .ok (.iconst 5, 1) := chkD_at okX7_isKind_0 2 rfl
theorem dX7_isKind_3 : decode cX7_isKind 3 = .ok (.invokestatic 86, 3) := chkD_at okX7_isKind_0 3 rfl
theorem dX7_isKind_6 : decode cX7_isKind 6 = .ok (.ireturn, 1) := chkD_at okX7_isKind_0 4 rfl
theorem okX7_isEntry_0 : chkD cX7_isEntry [(0, .iload_n 1, 1), (1, .iconst 0, 1), (2, .aload_n 0, 1), (3, .getfield 93, 3), (6, .iconst 1, 1), (7, .isub, 1), (8, .invokestatic 86, 3), (11, .ireturn, 1)] = true := by decide +kernel
theorem dX7_isEntry_0 : decode cX7_isEntry 0 = .ok (.iload_n 1, 1) := chkD_at okX7_isEntry_0 0 rfl
theorem dX7_isEntry_1 : decode cX7_isEntry 1 = .ok (.iconst 0, 1) := chkD_at okX7_isEntry_0 1 rfl
theorem dX7_isEntry_2 : decode cX7_isEntry 2 = .ok (.aload_n 0, 1) := chkD_at okX7_isEntry_0 2 rfl
theorem dX7_isEntry_3 : decode cX7_isEntry 3 = .ok (.getfield 93, 3) := chkD_at okX7_isEntry_0 3 rfl
theorem dX7_isEntry_6 : decode cX7_isEntry 6 = .ok (.iconst 1, 1) := chkD_at okX7_isEntry_0 4 rfl
theorem dX7_isEntry_7 : decode cX7_isEntry 7 = .ok (.isub, 1) := chkD_at okX7_isEntry_0 5 rfl
theorem dX7_isEntry_8 : decode cX7_isEntry 8 = .ok (.invokestatic 86, 3) := chkD_at okX7_isEntry_0 6 rfl
theorem dX7_isEntry_11 : decode cX7_isEntry 11 = .ok (.ireturn, 1) := chkD_at okX7_isEntry_0 7 rfl
theorem okX7_store_0 : chkD cX7_store [(0, .iload_n 1, 1), (1, .invokestatic 97, 3), (4, .ifCond .eq 10, 3), (7, .iload_n 2, 1), (8, .invokestatic 101, 3), (11, .ifCond .ne 10, 3), (14, .aload_n 0, 1), (15, .ldc 85, 2), (17, .invokevirtual 104, 3), (20, .ireturn, 1), (21, .aload_n 0, 1), (22, .getfield 7, 3), (25, .iload_n 1, 1), (26, .iaload, 1), (27, .istore_n 3, 1), (28, .aload_n 0, 1), (29, .getfield 7, 3), (32, .iload_n 1, 1), (33, .iload_n 2, 1), (34, .iastore, 1), (35, .iload_n 3, 1), (36, .ireturn, 1)] = true := by decide +kernel
theorem dX7_store_0 : decode cX7_store 0 = .ok (.iload_n 1, 1) := chkD_at okX7_store_0 0 rfl
theorem dX7_store_1 : decode cX7_store 1 = .ok (.invokestatic 97, 3) := chkD_at okX7_store_0 1 rfl
theorem dX7_store_4 : decode cX7_store 4 = .ok (.ifCond .eq 10, 3) := chkD_at okX7_store_0 2 rfl
theorem dX7_store_7 : decode cX7_store 7 = .ok (.iload_n 2, 1) := chkD_at okX7_store_0 3 rfl
theorem dX7_store_8 : decode cX7_store 8 = .ok (.invokestatic 101, 3) := chkD_at okX7_store_0 4 rfl
theorem dX7_store_11 : decode cX7_store 11 = .ok (.ifCond .ne 10, 3) := chkD_at okX7_store_0 5 rfl
theorem dX7_store_14 : decode cX7_store 14 = .ok (.aload_n 0, 1) := chkD_at okX7_store_0 6 rfl
theorem dX7_store_15 : decode cX7_store 15 = .ok (.ldc 85, 2) := chkD_at okX7_store_0 7 rfl
theorem dX7_store_17 : decode cX7_store 17 = .ok (.invokevirtual 104, 3) := chkD_at okX7_store_0 8 rfl
theorem dX7_store_20 : decode cX7_store 20 = .ok (.ireturn, 1) := chkD_at okX7_store_0 9 rfl
theorem dX7_store_21 : decode cX7_store 21 = .ok (.aload_n 0, 1) := chkD_at okX7_store_0 10 rfl
theorem dX7_store_22 : decode cX7_store 22 = .ok (.getfield 7, 3) := chkD_at okX7_store_0 11 rfl
theorem dX7_store_25 : decode cX7_store 25 = .ok (.iload_n 1, 1) := chkD_at okX7_store_0 12 rfl
theorem dX7_store_26 : decode cX7_store 26 = .ok (.iaload, 1) := chkD_at okX7_store_0 13 rfl
theorem dX7_store_27 : decode cX7_store 27 = .ok (.istore_n 3, 1) := chkD_at okX7_store_0 14 rfl
theorem dX7_store_28 : decode cX7_store 28 = .ok (.aload_n 0, 1) := chkD_at okX7_store_0 15 rfl
theorem dX7_store_29 : decode cX7_store 29 = .ok (.getfield 7, 3) := chkD_at okX7_store_0 16 rfl
theorem dX7_store_32 : decode cX7_store 32 = .ok (.iload_n 1, 1) := chkD_at okX7_store_0 17 rfl
theorem dX7_store_33 : decode cX7_store 33 = .ok (.iload_n 2, 1) := chkD_at okX7_store_0 18 rfl
theorem dX7_store_34 : decode cX7_store 34 = .ok (.iastore, 1) := chkD_at okX7_store_0 19 rfl
theorem dX7_store_35 : decode cX7_store 35 = .ok (.iload_n 3, 1) := chkD_at okX7_store_0 20 rfl
theorem dX7_store_36 : decode cX7_store 36 = .ok (.ireturn, 1) := chkD_at okX7_store_0 21 rfl
theorem okX7_storeOf_0 : chkD cX7_storeOf [(0, .iload_n 1, 1), (1, .invokestatic 97, 3), (4, .ifCond .eq 12, 3), (7, .aload_n 0, 1), (8, .getfield 7, 3), (11, .iload_n 1, 1), (12, .iaload, 1), (13, .goto 9, 3), (16, .aload_n 0, 1), (17, .ldc 85, 2), (19, .invokevirtual 104, 3), (22, .ireturn, 1)] = true := by decide +kernel
theorem dX7_storeOf_0 : decode cX7_storeOf 0 = .ok (.iload_n 1, 1) := chkD_at okX7_storeOf_0 0 rfl
theorem dX7_storeOf_1 : decode cX7_storeOf 1 = .ok (.invokestatic 97, 3) := chkD_at okX7_storeOf_0 1 rfl
theorem dX7_storeOf_4 : decode cX7_storeOf 4 = .ok (.ifCond .eq 12, 3) := chkD_at okX7_storeOf_0 2 rfl
theorem dX7_storeOf_7 : decode cX7_storeOf 7 = .ok (.aload_n 0, 1) := chkD_at okX7_storeOf_0 3 rfl
theorem dX7_storeOf_8 : decode cX7_storeOf 8 = .ok (.getfield 7, 3) := chkD_at okX7_storeOf_0 4 rfl
theorem dX7_storeOf_11 : decode cX7_storeOf 11 = .ok (.iload_n 1, 1) := chkD_at okX7_storeOf_0 5 rfl
theorem dX7_storeOf_12 : decode cX7_storeOf 12 = .ok (.iaload, 1) := chkD_at okX7_storeOf_0 6 rfl
theorem dX7_storeOf_13 : decode cX7_storeOf 13 = .ok (.goto 9, 3) := chkD_at okX7_storeOf_0 7 rfl
theorem dX7_storeOf_16 : decode cX7_storeOf 16 = .ok (.aload_n 0, 1) := chkD_at okX7_storeOf_0 8 rfl
theorem dX7_storeOf_17 : decode cX7_storeOf 17 = .ok (.ldc 85, 2) := chkD_at okX7_storeOf_0 9 rfl
theorem dX7_storeOf_19 : decode cX7_storeOf 19 = .ok (.invokevirtual 104, 3) := chkD_at okX7_storeOf_0 10 rfl
theorem dX7_storeOf_22 : decode cX7_storeOf 22 = .ok (.ireturn, 1) := chkD_at okX7_storeOf_0 11 rfl
theorem okX7_mostOf_0 : chkD cX7_mostOf [(0, .iload_n 0, 1), (1, .ifCond .ne 8, 3), (4, .bipush 7, 2), (6, .goto 13, 3), (9, .iload_n 0, 1), (10, .iconst 1, 1), (11, .if_icmp .ne 7, 3), (14, .iconst 4, 1), (15, .goto 4, 3), (18, .iconst 3, 1), (19, .ireturn, 1)] = true := by decide +kernel
theorem dX7_mostOf_0 : decode cX7_mostOf 0 = .ok (.iload_n 0, 1) := chkD_at okX7_mostOf_0 0 rfl
theorem dX7_mostOf_1 : decode cX7_mostOf 1 = .ok (.ifCond .ne 8, 3) := chkD_at okX7_mostOf_0 1 rfl
theorem dX7_mostOf_4 : decode cX7_mostOf 4 = .ok (.bipush 7, 2) := chkD_at okX7_mostOf_0 2 rfl
theorem dX7_mostOf_6 : decode cX7_mostOf 6 = .ok (.goto 13, 3) := chkD_at okX7_mostOf_0 3 rfl
theorem dX7_mostOf_9 : decode cX7_mostOf 9 = .ok (.iload_n 0, 1) := chkD_at okX7_mostOf_0 4 rfl
theorem dX7_mostOf_10 : decode cX7_mostOf 10 = .ok (.iconst 1, 1) := chkD_at okX7_mostOf_0 5 rfl
theorem dX7_mostOf_11 : decode cX7_mostOf 11 = .ok (.if_icmp .ne 7, 3) := chkD_at okX7_mostOf_0 6 rfl
theorem dX7_mostOf_14 : decode cX7_mostOf 14 = .ok (.iconst 4, 1) := chkD_at okX7_mostOf_0 7 rfl
theorem dX7_mostOf_15 : decode cX7_mostOf 15 = .ok (.goto 4, 3) := chkD_at okX7_mostOf_0 8 rfl
theorem dX7_mostOf_18 : decode cX7_mostOf 18 = .ok (.iconst 3, 1) := chkD_at okX7_mostOf_0 9 rfl
theorem dX7_mostOf_19 : decode cX7_mostOf 19 = .ok (.ireturn, 1) := chkD_at okX7_mostOf_0 10 rfl
theorem okX7_likedAt_0 : chkD cX7_likedAt [(0, .iload_n 0, 1), (1, .ifCond .ne 7, 3), (4, .iload_n 1, 1), (5, .goto 19, 3), (8, .iload_n 0, 1), (9, .iconst 1, 1), (10, .if_icmp .ne 10, 3), (13, .bipush 8, 2), (15, .iload_n 1, 1), (16, .iadd, 1), (17, .goto 7, 3), (20, .bipush 13, 2), (22, .iload_n 1, 1), (23, .iadd, 1), (24, .ireturn, 1)] = true := by decide +kernel
theorem dX7_likedAt_0 : decode cX7_likedAt 0 = .ok (.iload_n 0, 1) := chkD_at okX7_likedAt_0 0 rfl
theorem dX7_likedAt_1 : decode cX7_likedAt 1 = .ok (.ifCond .ne 7, 3) := chkD_at okX7_likedAt_0 1 rfl
theorem dX7_likedAt_4 : decode cX7_likedAt 4 = .ok (.iload_n 1, 1) := chkD_at okX7_likedAt_0 2 rfl
theorem dX7_likedAt_5 : decode cX7_likedAt 5 = .ok (.goto 19, 3) := chkD_at okX7_likedAt_0 3 rfl
theorem dX7_likedAt_8 : decode cX7_likedAt 8 = .ok (.iload_n 0, 1) := chkD_at okX7_likedAt_0 4 rfl
theorem dX7_likedAt_9 : decode cX7_likedAt 9 = .ok (.iconst 1, 1) := chkD_at okX7_likedAt_0 5 rfl
theorem dX7_likedAt_10 : decode cX7_likedAt 10 = .ok (.if_icmp .ne 10, 3) := chkD_at okX7_likedAt_0 6 rfl
theorem dX7_likedAt_13 : decode cX7_likedAt 13 = .ok (.bipush 8, 2) := chkD_at okX7_likedAt_0 7 rfl
theorem dX7_likedAt_15 : decode cX7_likedAt 15 = .ok (.iload_n 1, 1) := chkD_at okX7_likedAt_0 8 rfl
theorem dX7_likedAt_16 : decode cX7_likedAt 16 = .ok (.iadd, 1) := chkD_at okX7_likedAt_0 9 rfl
theorem dX7_likedAt_17 : decode cX7_likedAt 17 = .ok (.goto 7, 3) := chkD_at okX7_likedAt_0 10 rfl
theorem dX7_likedAt_20 : decode cX7_likedAt 20 = .ok (.bipush 13, 2) := chkD_at okX7_likedAt_0 11 rfl
theorem dX7_likedAt_22 : decode cX7_likedAt 22 = .ok (.iload_n 1, 1) := chkD_at okX7_likedAt_0 12 rfl
theorem dX7_likedAt_23 : decode cX7_likedAt 23 = .ok (.iadd, 1) := chkD_at okX7_likedAt_0 13 rfl
theorem dX7_likedAt_24 : decode cX7_likedAt 24 = .ok (.ireturn, 1) := chkD_at okX7_likedAt_0 14 rfl
theorem okX7_like_0 : chkD cX7_like [(0, .iload_n 1, 1), (1, .iconst 0, 1), (2, .iconst 2, 1), (3, .invokestatic 86, 3), (6, .ifCond .eq 26, 3), (9, .iload_n 2, 1), (10, .iconst 0, 1), (11, .iload_n 1, 1), (12, .invokestatic 107, 3), (15, .invokestatic 86, 3), (18, .ifCond .eq 14, 3), (21, .iload_n 3, 1), (22, .bipush (-9), 2), (24, .bipush 9, 2), (26, .invokestatic 86, 3), (29, .ifCond .ne 10, 3), (32, .aload_n 0, 1), (33, .ldc 85, 2), (35, .invokevirtual 104, 3), (38, .ireturn, 1), (39, .iload_n 1, 1), (40, .iload_n 2, 1), (41, .invokestatic 110, 3), (44, .istore 4, 2), (46, .aload_n 0, 1), (47, .getfield 13, 3), (50, .iload 4, 2), (52, .iaload, 1), (53, .istore 5, 2), (55, .aload_n 0, 1), (56, .getfield 13, 3), (59, .iload 4, 2), (61, .iload_n 3, 1), (62, .iastore, 1), (63, .iload 5, 2), (65, .ireturn, 1)] = true := by decide +kernel
theorem dX7_like_0 : decode cX7_like 0 = .ok (.iload_n 1, 1) := chkD_at okX7_like_0 0 rfl
theorem dX7_like_1 : decode cX7_like 1 = .ok (.iconst 0, 1) := chkD_at okX7_like_0 1 rfl
theorem dX7_like_2 : decode cX7_like 2 = .ok (.iconst 2, 1) := chkD_at okX7_like_0 2 rfl
theorem dX7_like_3 : decode cX7_like 3 = .ok (.invokestatic 86, 3) := chkD_at okX7_like_0 3 rfl
theorem dX7_like_6 : decode cX7_like 6 = .ok (.ifCond .eq 26, 3) := chkD_at okX7_like_0 4 rfl
theorem dX7_like_9 : decode cX7_like 9 = .ok (.iload_n 2, 1) := chkD_at okX7_like_0 5 rfl
theorem dX7_like_10 : decode cX7_like 10 = .ok (.iconst 0, 1) := chkD_at okX7_like_0 6 rfl
theorem dX7_like_11 : decode cX7_like 11 = .ok (.iload_n 1, 1) := chkD_at okX7_like_0 7 rfl
theorem dX7_like_12 : decode cX7_like 12 = .ok (.invokestatic 107, 3) := chkD_at okX7_like_0 8 rfl
theorem dX7_like_15 : decode cX7_like 15 = .ok (.invokestatic 86, 3) := chkD_at okX7_like_0 9 rfl
theorem dX7_like_18 : decode cX7_like 18 = .ok (.ifCond .eq 14, 3) := chkD_at okX7_like_0 10 rfl
theorem dX7_like_21 : decode cX7_like 21 = .ok (.iload_n 3, 1) := chkD_at okX7_like_0 11 rfl
theorem dX7_like_22 : decode cX7_like 22 = .ok (.bipush (-9), 2) := chkD_at okX7_like_0 12 rfl
theorem dX7_like_24 : decode cX7_like 24 = .ok (.bipush 9, 2) := chkD_at okX7_like_0 13 rfl
theorem dX7_like_26 : decode cX7_like 26 = .ok (.invokestatic 86, 3) := chkD_at okX7_like_0 14 rfl
theorem dX7_like_29 : decode cX7_like 29 = .ok (.ifCond .ne 10, 3) := chkD_at okX7_like_0 15 rfl
theorem dX7_like_32 : decode cX7_like 32 = .ok (.aload_n 0, 1) := chkD_at okX7_like_0 16 rfl
theorem dX7_like_33 : decode cX7_like 33 = .ok (.ldc 85, 2) := chkD_at okX7_like_0 17 rfl
theorem dX7_like_35 : decode cX7_like 35 = .ok (.invokevirtual 104, 3) := chkD_at okX7_like_0 18 rfl
theorem dX7_like_38 : decode cX7_like 38 = .ok (.ireturn, 1) := chkD_at okX7_like_0 19 rfl
theorem dX7_like_39 : decode cX7_like 39 = .ok (.iload_n 1, 1) := chkD_at okX7_like_0 20 rfl
theorem dX7_like_40 : decode cX7_like 40 = .ok (.iload_n 2, 1) := chkD_at okX7_like_0 21 rfl
theorem dX7_like_41 : decode cX7_like 41 = .ok (.invokestatic 110, 3) := chkD_at okX7_like_0 22 rfl
theorem dX7_like_44 : decode cX7_like 44 = .ok (.istore 4, 2) := chkD_at okX7_like_0 23 rfl
theorem dX7_like_46 : decode cX7_like 46 = .ok (.aload_n 0, 1) := chkD_at okX7_like_0 24 rfl
theorem dX7_like_47 : decode cX7_like 47 = .ok (.getfield 13, 3) := chkD_at okX7_like_0 25 rfl
theorem dX7_like_50 : decode cX7_like 50 = .ok (.iload 4, 2) := chkD_at okX7_like_0 26 rfl
theorem dX7_like_52 : decode cX7_like 52 = .ok (.iaload, 1) := chkD_at okX7_like_0 27 rfl
theorem dX7_like_53 : decode cX7_like 53 = .ok (.istore 5, 2) := chkD_at okX7_like_0 28 rfl
theorem dX7_like_55 : decode cX7_like 55 = .ok (.aload_n 0, 1) := chkD_at okX7_like_0 29 rfl
theorem dX7_like_56 : decode cX7_like 56 = .ok (.getfield 13, 3) := chkD_at okX7_like_0 30 rfl
theorem dX7_like_59 : decode cX7_like 59 = .ok (.iload 4, 2) := chkD_at okX7_like_0 31 rfl
theorem dX7_like_61 : decode cX7_like 61 = .ok (.iload_n 3, 1) := chkD_at okX7_like_0 32 rfl
theorem dX7_like_62 : decode cX7_like 62 = .ok (.iastore, 1) := chkD_at okX7_like_0 33 rfl
theorem dX7_like_63 : decode cX7_like 63 = .ok (.iload 5, 2) := chkD_at okX7_like_0 34 rfl
theorem dX7_like_65 : decode cX7_like 65 = .ok (.ireturn, 1) := chkD_at okX7_like_0 35 rfl
theorem okX7_edict_0 : chkD cX7_edict [(0, .iload_n 1, 1), (1, .iconst 0, 1), (2, .iconst 1, 1), (3, .invokestatic 86, 3), (6, .ifCond .ne 10, 3), (9, .aload_n 0, 1), (10, .ldc 85, 2), (12, .invokevirtual 104, 3), (15, .ireturn, 1), (16, .iload_n 2, 1), (17, .ifCond .eq 7, 3), (20, .iconst 1, 1), (21, .goto 4, 3), (24, .iconst 0, 1), (25, .istore_n 3, 1), (26, .aload_n 0, 1), (27, .getfield 16, 3), (30, .iload_n 1, 1), (31, .iaload, 1), (32, .iload_n 3, 1), (33, .if_icmp .ne 5, 3), (36, .iconst 0, 1), (37, .ireturn, 1), (38, .aload_n 0, 1), (39, .getfield 16, 3), (42, .iload_n 1, 1), (43, .iload_n 3, 1), (44, .iastore, 1), (45, .iconst 1, 1), (46, .ireturn, 1)] = true := by decide +kernel
theorem dX7_edict_0 : decode cX7_edict 0 = .ok (.iload_n 1, 1) := chkD_at okX7_edict_0 0 rfl
theorem dX7_edict_1 : decode cX7_edict 1 = .ok (.iconst 0, 1) := chkD_at okX7_edict_0 1 rfl
theorem dX7_edict_2 : decode cX7_edict 2 = .ok (.iconst 1, 1) := chkD_at okX7_edict_0 2 rfl
theorem dX7_edict_3 : decode cX7_edict 3 = .ok (.invokestatic 86, 3) := chkD_at okX7_edict_0 3 rfl
theorem dX7_edict_6 : decode cX7_edict 6 = .ok (.ifCond .ne 10, 3) := chkD_at okX7_edict_0 4 rfl
theorem dX7_edict_9 : decode cX7_edict 9 = .ok (.aload_n 0, 1) := chkD_at okX7_edict_0 5 rfl
theorem dX7_edict_10 : decode cX7_edict 10 = .ok (.ldc 85, 2) := chkD_at okX7_edict_0 6 rfl
theorem dX7_edict_12 : decode cX7_edict 12 = .ok (.invokevirtual 104, 3) := chkD_at okX7_edict_0 7 rfl
theorem dX7_edict_15 : decode cX7_edict 15 = .ok (.ireturn, 1) := chkD_at okX7_edict_0 8 rfl
theorem dX7_edict_16 : decode cX7_edict 16 = .ok (.iload_n 2, 1) := chkD_at okX7_edict_0 9 rfl
theorem dX7_edict_17 : decode cX7_edict 17 = .ok (.ifCond .eq 7, 3) := chkD_at okX7_edict_0 10 rfl
theorem dX7_edict_20 : decode cX7_edict 20 = .ok (.iconst 1, 1) := chkD_at okX7_edict_0 11 rfl
theorem dX7_edict_21 : decode cX7_edict 21 = .ok (.goto 4, 3) := chkD_at okX7_edict_0 12 rfl
theorem dX7_edict_24 : decode cX7_edict 24 = .ok (.iconst 0, 1) := chkD_at okX7_edict_0 13 rfl
theorem dX7_edict_25 : decode cX7_edict 25 = .ok (.istore_n 3, 1) := chkD_at okX7_edict_0 14 rfl
theorem dX7_edict_26 : decode cX7_edict 26 = .ok (.aload_n 0, 1) := chkD_at okX7_edict_0 15 rfl
theorem dX7_edict_27 : decode cX7_edict 27 = .ok (.getfield 16, 3) := chkD_at okX7_edict_0 16 rfl
theorem dX7_edict_30 : decode cX7_edict 30 = .ok (.iload_n 1, 1) := chkD_at okX7_edict_0 17 rfl
theorem dX7_edict_31 : decode cX7_edict 31 = .ok (.iaload, 1) := chkD_at okX7_edict_0 18 rfl
theorem dX7_edict_32 : decode cX7_edict 32 = .ok (.iload_n 3, 1) := chkD_at okX7_edict_0 19 rfl
theorem dX7_edict_33 : decode cX7_edict 33 = .ok (.if_icmp .ne 5, 3) := chkD_at okX7_edict_0 20 rfl
theorem dX7_edict_36 : decode cX7_edict 36 = .ok (.iconst 0, 1) := chkD_at okX7_edict_0 21 rfl
theorem dX7_edict_37 : decode cX7_edict 37 = .ok (.ireturn, 1) := chkD_at okX7_edict_0 22 rfl
theorem dX7_edict_38 : decode cX7_edict 38 = .ok (.aload_n 0, 1) := chkD_at okX7_edict_0 23 rfl
theorem dX7_edict_39 : decode cX7_edict 39 = .ok (.getfield 16, 3) := chkD_at okX7_edict_0 24 rfl
theorem dX7_edict_42 : decode cX7_edict 42 = .ok (.iload_n 1, 1) := chkD_at okX7_edict_0 25 rfl
theorem dX7_edict_43 : decode cX7_edict 43 = .ok (.iload_n 3, 1) := chkD_at okX7_edict_0 26 rfl
theorem dX7_edict_44 : decode cX7_edict 44 = .ok (.iastore, 1) := chkD_at okX7_edict_0 27 rfl
theorem dX7_edict_45 : decode cX7_edict 45 = .ok (.iconst 1, 1) := chkD_at okX7_edict_0 28 rfl
theorem dX7_edict_46 : decode cX7_edict 46 = .ok (.ireturn, 1) := chkD_at okX7_edict_0 29 rfl
theorem okX7_dish_0 : chkD cX7_dish [(0, .iload_n 1, 1), (1, .iconst 1, 1), (2, .sipush 255, 3), (5, .invokestatic 86, 3), (8, .ifCond .eq 25, 3), (11, .iload_n 2, 1), (12, .iconst 0, 1), (13, .iconst 4, 1), (14, .invokestatic 86, 3), (17, .ifCond .eq 16, 3), (20, .iload_n 3, 1), (21, .iconst 0, 1), (22, .iconst 3, 1), (23, .invokestatic 86, 3), (26, .ifCond .eq 7, 3), (29, .iconst 1, 1), (30, .goto 4, 3), (33, .iconst 0, 1), (34, .istore 4, 2), (36, .iload 4, 2), (38, .ifCond .eq 11, 3), (41, .iload_n 1, 1), (42, .invokestatic 81, 3), (45, .iconst 3, 1), (46, .if_icmp .le 10, 3), (49, .aload_n 0, 1), (50, .ldc 85, 2), (52, .invokevirtual 104, 3), (55, .ireturn, 1), (56, .bipush 20, 2), (58, .iload_n 1, 1), (59, .imul, 1), (60, .iconst 4, 1), (61, .iload_n 2, 1), (62, .imul, 1), (63, .iadd, 1), (64, .iload_n 3, 1), (65, .iadd, 1), (66, .ireturn, 1)] = true := by decide +kernel
theorem dX7_dish_0 : decode cX7_dish 0 = .ok (.iload_n 1, 1) := chkD_at okX7_dish_0 0 rfl
theorem dX7_dish_1 : decode cX7_dish 1 = .ok (.iconst 1, 1) := chkD_at okX7_dish_0 1 rfl
theorem dX7_dish_2 : decode cX7_dish 2 = .ok (.sipush 255, 3) := chkD_at okX7_dish_0 2 rfl
theorem dX7_dish_5 : decode cX7_dish 5 = .ok (.invokestatic 86, 3) := chkD_at okX7_dish_0 3 rfl
theorem dX7_dish_8 : decode cX7_dish 8 = .ok (.ifCond .eq 25, 3) := chkD_at okX7_dish_0 4 rfl
theorem dX7_dish_11 : decode cX7_dish 11 = .ok (.iload_n 2, 1) := chkD_at okX7_dish_0 5 rfl
theorem dX7_dish_12 : decode cX7_dish 12 = .ok (.iconst 0, 1) := chkD_at okX7_dish_0 6 rfl
theorem dX7_dish_13 : decode cX7_dish 13 = .ok (.iconst 4, 1) := chkD_at okX7_dish_0 7 rfl
theorem dX7_dish_14 : decode cX7_dish 14 = .ok (.invokestatic 86, 3) := chkD_at okX7_dish_0 8 rfl
theorem dX7_dish_17 : decode cX7_dish 17 = .ok (.ifCond .eq 16, 3) := chkD_at okX7_dish_0 9 rfl
theorem dX7_dish_20 : decode cX7_dish 20 = .ok (.iload_n 3, 1) := chkD_at okX7_dish_0 10 rfl
theorem dX7_dish_21 : decode cX7_dish 21 = .ok (.iconst 0, 1) := chkD_at okX7_dish_0 11 rfl
theorem dX7_dish_22 : decode cX7_dish 22 = .ok (.iconst 3, 1) := chkD_at okX7_dish_0 12 rfl
theorem dX7_dish_23 : decode cX7_dish 23 = .ok (.invokestatic 86, 3) := chkD_at okX7_dish_0 13 rfl
theorem dX7_dish_26 : decode cX7_dish 26 = .ok (.ifCond .eq 7, 3) := chkD_at okX7_dish_0 14 rfl
theorem dX7_dish_29 : decode cX7_dish 29 = .ok (.iconst 1, 1) := chkD_at okX7_dish_0 15 rfl
theorem dX7_dish_30 : decode cX7_dish 30 = .ok (.goto 4, 3) := chkD_at okX7_dish_0 16 rfl
theorem dX7_dish_33 : decode cX7_dish 33 = .ok (.iconst 0, 1) := chkD_at okX7_dish_0 17 rfl
theorem dX7_dish_34 : decode cX7_dish 34 = .ok (.istore 4, 2) := chkD_at okX7_dish_0 18 rfl
theorem dX7_dish_36 : decode cX7_dish 36 = .ok (.iload 4, 2) := chkD_at okX7_dish_0 19 rfl
theorem dX7_dish_38 : decode cX7_dish 38 = .ok (.ifCond .eq 11, 3) := chkD_at okX7_dish_0 20 rfl
theorem dX7_dish_41 : decode cX7_dish 41 = .ok (.iload_n 1, 1) := chkD_at okX7_dish_0 21 rfl
theorem dX7_dish_42 : decode cX7_dish 42 = .ok (.invokestatic 81, 3) := chkD_at okX7_dish_0 22 rfl
theorem dX7_dish_45 : decode cX7_dish 45 = .ok (.iconst 3, 1) := chkD_at okX7_dish_0 23 rfl
theorem dX7_dish_46 : decode cX7_dish 46 = .ok (.if_icmp .le 10, 3) := chkD_at okX7_dish_0 24 rfl
theorem dX7_dish_49 : decode cX7_dish 49 = .ok (.aload_n 0, 1) := chkD_at okX7_dish_0 25 rfl
theorem dX7_dish_50 : decode cX7_dish 50 = .ok (.ldc 85, 2) := chkD_at okX7_dish_0 26 rfl
theorem dX7_dish_52 : decode cX7_dish 52 = .ok (.invokevirtual 104, 3) := chkD_at okX7_dish_0 27 rfl
theorem dX7_dish_55 : decode cX7_dish 55 = .ok (.ireturn, 1) := chkD_at okX7_dish_0 28 rfl
theorem dX7_dish_56 : decode cX7_dish 56 = .ok (.bipush 20, 2) := chkD_at okX7_dish_0 29 rfl
theorem dX7_dish_58 : decode cX7_dish 58 = .ok (.iload_n 1, 1) := chkD_at okX7_dish_0 30 rfl
theorem dX7_dish_59 : decode cX7_dish 59 = .ok (.imul, 1) := chkD_at okX7_dish_0 31 rfl
theorem dX7_dish_60 : decode cX7_dish 60 = .ok (.iconst 4, 1) := chkD_at okX7_dish_0 32 rfl
theorem dX7_dish_61 : decode cX7_dish 61 = .ok (.iload_n 2, 1) := chkD_at okX7_dish_0 33 rfl
theorem dX7_dish_62 : decode cX7_dish 62 = .ok (.imul, 1) := chkD_at okX7_dish_0 34 rfl
theorem dX7_dish_63 : decode cX7_dish 63 = .ok (.iadd, 1) := chkD_at okX7_dish_0 35 rfl
theorem dX7_dish_64 : decode cX7_dish 64 = .ok (.iload_n 3, 1) := chkD_at okX7_dish_0 36 rfl
theorem dX7_dish_65 : decode cX7_dish 65 = .ok (.iadd, 1) := chkD_at okX7_dish_0 37 rfl
theorem dX7_dish_66 : decode cX7_dish 66 = .ok (.ireturn, 1) := chkD_at okX7_dish_0 38 rfl
theorem okX7_likingOf_0 : chkD cX7_likingOf [(0, .aload_n 0, 1), (1, .getfield 13, 3), (4, .bipush 8, 2), (6, .iload_n 1, 1), (7, .invokestatic 114, 3), (10, .iadd, 1), (11, .iaload, 1), (12, .aload_n 0, 1), (13, .getfield 13, 3), (16, .bipush 13, 2), (18, .iload_n 1, 1), (19, .invokestatic 117, 3), (22, .iadd, 1), (23, .iaload, 1), (24, .iadd, 1), (25, .istore_n 2, 1), (26, .iconst 0, 1), (27, .istore_n 3, 1), (28, .iload_n 3, 1), (29, .bipush 8, 2), (31, .if_icmp .ge 33, 3), (34, .iload_n 2, 1), (35, .iload_n 1, 1), (36, .invokestatic 90, 3), (39, .iload_n 3, 1), (40, .invokestatic 120, 3), (43, .ifCond .eq 12, 3), (46, .aload_n 0, 1), (47, .getfield 13, 3), (50, .iload_n 3, 1), (51, .iaload, 1), (52, .goto 4, 3), (55, .iconst 0, 1), (56, .iadd, 1), (57, .istore_n 2, 1), (58, .iinc 3 1, 3), (61, .goto (-33), 3), (64, .iload_n 2, 1), (65, .ireturn, 1)] = true := by decide +kernel
theorem dX7_likingOf_0 : decode cX7_likingOf 0 = .ok (.aload_n 0, 1) := chkD_at okX7_likingOf_0 0 rfl
theorem dX7_likingOf_1 : decode cX7_likingOf 1 = .ok (.getfield 13, 3) := chkD_at okX7_likingOf_0 1 rfl
theorem dX7_likingOf_4 : decode cX7_likingOf 4 = .ok (.bipush 8, 2) := chkD_at okX7_likingOf_0 2 rfl
theorem dX7_likingOf_6 : decode cX7_likingOf 6 = .ok (.iload_n 1, 1) := chkD_at okX7_likingOf_0 3 rfl
theorem dX7_likingOf_7 : decode cX7_likingOf 7 = .ok (.invokestatic 114, 3) := chkD_at okX7_likingOf_0 4 rfl
theorem dX7_likingOf_10 : decode cX7_likingOf 10 = .ok (.iadd, 1) := chkD_at okX7_likingOf_0 5 rfl
theorem dX7_likingOf_11 : decode cX7_likingOf 11 = .ok (.iaload, 1) := chkD_at okX7_likingOf_0 6 rfl
theorem dX7_likingOf_12 : decode cX7_likingOf 12 = .ok (.aload_n 0, 1) := chkD_at okX7_likingOf_0 7 rfl
theorem dX7_likingOf_13 : decode cX7_likingOf 13 = .ok (.getfield 13, 3) := chkD_at okX7_likingOf_0 8 rfl
theorem dX7_likingOf_16 : decode cX7_likingOf 16 = .ok (.bipush 13, 2) := chkD_at okX7_likingOf_0 9 rfl
theorem dX7_likingOf_18 : decode cX7_likingOf 18 = .ok (.iload_n 1, 1) := chkD_at okX7_likingOf_0 10 rfl
theorem dX7_likingOf_19 : decode cX7_likingOf 19 = .ok (.invokestatic 117, 3) := chkD_at okX7_likingOf_0 11 rfl
theorem dX7_likingOf_22 : decode cX7_likingOf 22 = .ok (.iadd, 1) := chkD_at okX7_likingOf_0 12 rfl
theorem dX7_likingOf_23 : decode cX7_likingOf 23 = .ok (.iaload, 1) := chkD_at okX7_likingOf_0 13 rfl
theorem dX7_likingOf_24 : decode cX7_likingOf 24 = .ok (.iadd, 1) := chkD_at okX7_likingOf_0 14 rfl
theorem dX7_likingOf_25 : decode cX7_likingOf 25 = .ok (.istore_n 2, 1) := chkD_at okX7_likingOf_0 15 rfl
theorem dX7_likingOf_26 : decode cX7_likingOf 26 = .ok (.iconst 0, 1) := chkD_at okX7_likingOf_0 16 rfl
theorem dX7_likingOf_27 : decode cX7_likingOf 27 = .ok (.istore_n 3, 1) := chkD_at okX7_likingOf_0 17 rfl
theorem dX7_likingOf_28 : decode cX7_likingOf 28 = .ok (.iload_n 3, 1) := chkD_at okX7_likingOf_0 18 rfl
theorem dX7_likingOf_29 : decode cX7_likingOf 29 = .ok (.bipush 8, 2) := chkD_at okX7_likingOf_0 19 rfl
theorem dX7_likingOf_31 : decode cX7_likingOf 31 = .ok (.if_icmp .ge 33, 3) := chkD_at okX7_likingOf_0 20 rfl
theorem dX7_likingOf_34 : decode cX7_likingOf 34 = .ok (.iload_n 2, 1) := chkD_at okX7_likingOf_0 21 rfl
theorem dX7_likingOf_35 : decode cX7_likingOf 35 = .ok (.iload_n 1, 1) := chkD_at okX7_likingOf_0 22 rfl
theorem dX7_likingOf_36 : decode cX7_likingOf 36 = .ok (.invokestatic 90, 3) := chkD_at okX7_likingOf_0 23 rfl
theorem dX7_likingOf_39 : decode cX7_likingOf 39 = .ok (.iload_n 3, 1) := chkD_at okX7_likingOf_0 24 rfl
theorem dX7_likingOf_40 : decode cX7_likingOf 40 = .ok (.invokestatic 120, 3) := chkD_at okX7_likingOf_0 25 rfl
theorem dX7_likingOf_43 : decode cX7_likingOf 43 = .ok (.ifCond .eq 12, 3) := chkD_at okX7_likingOf_0 26 rfl
theorem dX7_likingOf_46 : decode cX7_likingOf 46 = .ok (.aload_n 0, 1) := chkD_at okX7_likingOf_0 27 rfl
theorem dX7_likingOf_47 : decode cX7_likingOf 47 = .ok (.getfield 13, 3) := chkD_at okX7_likingOf_0 28 rfl
theorem dX7_likingOf_50 : decode cX7_likingOf 50 = .ok (.iload_n 3, 1) := chkD_at okX7_likingOf_0 29 rfl
theorem dX7_likingOf_51 : decode cX7_likingOf 51 = .ok (.iaload, 1) := chkD_at okX7_likingOf_0 30 rfl
theorem dX7_likingOf_52 : decode cX7_likingOf 52 = .ok (.goto 4, 3) := chkD_at okX7_likingOf_0 31 rfl
theorem dX7_likingOf_55 : decode cX7_likingOf 55 = .ok (.iconst 0, 1) := chkD_at okX7_likingOf_0 32 rfl
theorem dX7_likingOf_56 : decode cX7_likingOf 56 = .ok (.iadd, 1) := chkD_at okX7_likingOf_0 33 rfl
theorem dX7_likingOf_57 : decode cX7_likingOf 57 = .ok (.istore_n 2, 1) := chkD_at okX7_likingOf_0 34 rfl
theorem dX7_likingOf_58 : decode cX7_likingOf 58 = .ok (.iinc 3 1, 3) := chkD_at okX7_likingOf_0 35 rfl
theorem dX7_likingOf_61 : decode cX7_likingOf 61 = .ok (.goto (-33), 3) := chkD_at okX7_likingOf_0 36 rfl
theorem dX7_likingOf_64 : decode cX7_likingOf 64 = .ok (.iload_n 2, 1) := chkD_at okX7_likingOf_0 37 rfl
theorem dX7_likingOf_65 : decode cX7_likingOf 65 = .ok (.ireturn, 1) := chkD_at okX7_likingOf_0 38 rfl
theorem okX7_canBe_0 : chkD cX7_canBe [(0, .iconst 1, 1), (1, .istore_n 2, 1), (2, .iconst 0, 1), (3, .istore_n 3, 1), (4, .iload_n 3, 1), (5, .bipush 8, 2), (7, .if_icmp .ge 39, 3), (10, .iload_n 2, 1), (11, .ifCond .eq 27, 3), (14, .iload_n 1, 1), (15, .invokestatic 90, 3), (18, .iload_n 3, 1), (19, .invokestatic 120, 3), (22, .ifCond .eq 12, 3), (25, .aload_n 0, 1), (26, .getfield 7, 3), (29, .iload_n 3, 1), (30, .iaload, 1), (31, .ifCond .le 7, 3), (34, .iconst 1, 1), (35, .goto 4, 3), (38, .iconst 0, 1), (39, .istore_n 2, 1), (40, .iinc 3 1, 3), (43, .goto (-39), 3), (46, .iload_n 2, 1), (47, .ireturn, 1)] = true := by decide +kernel
theorem dX7_canBe_0 : decode cX7_canBe 0 = .ok (.iconst 1, 1) := chkD_at okX7_canBe_0 0 rfl
theorem dX7_canBe_1 : decode cX7_canBe 1 = .ok (.istore_n 2, 1) := chkD_at okX7_canBe_0 1 rfl
theorem dX7_canBe_2 : decode cX7_canBe 2 = .ok (.iconst 0, 1) := chkD_at okX7_canBe_0 2 rfl
theorem dX7_canBe_3 : decode cX7_canBe 3 = .ok (.istore_n 3, 1) := chkD_at okX7_canBe_0 3 rfl
theorem dX7_canBe_4 : decode cX7_canBe 4 = .ok (.iload_n 3, 1) := chkD_at okX7_canBe_0 4 rfl
theorem dX7_canBe_5 : decode cX7_canBe 5 = .ok (.bipush 8, 2) := chkD_at okX7_canBe_0 5 rfl
theorem dX7_canBe_7 : decode cX7_canBe 7 = .ok (.if_icmp .ge 39, 3) := chkD_at okX7_canBe_0 6 rfl
theorem dX7_canBe_10 : decode cX7_canBe 10 = .ok (.iload_n 2, 1) := chkD_at okX7_canBe_0 7 rfl
theorem dX7_canBe_11 : decode cX7_canBe 11 = .ok (.ifCond .eq 27, 3) := chkD_at okX7_canBe_0 8 rfl
theorem dX7_canBe_14 : decode cX7_canBe 14 = .ok (.iload_n 1, 1) := chkD_at okX7_canBe_0 9 rfl
theorem dX7_canBe_15 : decode cX7_canBe 15 = .ok (.invokestatic 90, 3) := chkD_at okX7_canBe_0 10 rfl
theorem dX7_canBe_18 : decode cX7_canBe 18 = .ok (.iload_n 3, 1) := chkD_at okX7_canBe_0 11 rfl
theorem dX7_canBe_19 : decode cX7_canBe 19 = .ok (.invokestatic 120, 3) := chkD_at okX7_canBe_0 12 rfl
theorem dX7_canBe_22 : decode cX7_canBe 22 = .ok (.ifCond .eq 12, 3) := chkD_at okX7_canBe_0 13 rfl
theorem dX7_canBe_25 : decode cX7_canBe 25 = .ok (.aload_n 0, 1) := chkD_at okX7_canBe_0 14 rfl
theorem dX7_canBe_26 : decode cX7_canBe 26 = .ok (.getfield 7, 3) := chkD_at okX7_canBe_0 15 rfl
theorem dX7_canBe_29 : decode cX7_canBe 29 = .ok (.iload_n 3, 1) := chkD_at okX7_canBe_0 16 rfl
theorem dX7_canBe_30 : decode cX7_canBe 30 = .ok (.iaload, 1) := chkD_at okX7_canBe_0 17 rfl
theorem dX7_canBe_31 : decode cX7_canBe 31 = .ok (.ifCond .le 7, 3) := chkD_at okX7_canBe_0 18 rfl
theorem dX7_canBe_34 : decode cX7_canBe 34 = .ok (.iconst 1, 1) := chkD_at okX7_canBe_0 19 rfl
theorem dX7_canBe_35 : decode cX7_canBe 35 = .ok (.goto 4, 3) := chkD_at okX7_canBe_0 20 rfl
theorem dX7_canBe_38 : decode cX7_canBe 38 = .ok (.iconst 0, 1) := chkD_at okX7_canBe_0 21 rfl
theorem dX7_canBe_39 : decode cX7_canBe 39 = .ok (.istore_n 2, 1) := chkD_at okX7_canBe_0 22 rfl
theorem dX7_canBe_40 : decode cX7_canBe 40 = .ok (.iinc 3 1, 3) := chkD_at okX7_canBe_0 23 rfl
theorem dX7_canBe_43 : decode cX7_canBe 43 = .ok (.goto (-39), 3) := chkD_at okX7_canBe_0 24 rfl
theorem dX7_canBe_46 : decode cX7_canBe 46 = .ok (.iload_n 2, 1) := chkD_at okX7_canBe_0 25 rfl
theorem dX7_canBe_47 : decode cX7_canBe 47 = .ok (.ireturn, 1) := chkD_at okX7_canBe_0 26 rfl
theorem okX7_barsIt_0 : chkD cX7_barsIt [(0, .aload_n 0, 1), (1, .getfield 22, 3), (4, .iload_n 1, 1), (5, .iaload, 1), (6, .istore_n 3, 1), (7, .iload_n 3, 1), (8, .invokestatic 90, 3), (11, .iload_n 2, 1), (12, .invokestatic 90, 3), (15, .if_icmp .ne 7, 3), (18, .iconst 1, 1), (19, .goto 4, 3), (22, .iconst 0, 1), (23, .istore 4, 2), (25, .iload_n 3, 1), (26, .invokestatic 90, 3), (29, .iload_n 2, 1), (30, .invokestatic 90, 3), (33, .iand, 1), (34, .iload_n 3, 1), (35, .invokestatic 90, 3), (38, .if_icmp .eq 19, 3), (41, .iload_n 3, 1), (42, .invokestatic 90, 3), (45, .iload_n 2, 1), (46, .invokestatic 90, 3), (49, .iand, 1), (50, .iload_n 2, 1), (51, .invokestatic 90, 3), (54, .if_icmp .ne 7, 3), (57, .iconst 1, 1), (58, .goto 4, 3), (61, .iconst 0, 1), (62, .istore 5, 2), (64, .iload_n 3, 1), (65, .invokestatic 114, 3), (68, .iload_n 2, 1), (69, .invokestatic 114, 3), (72, .if_icmp .ne 7, 3), (75, .iconst 1, 1), (76, .goto 4, 3), (79, .iconst 0, 1), (80, .istore 6, 2), (82, .iload_n 3, 1), (83, .invokestatic 117, 3), (86, .iload_n 2, 1), (87, .invokestatic 117, 3), (90, .if_icmp .ne 7, 3), (93, .iconst 1, 1), (94, .goto 4, 3), (97, .iconst 0, 1), (98, .istore 7, 2), (100, .iload 6, 2), (102, .ifCond .ne 12, 3), (105, .aload_n 0, 1), (106, .getfield 16, 3), (109, .iconst 1, 1), (110, .iaload, 1), (111, .ifCond .ne 21, 3), (114, .iload 7, 2), (116, .ifCond .ne 12, 3), (119, .aload_n 0, 1), (120, .getfield 16, 3), (123, .iconst 0, 1), (124, .iaload, 1), (125, .ifCond .ne 7, 3), (128, .iconst 1, 1), (129, .goto 4, 3), (132, .iconst 0, 1), (133, .istore 8, 2), (135, .aload_n 0, 1), (136, .getfield 19, 3), (139, .iload_n 1, 1), (140, .iaload, 1), (141, .tableswitch 93 1 5 #[35, 51, 53, 74, 77], 35), (176, .iload 5, 2), (178, .ifCond .eq 12, 3), (181, .iload 8, 2), (183, .ifCond .eq 7, 3), (186, .iconst 1, 1)] = true := by decide +kernel
theorem dX7_barsIt_0 : decode cX7_barsIt 0 = .ok (.aload_n 0, 1) := chkD_at okX7_barsIt_0 0 rfl
theorem dX7_barsIt_1 : decode cX7_barsIt 1 = .ok (.getfield 22, 3) := chkD_at okX7_barsIt_0 1 rfl
theorem dX7_barsIt_4 : decode cX7_barsIt 4 = .ok (.iload_n 1, 1) := chkD_at okX7_barsIt_0 2 rfl
theorem dX7_barsIt_5 : decode cX7_barsIt 5 = .ok (.iaload, 1) := chkD_at okX7_barsIt_0 3 rfl
theorem dX7_barsIt_6 : decode cX7_barsIt 6 = .ok (.istore_n 3, 1) := chkD_at okX7_barsIt_0 4 rfl
theorem dX7_barsIt_7 : decode cX7_barsIt 7 = .ok (.iload_n 3, 1) := chkD_at okX7_barsIt_0 5 rfl
theorem dX7_barsIt_8 : decode cX7_barsIt 8 = .ok (.invokestatic 90, 3) := chkD_at okX7_barsIt_0 6 rfl
theorem dX7_barsIt_11 : decode cX7_barsIt 11 = .ok (.iload_n 2, 1) := chkD_at okX7_barsIt_0 7 rfl
theorem dX7_barsIt_12 : decode cX7_barsIt 12 = .ok (.invokestatic 90, 3) := chkD_at okX7_barsIt_0 8 rfl
theorem dX7_barsIt_15 : decode cX7_barsIt 15 = .ok (.if_icmp .ne 7, 3) := chkD_at okX7_barsIt_0 9 rfl
theorem dX7_barsIt_18 : decode cX7_barsIt 18 = .ok (.iconst 1, 1) := chkD_at okX7_barsIt_0 10 rfl
theorem dX7_barsIt_19 : decode cX7_barsIt 19 = .ok (.goto 4, 3) := chkD_at okX7_barsIt_0 11 rfl
theorem dX7_barsIt_22 : decode cX7_barsIt 22 = .ok (.iconst 0, 1) := chkD_at okX7_barsIt_0 12 rfl
theorem dX7_barsIt_23 : decode cX7_barsIt 23 = .ok (.istore 4, 2) := chkD_at okX7_barsIt_0 13 rfl
theorem dX7_barsIt_25 : decode cX7_barsIt 25 = .ok (.iload_n 3, 1) := chkD_at okX7_barsIt_0 14 rfl
theorem dX7_barsIt_26 : decode cX7_barsIt 26 = .ok (.invokestatic 90, 3) := chkD_at okX7_barsIt_0 15 rfl
theorem dX7_barsIt_29 : decode cX7_barsIt 29 = .ok (.iload_n 2, 1) := chkD_at okX7_barsIt_0 16 rfl
theorem dX7_barsIt_30 : decode cX7_barsIt 30 = .ok (.invokestatic 90, 3) := chkD_at okX7_barsIt_0 17 rfl
theorem dX7_barsIt_33 : decode cX7_barsIt 33 = .ok (.iand, 1) := chkD_at okX7_barsIt_0 18 rfl
theorem dX7_barsIt_34 : decode cX7_barsIt 34 = .ok (.iload_n 3, 1) := chkD_at okX7_barsIt_0 19 rfl
theorem dX7_barsIt_35 : decode cX7_barsIt 35 = .ok (.invokestatic 90, 3) := chkD_at okX7_barsIt_0 20 rfl
theorem dX7_barsIt_38 : decode cX7_barsIt 38 = .ok (.if_icmp .eq 19, 3) := chkD_at okX7_barsIt_0 21 rfl
theorem dX7_barsIt_41 : decode cX7_barsIt 41 = .ok (.iload_n 3, 1) := chkD_at okX7_barsIt_0 22 rfl
theorem dX7_barsIt_42 : decode cX7_barsIt 42 = .ok (.invokestatic 90, 3) := chkD_at okX7_barsIt_0 23 rfl
theorem dX7_barsIt_45 : decode cX7_barsIt 45 = .ok (.iload_n 2, 1) := chkD_at okX7_barsIt_0 24 rfl
theorem dX7_barsIt_46 : decode cX7_barsIt 46 = .ok (.invokestatic 90, 3) := chkD_at okX7_barsIt_0 25 rfl
theorem dX7_barsIt_49 : decode cX7_barsIt 49 = .ok (.iand, 1) := chkD_at okX7_barsIt_0 26 rfl
theorem dX7_barsIt_50 : decode cX7_barsIt 50 = .ok (.iload_n 2, 1) := chkD_at okX7_barsIt_0 27 rfl
theorem dX7_barsIt_51 : decode cX7_barsIt 51 = .ok (.invokestatic 90, 3) := chkD_at okX7_barsIt_0 28 rfl
theorem dX7_barsIt_54 : decode cX7_barsIt 54 = .ok (.if_icmp .ne 7, 3) := chkD_at okX7_barsIt_0 29 rfl
theorem dX7_barsIt_57 : decode cX7_barsIt 57 = .ok (.iconst 1, 1) := chkD_at okX7_barsIt_0 30 rfl
theorem dX7_barsIt_58 : decode cX7_barsIt 58 = .ok (.goto 4, 3) := chkD_at okX7_barsIt_0 31 rfl
theorem dX7_barsIt_61 : decode cX7_barsIt 61 = .ok (.iconst 0, 1) := chkD_at okX7_barsIt_0 32 rfl
theorem dX7_barsIt_62 : decode cX7_barsIt 62 = .ok (.istore 5, 2) := chkD_at okX7_barsIt_0 33 rfl
theorem dX7_barsIt_64 : decode cX7_barsIt 64 = .ok (.iload_n 3, 1) := chkD_at okX7_barsIt_0 34 rfl
theorem dX7_barsIt_65 : decode cX7_barsIt 65 = .ok (.invokestatic 114, 3) := chkD_at okX7_barsIt_0 35 rfl
theorem dX7_barsIt_68 : decode cX7_barsIt 68 = .ok (.iload_n 2, 1) := chkD_at okX7_barsIt_0 36 rfl
theorem dX7_barsIt_69 : decode cX7_barsIt 69 = .ok (.invokestatic 114, 3) := chkD_at okX7_barsIt_0 37 rfl
theorem dX7_barsIt_72 : decode cX7_barsIt 72 = .ok (.if_icmp .ne 7, 3) := chkD_at okX7_barsIt_0 38 rfl
theorem dX7_barsIt_75 : decode cX7_barsIt 75 = .ok (.iconst 1, 1) := chkD_at okX7_barsIt_0 39 rfl
theorem dX7_barsIt_76 : decode cX7_barsIt 76 = .ok (.goto 4, 3) := chkD_at okX7_barsIt_0 40 rfl
theorem dX7_barsIt_79 : decode cX7_barsIt 79 = .ok (.iconst 0, 1) := chkD_at okX7_barsIt_0 41 rfl
theorem dX7_barsIt_80 : decode cX7_barsIt 80 = .ok (.istore 6, 2) := chkD_at okX7_barsIt_0 42 rfl
theorem dX7_barsIt_82 : decode cX7_barsIt 82 = .ok (.iload_n 3, 1) := chkD_at okX7_barsIt_0 43 rfl
theorem dX7_barsIt_83 : decode cX7_barsIt 83 = .ok (.invokestatic 117, 3) := chkD_at okX7_barsIt_0 44 rfl
theorem dX7_barsIt_86 : decode cX7_barsIt 86 = .ok (.iload_n 2, 1) := chkD_at okX7_barsIt_0 45 rfl
theorem dX7_barsIt_87 : decode cX7_barsIt 87 = .ok (.invokestatic 117, 3) := chkD_at okX7_barsIt_0 46 rfl
theorem dX7_barsIt_90 : decode cX7_barsIt 90 = .ok (.if_icmp .ne 7, 3) := chkD_at okX7_barsIt_0 47 rfl
theorem dX7_barsIt_93 : decode cX7_barsIt 93 = .ok (.iconst 1, 1) := chkD_at okX7_barsIt_0 48 rfl
theorem dX7_barsIt_94 : decode cX7_barsIt 94 = .ok (.goto 4, 3) := chkD_at okX7_barsIt_0 49 rfl
theorem dX7_barsIt_97 : decode cX7_barsIt 97 = .ok (.iconst 0, 1) := chkD_at okX7_barsIt_0 50 rfl
theorem dX7_barsIt_98 : decode cX7_barsIt 98 = .ok (.istore 7, 2) := chkD_at okX7_barsIt_0 51 rfl
theorem dX7_barsIt_100 : decode cX7_barsIt 100 = .ok (.iload 6, 2) := chkD_at okX7_barsIt_0 52 rfl
theorem dX7_barsIt_102 : decode cX7_barsIt 102 = .ok (.ifCond .ne 12, 3) := chkD_at okX7_barsIt_0 53 rfl
theorem dX7_barsIt_105 : decode cX7_barsIt 105 = .ok (.aload_n 0, 1) := chkD_at okX7_barsIt_0 54 rfl
theorem dX7_barsIt_106 : decode cX7_barsIt 106 = .ok (.getfield 16, 3) := chkD_at okX7_barsIt_0 55 rfl
theorem dX7_barsIt_109 : decode cX7_barsIt 109 = .ok (.iconst 1, 1) := chkD_at okX7_barsIt_0 56 rfl
theorem dX7_barsIt_110 : decode cX7_barsIt 110 = .ok (.iaload, 1) := chkD_at okX7_barsIt_0 57 rfl
theorem dX7_barsIt_111 : decode cX7_barsIt 111 = .ok (.ifCond .ne 21, 3) := chkD_at okX7_barsIt_0 58 rfl
theorem dX7_barsIt_114 : decode cX7_barsIt 114 = .ok (.iload 7, 2) := chkD_at okX7_barsIt_0 59 rfl
theorem dX7_barsIt_116 : decode cX7_barsIt 116 = .ok (.ifCond .ne 12, 3) := chkD_at okX7_barsIt_0 60 rfl
theorem dX7_barsIt_119 : decode cX7_barsIt 119 = .ok (.aload_n 0, 1) := chkD_at okX7_barsIt_0 61 rfl
theorem dX7_barsIt_120 : decode cX7_barsIt 120 = .ok (.getfield 16, 3) := chkD_at okX7_barsIt_0 62 rfl
theorem dX7_barsIt_123 : decode cX7_barsIt 123 = .ok (.iconst 0, 1) := chkD_at okX7_barsIt_0 63 rfl
theorem dX7_barsIt_124 : decode cX7_barsIt 124 = .ok (.iaload, 1) := chkD_at okX7_barsIt_0 64 rfl
theorem dX7_barsIt_125 : decode cX7_barsIt 125 = .ok (.ifCond .ne 7, 3) := chkD_at okX7_barsIt_0 65 rfl
theorem dX7_barsIt_128 : decode cX7_barsIt 128 = .ok (.iconst 1, 1) := chkD_at okX7_barsIt_0 66 rfl
theorem dX7_barsIt_129 : decode cX7_barsIt 129 = .ok (.goto 4, 3) := chkD_at okX7_barsIt_0 67 rfl
theorem dX7_barsIt_132 : decode cX7_barsIt 132 = .ok (.iconst 0, 1) := chkD_at okX7_barsIt_0 68 rfl
theorem dX7_barsIt_133 : decode cX7_barsIt 133 = .ok (.istore 8, 2) := chkD_at okX7_barsIt_0 69 rfl
theorem dX7_barsIt_135 : decode cX7_barsIt 135 = .ok (.aload_n 0, 1) := chkD_at okX7_barsIt_0 70 rfl
theorem dX7_barsIt_136 : decode cX7_barsIt 136 = .ok (.getfield 19, 3) := chkD_at okX7_barsIt_0 71 rfl
theorem dX7_barsIt_139 : decode cX7_barsIt 139 = .ok (.iload_n 1, 1) := chkD_at okX7_barsIt_0 72 rfl
theorem dX7_barsIt_140 : decode cX7_barsIt 140 = .ok (.iaload, 1) := chkD_at okX7_barsIt_0 73 rfl
theorem dX7_barsIt_141 : decode cX7_barsIt 141 = .ok (.tableswitch 93 1 5 #[35, 51, 53, 74, 77], 35) := chkD_at okX7_barsIt_0 74 rfl
theorem dX7_barsIt_176 : decode cX7_barsIt 176 = .ok (.iload 5, 2) := chkD_at okX7_barsIt_0 75 rfl
theorem dX7_barsIt_178 : decode cX7_barsIt 178 = .ok (.ifCond .eq 12, 3) := chkD_at okX7_barsIt_0 76 rfl
theorem dX7_barsIt_181 : decode cX7_barsIt 181 = .ok (.iload 8, 2) := chkD_at okX7_barsIt_0 77 rfl
theorem dX7_barsIt_183 : decode cX7_barsIt 183 = .ok (.ifCond .eq 7, 3) := chkD_at okX7_barsIt_0 78 rfl
theorem dX7_barsIt_186 : decode cX7_barsIt 186 = .ok (.iconst 1, 1) := chkD_at okX7_barsIt_0 79 rfl
theorem okX7_barsIt_1 : chkD cX7_barsIt [(187, .goto 4, 3), (190, .iconst 0, 1), (191, .ireturn, 1), (192, .iconst 0, 1), (193, .ireturn, 1), (194, .iload 4, 2), (196, .ifCond .eq 17, 3), (199, .iload 6, 2), (201, .ifCond .eq 12, 3), (204, .iload 7, 2), (206, .ifCond .eq 7, 3), (209, .iconst 1, 1), (210, .goto 4, 3), (213, .iconst 0, 1), (214, .ireturn, 1), (215, .iload 5, 2), (217, .ireturn, 1), (218, .iload 4, 2), (220, .ifCond .eq 12, 3), (223, .iload 6, 2), (225, .ifCond .eq 7, 3), (228, .iconst 1, 1), (229, .goto 4, 3), (232, .iconst 0, 1), (233, .ireturn, 1), (234, .iload 4, 2), (236, .ifCond .eq 12, 3), (239, .iload 8, 2), (241, .ifCond .eq 7, 3), (244, .iconst 1, 1), (245, .goto 4, 3), (248, .iconst 0, 1), (249, .ireturn, 1)] = true := by decide +kernel
theorem dX7_barsIt_187 : decode cX7_barsIt 187 = .ok (.goto 4, 3) := chkD_at okX7_barsIt_1 0 rfl
theorem dX7_barsIt_190 : decode cX7_barsIt 190 = .ok (.iconst 0, 1) := chkD_at okX7_barsIt_1 1 rfl
theorem dX7_barsIt_191 : decode cX7_barsIt 191 = .ok (.ireturn, 1) := chkD_at okX7_barsIt_1 2 rfl
theorem dX7_barsIt_192 : decode cX7_barsIt 192 = .ok (.iconst 0, 1) := chkD_at okX7_barsIt_1 3 rfl
theorem dX7_barsIt_193 : decode cX7_barsIt 193 = .ok (.ireturn, 1) := chkD_at okX7_barsIt_1 4 rfl
theorem dX7_barsIt_194 : decode cX7_barsIt 194 = .ok (.iload 4, 2) := chkD_at okX7_barsIt_1 5 rfl
theorem dX7_barsIt_196 : decode cX7_barsIt 196 = .ok (.ifCond .eq 17, 3) := chkD_at okX7_barsIt_1 6 rfl
theorem dX7_barsIt_199 : decode cX7_barsIt 199 = .ok (.iload 6, 2) := chkD_at okX7_barsIt_1 7 rfl
theorem dX7_barsIt_201 : decode cX7_barsIt 201 = .ok (.ifCond .eq 12, 3) := chkD_at okX7_barsIt_1 8 rfl
theorem dX7_barsIt_204 : decode cX7_barsIt 204 = .ok (.iload 7, 2) := chkD_at okX7_barsIt_1 9 rfl
theorem dX7_barsIt_206 : decode cX7_barsIt 206 = .ok (.ifCond .eq 7, 3) := chkD_at okX7_barsIt_1 10 rfl
theorem dX7_barsIt_209 : decode cX7_barsIt 209 = .ok (.iconst 1, 1) := chkD_at okX7_barsIt_1 11 rfl
theorem dX7_barsIt_210 : decode cX7_barsIt 210 = .ok (.goto 4, 3) := chkD_at okX7_barsIt_1 12 rfl
theorem dX7_barsIt_213 : decode cX7_barsIt 213 = .ok (.iconst 0, 1) := chkD_at okX7_barsIt_1 13 rfl
theorem dX7_barsIt_214 : decode cX7_barsIt 214 = .ok (.ireturn, 1) := chkD_at okX7_barsIt_1 14 rfl
theorem dX7_barsIt_215 : decode cX7_barsIt 215 = .ok (.iload 5, 2) := chkD_at okX7_barsIt_1 15 rfl
theorem dX7_barsIt_217 : decode cX7_barsIt 217 = .ok (.ireturn, 1) := chkD_at okX7_barsIt_1 16 rfl
theorem dX7_barsIt_218 : decode cX7_barsIt 218 = .ok (.iload 4, 2) := chkD_at okX7_barsIt_1 17 rfl
theorem dX7_barsIt_220 : decode cX7_barsIt 220 = .ok (.ifCond .eq 12, 3) := chkD_at okX7_barsIt_1 18 rfl
theorem dX7_barsIt_223 : decode cX7_barsIt 223 = .ok (.iload 6, 2) := chkD_at okX7_barsIt_1 19 rfl
theorem dX7_barsIt_225 : decode cX7_barsIt 225 = .ok (.ifCond .eq 7, 3) := chkD_at okX7_barsIt_1 20 rfl
theorem dX7_barsIt_228 : decode cX7_barsIt 228 = .ok (.iconst 1, 1) := chkD_at okX7_barsIt_1 21 rfl
theorem dX7_barsIt_229 : decode cX7_barsIt 229 = .ok (.goto 4, 3) := chkD_at okX7_barsIt_1 22 rfl
theorem dX7_barsIt_232 : decode cX7_barsIt 232 = .ok (.iconst 0, 1) := chkD_at okX7_barsIt_1 23 rfl
theorem dX7_barsIt_233 : decode cX7_barsIt 233 = .ok (.ireturn, 1) := chkD_at okX7_barsIt_1 24 rfl
theorem dX7_barsIt_234 : decode cX7_barsIt 234 = .ok (.iload 4, 2) := chkD_at okX7_barsIt_1 25 rfl
theorem dX7_barsIt_236 : decode cX7_barsIt 236 = .ok (.ifCond .eq 12, 3) := chkD_at okX7_barsIt_1 26 rfl
theorem dX7_barsIt_239 : decode cX7_barsIt 239 = .ok (.iload 8, 2) := chkD_at okX7_barsIt_1 27 rfl
theorem dX7_barsIt_241 : decode cX7_barsIt 241 = .ok (.ifCond .eq 7, 3) := chkD_at okX7_barsIt_1 28 rfl
theorem dX7_barsIt_244 : decode cX7_barsIt 244 = .ok (.iconst 1, 1) := chkD_at okX7_barsIt_1 29 rfl
theorem dX7_barsIt_245 : decode cX7_barsIt 245 = .ok (.goto 4, 3) := chkD_at okX7_barsIt_1 30 rfl
theorem dX7_barsIt_248 : decode cX7_barsIt 248 = .ok (.iconst 0, 1) := chkD_at okX7_barsIt_1 31 rfl
theorem dX7_barsIt_249 : decode cX7_barsIt 249 = .ok (.ireturn, 1) := chkD_at okX7_barsIt_1 32 rfl
theorem okX7_firstBy_0 : chkD cX7_firstBy [(0, .iconst 0, 1), (1, .istore_n 2, 1), (2, .iload_n 2, 1), (3, .aload_n 0, 1), (4, .getfield 93, 3), (7, .if_icmp .ge 20, 3), (10, .aload_n 0, 1), (11, .iload_n 2, 1), (12, .iload_n 1, 1), (13, .invokevirtual 124, 3), (16, .ifCond .eq 5, 3), (19, .iload_n 2, 1), (20, .ireturn, 1), (21, .iinc 2 1, 3), (24, .goto (-22), 3), (27, .ldc 127, 2), (29, .ireturn, 1)] = true := by decide +kernel
theorem dX7_firstBy_0 : decode cX7_firstBy 0 = .ok (.iconst 0, 1) := chkD_at okX7_firstBy_0 0 rfl
theorem dX7_firstBy_1 : decode cX7_firstBy 1 = .ok (.istore_n 2, 1) := chkD_at okX7_firstBy_0 1 rfl
theorem dX7_firstBy_2 : decode cX7_firstBy 2 = .ok (.iload_n 2, 1) := chkD_at okX7_firstBy_0 2 rfl
theorem dX7_firstBy_3 : decode cX7_firstBy 3 = .ok (.aload_n 0, 1) := chkD_at okX7_firstBy_0 3 rfl
theorem dX7_firstBy_4 : decode cX7_firstBy 4 = .ok (.getfield 93, 3) := chkD_at okX7_firstBy_0 4 rfl
theorem dX7_firstBy_7 : decode cX7_firstBy 7 = .ok (.if_icmp .ge 20, 3) := chkD_at okX7_firstBy_0 5 rfl
theorem dX7_firstBy_10 : decode cX7_firstBy 10 = .ok (.aload_n 0, 1) := chkD_at okX7_firstBy_0 6 rfl
theorem dX7_firstBy_11 : decode cX7_firstBy 11 = .ok (.iload_n 2, 1) := chkD_at okX7_firstBy_0 7 rfl
theorem dX7_firstBy_12 : decode cX7_firstBy 12 = .ok (.iload_n 1, 1) := chkD_at okX7_firstBy_0 8 rfl
theorem dX7_firstBy_13 : decode cX7_firstBy 13 = .ok (.invokevirtual 124, 3) := chkD_at okX7_firstBy_0 9 rfl
theorem dX7_firstBy_16 : decode cX7_firstBy 16 = .ok (.ifCond .eq 5, 3) := chkD_at okX7_firstBy_0 10 rfl
theorem dX7_firstBy_19 : decode cX7_firstBy 19 = .ok (.iload_n 2, 1) := chkD_at okX7_firstBy_0 11 rfl
theorem dX7_firstBy_20 : decode cX7_firstBy 20 = .ok (.ireturn, 1) := chkD_at okX7_firstBy_0 12 rfl
theorem dX7_firstBy_21 : decode cX7_firstBy 21 = .ok (.iinc 2 1, 3) := chkD_at okX7_firstBy_0 13 rfl
theorem dX7_firstBy_24 : decode cX7_firstBy 24 = .ok (.goto (-22), 3) := chkD_at okX7_firstBy_0 14 rfl
theorem dX7_firstBy_27 : decode cX7_firstBy 27 = .ok (.ldc 127, 2) := chkD_at okX7_firstBy_0 15 rfl
theorem dX7_firstBy_29 : decode cX7_firstBy 29 = .ok (.ireturn, 1) := chkD_at okX7_firstBy_0 16 rfl
theorem okX7_isNew_0 : chkD cX7_isNew [(0, .aload_n 0, 1), (1, .iload_n 1, 1), (2, .invokevirtual 128, 3), (5, .ifCond .ge 7, 3), (8, .iconst 1, 1), (9, .goto 4, 3), (12, .iconst 0, 1), (13, .ireturn, 1)] = true := by decide +kernel
theorem dX7_isNew_0 : decode cX7_isNew 0 = .ok (.aload_n 0, 1) := chkD_at okX7_isNew_0 0 rfl
theorem dX7_isNew_1 : decode cX7_isNew 1 = .ok (.iload_n 1, 1) := chkD_at okX7_isNew_0 1 rfl
theorem dX7_isNew_2 : decode cX7_isNew 2 = .ok (.invokevirtual 128, 3) := chkD_at okX7_isNew_0 2 rfl
theorem dX7_isNew_5 : decode cX7_isNew 5 = .ok (.ifCond .ge 7, 3) := chkD_at okX7_isNew_0 3 rfl
theorem dX7_isNew_8 : decode cX7_isNew 8 = .ok (.iconst 1, 1) := chkD_at okX7_isNew_0 4 rfl
theorem dX7_isNew_9 : decode cX7_isNew 9 = .ok (.goto 4, 3) := chkD_at okX7_isNew_0 5 rfl
theorem dX7_isNew_12 : decode cX7_isNew 12 = .ok (.iconst 0, 1) := chkD_at okX7_isNew_0 6 rfl
theorem dX7_isNew_13 : decode cX7_isNew 13 = .ok (.ireturn, 1) := chkD_at okX7_isNew_0 7 rfl
theorem okX7_of_0 : chkD cX7_of [(0, .aload_n 0, 1), (1, .iload_n 1, 1), (2, .invokevirtual 131, 3), (5, .ifCond .eq 12, 3), (8, .iload_n 2, 1), (9, .iconst 0, 1), (10, .iconst 5, 1), (11, .invokestatic 86, 3), (14, .ifCond .ne 10, 3), (17, .aload_n 0, 1), (18, .ldc 85, 2), (20, .invokevirtual 104, 3), (23, .ireturn, 1), (24, .iload_n 2, 1), (25, .tableswitch 70 0 4 #[35, 40, 45, 50, 56], 35), (60, .iload_n 1, 1), (61, .invokestatic 90, 3), (64, .ireturn, 1), (65, .iload_n 1, 1), (66, .invokestatic 114, 3), (69, .ireturn, 1), (70, .iload_n 1, 1), (71, .invokestatic 117, 3), (74, .ireturn, 1), (75, .aload_n 0, 1), (76, .iload_n 1, 1), (77, .invokevirtual 134, 3), (80, .ireturn, 1), (81, .aload_n 0, 1), (82, .iload_n 1, 1), (83, .invokevirtual 137, 3), (86, .ifCond .eq 7, 3), (89, .iconst 1, 1), (90, .goto 4, 3), (93, .iconst 0, 1), (94, .ireturn, 1), (95, .aload_n 0, 1), (96, .iload_n 1, 1), (97, .invokevirtual 140, 3), (100, .ifCond .eq 7, 3), (103, .iconst 1, 1), (104, .goto 4, 3), (107, .iconst 0, 1), (108, .ireturn, 1)] = true := by decide +kernel
theorem dX7_of_0 : decode cX7_of 0 = .ok (.aload_n 0, 1) := chkD_at okX7_of_0 0 rfl
theorem dX7_of_1 : decode cX7_of 1 = .ok (.iload_n 1, 1) := chkD_at okX7_of_0 1 rfl
theorem dX7_of_2 : decode cX7_of 2 = .ok (.invokevirtual 131, 3) := chkD_at okX7_of_0 2 rfl
theorem dX7_of_5 : decode cX7_of 5 = .ok (.ifCond .eq 12, 3) := chkD_at okX7_of_0 3 rfl
theorem dX7_of_8 : decode cX7_of 8 = .ok (.iload_n 2, 1) := chkD_at okX7_of_0 4 rfl
theorem dX7_of_9 : decode cX7_of 9 = .ok (.iconst 0, 1) := chkD_at okX7_of_0 5 rfl
theorem dX7_of_10 : decode cX7_of 10 = .ok (.iconst 5, 1) := chkD_at okX7_of_0 6 rfl
theorem dX7_of_11 : decode cX7_of 11 = .ok (.invokestatic 86, 3) := chkD_at okX7_of_0 7 rfl
theorem dX7_of_14 : decode cX7_of 14 = .ok (.ifCond .ne 10, 3) := chkD_at okX7_of_0 8 rfl
theorem dX7_of_17 : decode cX7_of 17 = .ok (.aload_n 0, 1) := chkD_at okX7_of_0 9 rfl
theorem dX7_of_18 : decode cX7_of 18 = .ok (.ldc 85, 2) := chkD_at okX7_of_0 10 rfl
theorem dX7_of_20 : decode cX7_of 20 = .ok (.invokevirtual 104, 3) := chkD_at okX7_of_0 11 rfl
theorem dX7_of_23 : decode cX7_of 23 = .ok (.ireturn, 1) := chkD_at okX7_of_0 12 rfl
theorem dX7_of_24 : decode cX7_of 24 = .ok (.iload_n 2, 1) := chkD_at okX7_of_0 13 rfl
theorem dX7_of_25 : decode cX7_of 25 = .ok (.tableswitch 70 0 4 #[35, 40, 45, 50, 56], 35) := chkD_at okX7_of_0 14 rfl
theorem dX7_of_60 : decode cX7_of 60 = .ok (.iload_n 1, 1) := chkD_at okX7_of_0 15 rfl
theorem dX7_of_61 : decode cX7_of 61 = .ok (.invokestatic 90, 3) := chkD_at okX7_of_0 16 rfl
theorem dX7_of_64 : decode cX7_of 64 = .ok (.ireturn, 1) := chkD_at okX7_of_0 17 rfl
theorem dX7_of_65 : decode cX7_of 65 = .ok (.iload_n 1, 1) := chkD_at okX7_of_0 18 rfl
theorem dX7_of_66 : decode cX7_of 66 = .ok (.invokestatic 114, 3) := chkD_at okX7_of_0 19 rfl
theorem dX7_of_69 : decode cX7_of 69 = .ok (.ireturn, 1) := chkD_at okX7_of_0 20 rfl
theorem dX7_of_70 : decode cX7_of 70 = .ok (.iload_n 1, 1) := chkD_at okX7_of_0 21 rfl
theorem dX7_of_71 : decode cX7_of 71 = .ok (.invokestatic 117, 3) := chkD_at okX7_of_0 22 rfl
theorem dX7_of_74 : decode cX7_of 74 = .ok (.ireturn, 1) := chkD_at okX7_of_0 23 rfl
theorem dX7_of_75 : decode cX7_of 75 = .ok (.aload_n 0, 1) := chkD_at okX7_of_0 24 rfl
theorem dX7_of_76 : decode cX7_of 76 = .ok (.iload_n 1, 1) := chkD_at okX7_of_0 25 rfl
theorem dX7_of_77 : decode cX7_of 77 = .ok (.invokevirtual 134, 3) := chkD_at okX7_of_0 26 rfl
theorem dX7_of_80 : decode cX7_of 80 = .ok (.ireturn, 1) := chkD_at okX7_of_0 27 rfl
theorem dX7_of_81 : decode cX7_of 81 = .ok (.aload_n 0, 1) := chkD_at okX7_of_0 28 rfl
theorem dX7_of_82 : decode cX7_of 82 = .ok (.iload_n 1, 1) := chkD_at okX7_of_0 29 rfl
theorem dX7_of_83 : decode cX7_of 83 = .ok (.invokevirtual 137, 3) := chkD_at okX7_of_0 30 rfl
theorem dX7_of_86 : decode cX7_of 86 = .ok (.ifCond .eq 7, 3) := chkD_at okX7_of_0 31 rfl
theorem dX7_of_89 : decode cX7_of 89 = .ok (.iconst 1, 1) := chkD_at okX7_of_0 32 rfl
theorem dX7_of_90 : decode cX7_of 90 = .ok (.goto 4, 3) := chkD_at okX7_of_0 33 rfl
theorem dX7_of_93 : decode cX7_of 93 = .ok (.iconst 0, 1) := chkD_at okX7_of_0 34 rfl
theorem dX7_of_94 : decode cX7_of 94 = .ok (.ireturn, 1) := chkD_at okX7_of_0 35 rfl
theorem dX7_of_95 : decode cX7_of 95 = .ok (.aload_n 0, 1) := chkD_at okX7_of_0 36 rfl
theorem dX7_of_96 : decode cX7_of 96 = .ok (.iload_n 1, 1) := chkD_at okX7_of_0 37 rfl
theorem dX7_of_97 : decode cX7_of 97 = .ok (.invokevirtual 140, 3) := chkD_at okX7_of_0 38 rfl
theorem dX7_of_100 : decode cX7_of 100 = .ok (.ifCond .eq 7, 3) := chkD_at okX7_of_0 39 rfl
theorem dX7_of_103 : decode cX7_of 103 = .ok (.iconst 1, 1) := chkD_at okX7_of_0 40 rfl
theorem dX7_of_104 : decode cX7_of 104 = .ok (.goto 4, 3) := chkD_at okX7_of_0 41 rfl
theorem dX7_of_107 : decode cX7_of 107 = .ok (.iconst 0, 1) := chkD_at okX7_of_0 42 rfl
theorem dX7_of_108 : decode cX7_of 108 = .ok (.ireturn, 1) := chkD_at okX7_of_0 43 rfl
theorem okX7_nearOf_0 : chkD cX7_nearOf [(0, .iload_n 0, 1), (1, .invokestatic 90, 3), (4, .iload_n 1, 1), (5, .invokestatic 90, 3), (8, .ixor, 1), (9, .invokestatic 81, 3), (12, .iload_n 0, 1), (13, .invokestatic 114, 3), (16, .iload_n 1, 1), (17, .invokestatic 114, 3), (20, .if_icmp .eq 7, 3), (23, .iconst 1, 1), (24, .goto 4, 3), (27, .iconst 0, 1), (28, .iadd, 1), (29, .iload_n 0, 1), (30, .invokestatic 117, 3), (33, .iload_n 1, 1), (34, .invokestatic 117, 3), (37, .if_icmp .eq 7, 3), (40, .iconst 1, 1), (41, .goto 4, 3), (44, .iconst 0, 1), (45, .iadd, 1), (46, .ireturn, 1)] = true := by decide +kernel
theorem dX7_nearOf_0 : decode cX7_nearOf 0 = .ok (.iload_n 0, 1) := chkD_at okX7_nearOf_0 0 rfl
theorem dX7_nearOf_1 : decode cX7_nearOf 1 = .ok (.invokestatic 90, 3) := chkD_at okX7_nearOf_0 1 rfl
theorem dX7_nearOf_4 : decode cX7_nearOf 4 = .ok (.iload_n 1, 1) := chkD_at okX7_nearOf_0 2 rfl
theorem dX7_nearOf_5 : decode cX7_nearOf 5 = .ok (.invokestatic 90, 3) := chkD_at okX7_nearOf_0 3 rfl
theorem dX7_nearOf_8 : decode cX7_nearOf 8 = .ok (.ixor, 1) := chkD_at okX7_nearOf_0 4 rfl
theorem dX7_nearOf_9 : decode cX7_nearOf 9 = .ok (.invokestatic 81, 3) := chkD_at okX7_nearOf_0 5 rfl
theorem dX7_nearOf_12 : decode cX7_nearOf 12 = .ok (.iload_n 0, 1) := chkD_at okX7_nearOf_0 6 rfl
theorem dX7_nearOf_13 : decode cX7_nearOf 13 = .ok (.invokestatic 114, 3) := chkD_at okX7_nearOf_0 7 rfl
theorem dX7_nearOf_16 : decode cX7_nearOf 16 = .ok (.iload_n 1, 1) := chkD_at okX7_nearOf_0 8 rfl
theorem dX7_nearOf_17 : decode cX7_nearOf 17 = .ok (.invokestatic 114, 3) := chkD_at okX7_nearOf_0 9 rfl
theorem dX7_nearOf_20 : decode cX7_nearOf 20 = .ok (.if_icmp .eq 7, 3) := chkD_at okX7_nearOf_0 10 rfl
theorem dX7_nearOf_23 : decode cX7_nearOf 23 = .ok (.iconst 1, 1) := chkD_at okX7_nearOf_0 11 rfl
theorem dX7_nearOf_24 : decode cX7_nearOf 24 = .ok (.goto 4, 3) := chkD_at okX7_nearOf_0 12 rfl
theorem dX7_nearOf_27 : decode cX7_nearOf 27 = .ok (.iconst 0, 1) := chkD_at okX7_nearOf_0 13 rfl
theorem dX7_nearOf_28 : decode cX7_nearOf 28 = .ok (.iadd, 1) := chkD_at okX7_nearOf_0 14 rfl
theorem dX7_nearOf_29 : decode cX7_nearOf 29 = .ok (.iload_n 0, 1) := chkD_at okX7_nearOf_0 15 rfl
theorem dX7_nearOf_30 : decode cX7_nearOf 30 = .ok (.invokestatic 117, 3) := chkD_at okX7_nearOf_0 16 rfl
theorem dX7_nearOf_33 : decode cX7_nearOf 33 = .ok (.iload_n 1, 1) := chkD_at okX7_nearOf_0 17 rfl
theorem dX7_nearOf_34 : decode cX7_nearOf 34 = .ok (.invokestatic 117, 3) := chkD_at okX7_nearOf_0 18 rfl
theorem dX7_nearOf_37 : decode cX7_nearOf 37 = .ok (.if_icmp .eq 7, 3) := chkD_at okX7_nearOf_0 19 rfl
theorem dX7_nearOf_40 : decode cX7_nearOf 40 = .ok (.iconst 1, 1) := chkD_at okX7_nearOf_0 20 rfl
theorem dX7_nearOf_41 : decode cX7_nearOf 41 = .ok (.goto 4, 3) := chkD_at okX7_nearOf_0 21 rfl
theorem dX7_nearOf_44 : decode cX7_nearOf 44 = .ok (.iconst 0, 1) := chkD_at okX7_nearOf_0 22 rfl
theorem dX7_nearOf_45 : decode cX7_nearOf 45 = .ok (.iadd, 1) := chkD_at okX7_nearOf_0 23 rfl
theorem dX7_nearOf_46 : decode cX7_nearOf 46 = .ok (.ireturn, 1) := chkD_at okX7_nearOf_0 24 rfl
theorem okX7_near_0 : chkD cX7_near [(0, .aload_n 0, 1), (1, .iload_n 1, 1), (2, .invokevirtual 131, 3), (5, .ifCond .eq 19, 3), (8, .aload_n 0, 1), (9, .iload_n 2, 1), (10, .invokevirtual 131, 3), (13, .ifCond .eq 11, 3), (16, .iload_n 1, 1), (17, .iload_n 2, 1), (18, .invokestatic 143, 3), (21, .goto 9, 3), (24, .aload_n 0, 1), (25, .ldc 85, 2), (27, .invokevirtual 104, 3), (30, .ireturn, 1)] = true := by decide +kernel
theorem dX7_near_0 : decode cX7_near 0 = .ok (.aload_n 0, 1) := chkD_at okX7_near_0 0 rfl
theorem dX7_near_1 : decode cX7_near 1 = .ok (.iload_n 1, 1) := chkD_at okX7_near_0 1 rfl
theorem dX7_near_2 : decode cX7_near 2 = .ok (.invokevirtual 131, 3) := chkD_at okX7_near_0 2 rfl
theorem dX7_near_5 : decode cX7_near 5 = .ok (.ifCond .eq 19, 3) := chkD_at okX7_near_0 3 rfl
theorem dX7_near_8 : decode cX7_near 8 = .ok (.aload_n 0, 1) := chkD_at okX7_near_0 4 rfl
theorem dX7_near_9 : decode cX7_near 9 = .ok (.iload_n 2, 1) := chkD_at okX7_near_0 5 rfl
theorem dX7_near_10 : decode cX7_near 10 = .ok (.invokevirtual 131, 3) := chkD_at okX7_near_0 6 rfl
theorem dX7_near_13 : decode cX7_near 13 = .ok (.ifCond .eq 11, 3) := chkD_at okX7_near_0 7 rfl
theorem dX7_near_16 : decode cX7_near 16 = .ok (.iload_n 1, 1) := chkD_at okX7_near_0 8 rfl
theorem dX7_near_17 : decode cX7_near 17 = .ok (.iload_n 2, 1) := chkD_at okX7_near_0 9 rfl
theorem dX7_near_18 : decode cX7_near 18 = .ok (.invokestatic 143, 3) := chkD_at okX7_near_0 10 rfl
theorem dX7_near_21 : decode cX7_near 21 = .ok (.goto 9, 3) := chkD_at okX7_near_0 11 rfl
theorem dX7_near_24 : decode cX7_near 24 = .ok (.aload_n 0, 1) := chkD_at okX7_near_0 12 rfl
theorem dX7_near_25 : decode cX7_near 25 = .ok (.ldc 85, 2) := chkD_at okX7_near_0 13 rfl
theorem dX7_near_27 : decode cX7_near 27 = .ok (.invokevirtual 104, 3) := chkD_at okX7_near_0 14 rfl
theorem dX7_near_30 : decode cX7_near 30 = .ok (.ireturn, 1) := chkD_at okX7_near_0 15 rfl
theorem okX7_nearHad_0 : chkD cX7_nearHad [(0, .aload_n 0, 1), (1, .iload_n 1, 1), (2, .invokevirtual 131, 3), (5, .ifCond .eq 13, 3), (8, .iload_n 2, 1), (9, .iconst 0, 1), (10, .bipush 8, 2), (12, .invokestatic 86, 3), (15, .ifCond .ne 10, 3), (18, .aload_n 0, 1), (19, .ldc 85, 2), (21, .invokevirtual 104, 3), (24, .ireturn, 1), (25, .iconst 0, 1), (26, .istore_n 3, 1), (27, .iconst 0, 1), (28, .istore 4, 2), (30, .iload 4, 2), (32, .aload_n 0, 1), (33, .getfield 93, 3), (36, .if_icmp .ge 43, 3), (39, .iload_n 3, 1), (40, .aload_n 0, 1), (41, .getfield 19, 3), (44, .iload 4, 2), (46, .iaload, 1), (47, .iconst 2, 1), (48, .if_icmp .eq 22, 3), (51, .aload_n 0, 1), (52, .getfield 22, 3), (55, .iload 4, 2), (57, .iaload, 1), (58, .iload_n 1, 1), (59, .invokestatic 143, 3), (62, .iload_n 2, 1), (63, .if_icmp .gt 7, 3), (66, .iconst 1, 1), (67, .goto 4, 3), (70, .iconst 0, 1), (71, .iadd, 1), (72, .istore_n 3, 1), (73, .iinc 4 1, 3), (76, .goto (-46), 3), (79, .iload_n 3, 1), (80, .ireturn, 1)] = true := by decide +kernel
theorem dX7_nearHad_0 : decode cX7_nearHad 0 = .ok (.aload_n 0, 1) := chkD_at okX7_nearHad_0 0 rfl
theorem dX7_nearHad_1 : decode cX7_nearHad 1 = .ok (.iload_n 1, 1) := chkD_at okX7_nearHad_0 1 rfl
theorem dX7_nearHad_2 : decode cX7_nearHad 2 = .ok (.invokevirtual 131, 3) := chkD_at okX7_nearHad_0 2 rfl
theorem dX7_nearHad_5 : decode cX7_nearHad 5 = .ok (.ifCond .eq 13, 3) := chkD_at okX7_nearHad_0 3 rfl
theorem dX7_nearHad_8 : decode cX7_nearHad 8 = .ok (.iload_n 2, 1) := chkD_at okX7_nearHad_0 4 rfl
theorem dX7_nearHad_9 : decode cX7_nearHad 9 = .ok (.iconst 0, 1) := chkD_at okX7_nearHad_0 5 rfl
theorem dX7_nearHad_10 : decode cX7_nearHad 10 = .ok (.bipush 8, 2) := chkD_at okX7_nearHad_0 6 rfl
theorem dX7_nearHad_12 : decode cX7_nearHad 12 = .ok (.invokestatic 86, 3) := chkD_at okX7_nearHad_0 7 rfl
theorem dX7_nearHad_15 : decode cX7_nearHad 15 = .ok (.ifCond .ne 10, 3) := chkD_at okX7_nearHad_0 8 rfl
theorem dX7_nearHad_18 : decode cX7_nearHad 18 = .ok (.aload_n 0, 1) := chkD_at okX7_nearHad_0 9 rfl
theorem dX7_nearHad_19 : decode cX7_nearHad 19 = .ok (.ldc 85, 2) := chkD_at okX7_nearHad_0 10 rfl
theorem dX7_nearHad_21 : decode cX7_nearHad 21 = .ok (.invokevirtual 104, 3) := chkD_at okX7_nearHad_0 11 rfl
theorem dX7_nearHad_24 : decode cX7_nearHad 24 = .ok (.ireturn, 1) := chkD_at okX7_nearHad_0 12 rfl
theorem dX7_nearHad_25 : decode cX7_nearHad 25 = .ok (.iconst 0, 1) := chkD_at okX7_nearHad_0 13 rfl
theorem dX7_nearHad_26 : decode cX7_nearHad 26 = .ok (.istore_n 3, 1) := chkD_at okX7_nearHad_0 14 rfl
theorem dX7_nearHad_27 : decode cX7_nearHad 27 = .ok (.iconst 0, 1) := chkD_at okX7_nearHad_0 15 rfl
theorem dX7_nearHad_28 : decode cX7_nearHad 28 = .ok (.istore 4, 2) := chkD_at okX7_nearHad_0 16 rfl
theorem dX7_nearHad_30 : decode cX7_nearHad 30 = .ok (.iload 4, 2) := chkD_at okX7_nearHad_0 17 rfl
theorem dX7_nearHad_32 : decode cX7_nearHad 32 = .ok (.aload_n 0, 1) := chkD_at okX7_nearHad_0 18 rfl
theorem dX7_nearHad_33 : decode cX7_nearHad 33 = .ok (.getfield 93, 3) := chkD_at okX7_nearHad_0 19 rfl
theorem dX7_nearHad_36 : decode cX7_nearHad 36 = .ok (.if_icmp .ge 43, 3) := chkD_at okX7_nearHad_0 20 rfl
theorem dX7_nearHad_39 : decode cX7_nearHad 39 = .ok (.iload_n 3, 1) := chkD_at okX7_nearHad_0 21 rfl
theorem dX7_nearHad_40 : decode cX7_nearHad 40 = .ok (.aload_n 0, 1) := chkD_at okX7_nearHad_0 22 rfl
theorem dX7_nearHad_41 : decode cX7_nearHad 41 = .ok (.getfield 19, 3) := chkD_at okX7_nearHad_0 23 rfl
theorem dX7_nearHad_44 : decode cX7_nearHad 44 = .ok (.iload 4, 2) := chkD_at okX7_nearHad_0 24 rfl
theorem dX7_nearHad_46 : decode cX7_nearHad 46 = .ok (.iaload, 1) := chkD_at okX7_nearHad_0 25 rfl
theorem dX7_nearHad_47 : decode cX7_nearHad 47 = .ok (.iconst 2, 1) := chkD_at okX7_nearHad_0 26 rfl
theorem dX7_nearHad_48 : decode cX7_nearHad 48 = .ok (.if_icmp .eq 22, 3) := chkD_at okX7_nearHad_0 27 rfl
theorem dX7_nearHad_51 : decode cX7_nearHad 51 = .ok (.aload_n 0, 1) := chkD_at okX7_nearHad_0 28 rfl
theorem dX7_nearHad_52 : decode cX7_nearHad 52 = .ok (.getfield 22, 3) := chkD_at okX7_nearHad_0 29 rfl
theorem dX7_nearHad_55 : decode cX7_nearHad 55 = .ok (.iload 4, 2) := chkD_at okX7_nearHad_0 30 rfl
theorem dX7_nearHad_57 : decode cX7_nearHad 57 = .ok (.iaload, 1) := chkD_at okX7_nearHad_0 31 rfl
theorem dX7_nearHad_58 : decode cX7_nearHad 58 = .ok (.iload_n 1, 1) := chkD_at okX7_nearHad_0 32 rfl
theorem dX7_nearHad_59 : decode cX7_nearHad 59 = .ok (.invokestatic 143, 3) := chkD_at okX7_nearHad_0 33 rfl
theorem dX7_nearHad_62 : decode cX7_nearHad 62 = .ok (.iload_n 2, 1) := chkD_at okX7_nearHad_0 34 rfl
theorem dX7_nearHad_63 : decode cX7_nearHad 63 = .ok (.if_icmp .gt 7, 3) := chkD_at okX7_nearHad_0 35 rfl
theorem dX7_nearHad_66 : decode cX7_nearHad 66 = .ok (.iconst 1, 1) := chkD_at okX7_nearHad_0 36 rfl
theorem dX7_nearHad_67 : decode cX7_nearHad 67 = .ok (.goto 4, 3) := chkD_at okX7_nearHad_0 37 rfl
theorem dX7_nearHad_70 : decode cX7_nearHad 70 = .ok (.iconst 0, 1) := chkD_at okX7_nearHad_0 38 rfl
theorem dX7_nearHad_71 : decode cX7_nearHad 71 = .ok (.iadd, 1) := chkD_at okX7_nearHad_0 39 rfl
theorem dX7_nearHad_72 : decode cX7_nearHad 72 = .ok (.istore_n 3, 1) := chkD_at okX7_nearHad_0 40 rfl
theorem dX7_nearHad_73 : decode cX7_nearHad 73 = .ok (.iinc 4 1, 3) := chkD_at okX7_nearHad_0 41 rfl
theorem dX7_nearHad_76 : decode cX7_nearHad 76 = .ok (.goto (-46), 3) := chkD_at okX7_nearHad_0 42 rfl
theorem dX7_nearHad_79 : decode cX7_nearHad 79 = .ok (.iload_n 3, 1) := chkD_at okX7_nearHad_0 43 rfl
theorem dX7_nearHad_80 : decode cX7_nearHad 80 = .ok (.ireturn, 1) := chkD_at okX7_nearHad_0 44 rfl
theorem okX7_marks_0 : chkD cX7_marks [(0, .iconst 0, 1), (1, .istore_n 1, 1), (2, .iload_n 1, 1), (3, .sipush 1840, 3), (6, .if_icmp .ge 16, 3), (9, .aload_n 0, 1), (10, .getfield 37, 3), (13, .iload_n 1, 1), (14, .iconst 0, 1), (15, .bastore, 1), (16, .iinc 1 1, 3), (19, .goto (-17), 3), (22, .iconst 0, 1), (23, .istore_n 1, 1), (24, .iload_n 1, 1), (25, .aload_n 0, 1), (26, .getfield 93, 3), (29, .if_icmp .ge 14, 3), (32, .aload_n 0, 1), (33, .iload_n 1, 1), (34, .invokevirtual 146, 3), (37, .iinc 1 1, 3), (40, .goto (-16), 3), (43, .return_, 1)] = true := by decide +kernel
theorem dX7_marks_0 : decode cX7_marks 0 = .ok (.iconst 0, 1) := chkD_at okX7_marks_0 0 rfl
theorem dX7_marks_1 : decode cX7_marks 1 = .ok (.istore_n 1, 1) := chkD_at okX7_marks_0 1 rfl
theorem dX7_marks_2 : decode cX7_marks 2 = .ok (.iload_n 1, 1) := chkD_at okX7_marks_0 2 rfl
theorem dX7_marks_3 : decode cX7_marks 3 = .ok (.sipush 1840, 3) := chkD_at okX7_marks_0 3 rfl
theorem dX7_marks_6 : decode cX7_marks 6 = .ok (.if_icmp .ge 16, 3) := chkD_at okX7_marks_0 4 rfl
theorem dX7_marks_9 : decode cX7_marks 9 = .ok (.aload_n 0, 1) := chkD_at okX7_marks_0 5 rfl
theorem dX7_marks_10 : decode cX7_marks 10 = .ok (.getfield 37, 3) := chkD_at okX7_marks_0 6 rfl
theorem dX7_marks_13 : decode cX7_marks 13 = .ok (.iload_n 1, 1) := chkD_at okX7_marks_0 7 rfl
theorem dX7_marks_14 : decode cX7_marks 14 = .ok (.iconst 0, 1) := chkD_at okX7_marks_0 8 rfl
theorem dX7_marks_15 : decode cX7_marks 15 = .ok (.bastore, 1) := chkD_at okX7_marks_0 9 rfl
theorem dX7_marks_16 : decode cX7_marks 16 = .ok (.iinc 1 1, 3) := chkD_at okX7_marks_0 10 rfl
theorem dX7_marks_19 : decode cX7_marks 19 = .ok (.goto (-17), 3) := chkD_at okX7_marks_0 11 rfl
theorem dX7_marks_22 : decode cX7_marks 22 = .ok (.iconst 0, 1) := chkD_at okX7_marks_0 12 rfl
theorem dX7_marks_23 : decode cX7_marks 23 = .ok (.istore_n 1, 1) := chkD_at okX7_marks_0 13 rfl
theorem dX7_marks_24 : decode cX7_marks 24 = .ok (.iload_n 1, 1) := chkD_at okX7_marks_0 14 rfl
theorem dX7_marks_25 : decode cX7_marks 25 = .ok (.aload_n 0, 1) := chkD_at okX7_marks_0 15 rfl
theorem dX7_marks_26 : decode cX7_marks 26 = .ok (.getfield 93, 3) := chkD_at okX7_marks_0 16 rfl
theorem dX7_marks_29 : decode cX7_marks 29 = .ok (.if_icmp .ge 14, 3) := chkD_at okX7_marks_0 17 rfl
theorem dX7_marks_32 : decode cX7_marks 32 = .ok (.aload_n 0, 1) := chkD_at okX7_marks_0 18 rfl
theorem dX7_marks_33 : decode cX7_marks 33 = .ok (.iload_n 1, 1) := chkD_at okX7_marks_0 19 rfl
theorem dX7_marks_34 : decode cX7_marks 34 = .ok (.invokevirtual 146, 3) := chkD_at okX7_marks_0 20 rfl
theorem dX7_marks_37 : decode cX7_marks 37 = .ok (.iinc 1 1, 3) := chkD_at okX7_marks_0 21 rfl
theorem dX7_marks_40 : decode cX7_marks 40 = .ok (.goto (-16), 3) := chkD_at okX7_marks_0 22 rfl
theorem dX7_marks_43 : decode cX7_marks 43 = .ok (.return_, 1) := chkD_at okX7_marks_0 23 rfl
theorem okX7_marksBy_0 : chkD cX7_marksBy [(0, .aload_n 0, 1), (1, .getfield 22, 3), (4, .iload_n 1, 1), (5, .iaload, 1), (6, .invokestatic 90, 3), (9, .istore_n 2, 1), (10, .iconst 0, 1), (11, .istore_n 3, 1), (12, .iload_n 3, 1), (13, .bipush 92, 2), (15, .if_icmp .ge 96, 3), (18, .aload_n 0, 1), (19, .getfield 31, 3), (22, .iload_n 3, 1), (23, .iaload, 1), (24, .iload_n 2, 1), (25, .iand, 1), (26, .istore 4, 2), (28, .bipush 20, 2), (30, .iload_n 3, 1), (31, .imul, 1), (32, .istore 5, 2), (34, .iload 5, 2), (36, .bipush 20, 2), (38, .iload_n 3, 1), (39, .imul, 1), (40, .bipush 20, 2), (42, .iadd, 1), (43, .if_icmp .ge 62, 3), (46, .iload 4, 2), (48, .iload_n 2, 1), (49, .if_icmp .eq 14, 3), (52, .iload 4, 2), (54, .aload_n 0, 1), (55, .getfield 31, 3), (58, .iload_n 3, 1), (59, .iaload, 1), (60, .if_icmp .ne 45, 3), (63, .aload_n 0, 1), (64, .getfield 37, 3), (67, .iload 5, 2), (69, .aload_n 0, 1), (70, .getfield 37, 3), (73, .iload 5, 2), (75, .baload, 1), (76, .ifCond .ne 17, 3), (79, .aload_n 0, 1), (80, .iload_n 1, 1), (81, .aload_n 0, 1), (82, .iload 5, 2), (84, .invokevirtual 150, 3), (87, .invokevirtual 124, 3), (90, .ifCond .eq 7, 3), (93, .iconst 1, 1), (94, .goto 4, 3), (97, .iconst 0, 1), (98, .bastore, 1), (99, .iinc 5 1, 3), (102, .goto (-68), 3), (105, .iinc 3 1, 3), (108, .goto (-96), 3), (111, .return_, 1)] = true := by decide +kernel
theorem dX7_marksBy_0 : decode cX7_marksBy 0 = .ok (.aload_n 0, 1) := chkD_at okX7_marksBy_0 0 rfl
theorem dX7_marksBy_1 : decode cX7_marksBy 1 = .ok (.getfield 22, 3) := chkD_at okX7_marksBy_0 1 rfl
theorem dX7_marksBy_4 : decode cX7_marksBy 4 = .ok (.iload_n 1, 1) := chkD_at okX7_marksBy_0 2 rfl
theorem dX7_marksBy_5 : decode cX7_marksBy 5 = .ok (.iaload, 1) := chkD_at okX7_marksBy_0 3 rfl
theorem dX7_marksBy_6 : decode cX7_marksBy 6 = .ok (.invokestatic 90, 3) := chkD_at okX7_marksBy_0 4 rfl
theorem dX7_marksBy_9 : decode cX7_marksBy 9 = .ok (.istore_n 2, 1) := chkD_at okX7_marksBy_0 5 rfl
theorem dX7_marksBy_10 : decode cX7_marksBy 10 = .ok (.iconst 0, 1) := chkD_at okX7_marksBy_0 6 rfl
theorem dX7_marksBy_11 : decode cX7_marksBy 11 = .ok (.istore_n 3, 1) := chkD_at okX7_marksBy_0 7 rfl
theorem dX7_marksBy_12 : decode cX7_marksBy 12 = .ok (.iload_n 3, 1) := chkD_at okX7_marksBy_0 8 rfl
theorem dX7_marksBy_13 : decode cX7_marksBy 13 = .ok (.bipush 92, 2) := chkD_at okX7_marksBy_0 9 rfl
theorem dX7_marksBy_15 : decode cX7_marksBy 15 = .ok (.if_icmp .ge 96, 3) := chkD_at okX7_marksBy_0 10 rfl
theorem dX7_marksBy_18 : decode cX7_marksBy 18 = .ok (.aload_n 0, 1) := chkD_at okX7_marksBy_0 11 rfl
theorem dX7_marksBy_19 : decode cX7_marksBy 19 = .ok (.getfield 31, 3) := chkD_at okX7_marksBy_0 12 rfl
theorem dX7_marksBy_22 : decode cX7_marksBy 22 = .ok (.iload_n 3, 1) := chkD_at okX7_marksBy_0 13 rfl
theorem dX7_marksBy_23 : decode cX7_marksBy 23 = .ok (.iaload, 1) := chkD_at okX7_marksBy_0 14 rfl
theorem dX7_marksBy_24 : decode cX7_marksBy 24 = .ok (.iload_n 2, 1) := chkD_at okX7_marksBy_0 15 rfl
theorem dX7_marksBy_25 : decode cX7_marksBy 25 = .ok (.iand, 1) := chkD_at okX7_marksBy_0 16 rfl
theorem dX7_marksBy_26 : decode cX7_marksBy 26 = .ok (.istore 4, 2) := chkD_at okX7_marksBy_0 17 rfl
theorem dX7_marksBy_28 : decode cX7_marksBy 28 = .ok (.bipush 20, 2) := chkD_at okX7_marksBy_0 18 rfl
theorem dX7_marksBy_30 : decode cX7_marksBy 30 = .ok (.iload_n 3, 1) := chkD_at okX7_marksBy_0 19 rfl
theorem dX7_marksBy_31 : decode cX7_marksBy 31 = .ok (.imul, 1) := chkD_at okX7_marksBy_0 20 rfl
theorem dX7_marksBy_32 : decode cX7_marksBy 32 = .ok (.istore 5, 2) := chkD_at okX7_marksBy_0 21 rfl
theorem dX7_marksBy_34 : decode cX7_marksBy 34 = .ok (.iload 5, 2) := chkD_at okX7_marksBy_0 22 rfl
theorem dX7_marksBy_36 : decode cX7_marksBy 36 = .ok (.bipush 20, 2) := chkD_at okX7_marksBy_0 23 rfl
theorem dX7_marksBy_38 : decode cX7_marksBy 38 = .ok (.iload_n 3, 1) := chkD_at okX7_marksBy_0 24 rfl
theorem dX7_marksBy_39 : decode cX7_marksBy 39 = .ok (.imul, 1) := chkD_at okX7_marksBy_0 25 rfl
theorem dX7_marksBy_40 : decode cX7_marksBy 40 = .ok (.bipush 20, 2) := chkD_at okX7_marksBy_0 26 rfl
theorem dX7_marksBy_42 : decode cX7_marksBy 42 = .ok (.iadd, 1) := chkD_at okX7_marksBy_0 27 rfl
theorem dX7_marksBy_43 : decode cX7_marksBy 43 = .ok (.if_icmp .ge 62, 3) := chkD_at okX7_marksBy_0 28 rfl
theorem dX7_marksBy_46 : decode cX7_marksBy 46 = .ok (.iload 4, 2) := chkD_at okX7_marksBy_0 29 rfl
theorem dX7_marksBy_48 : decode cX7_marksBy 48 = .ok (.iload_n 2, 1) := chkD_at okX7_marksBy_0 30 rfl
theorem dX7_marksBy_49 : decode cX7_marksBy 49 = .ok (.if_icmp .eq 14, 3) := chkD_at okX7_marksBy_0 31 rfl
theorem dX7_marksBy_52 : decode cX7_marksBy 52 = .ok (.iload 4, 2) := chkD_at okX7_marksBy_0 32 rfl
theorem dX7_marksBy_54 : decode cX7_marksBy 54 = .ok (.aload_n 0, 1) := chkD_at okX7_marksBy_0 33 rfl
theorem dX7_marksBy_55 : decode cX7_marksBy 55 = .ok (.getfield 31, 3) := chkD_at okX7_marksBy_0 34 rfl
theorem dX7_marksBy_58 : decode cX7_marksBy 58 = .ok (.iload_n 3, 1) := chkD_at okX7_marksBy_0 35 rfl
theorem dX7_marksBy_59 : decode cX7_marksBy 59 = .ok (.iaload, 1) := chkD_at okX7_marksBy_0 36 rfl
theorem dX7_marksBy_60 : decode cX7_marksBy 60 = .ok (.if_icmp .ne 45, 3) := chkD_at okX7_marksBy_0 37 rfl
theorem dX7_marksBy_63 : decode cX7_marksBy 63 = .ok (.aload_n 0, 1) := chkD_at okX7_marksBy_0 38 rfl
theorem dX7_marksBy_64 : decode cX7_marksBy 64 = .ok (.getfield 37, 3) := chkD_at okX7_marksBy_0 39 rfl
theorem dX7_marksBy_67 : decode cX7_marksBy 67 = .ok (.iload 5, 2) := chkD_at okX7_marksBy_0 40 rfl
theorem dX7_marksBy_69 : decode cX7_marksBy 69 = .ok (.aload_n 0, 1) := chkD_at okX7_marksBy_0 41 rfl
theorem dX7_marksBy_70 : decode cX7_marksBy 70 = .ok (.getfield 37, 3) := chkD_at okX7_marksBy_0 42 rfl
theorem dX7_marksBy_73 : decode cX7_marksBy 73 = .ok (.iload 5, 2) := chkD_at okX7_marksBy_0 43 rfl
theorem dX7_marksBy_75 : decode cX7_marksBy 75 = .ok (.baload, 1) := chkD_at okX7_marksBy_0 44 rfl
theorem dX7_marksBy_76 : decode cX7_marksBy 76 = .ok (.ifCond .ne 17, 3) := chkD_at okX7_marksBy_0 45 rfl
theorem dX7_marksBy_79 : decode cX7_marksBy 79 = .ok (.aload_n 0, 1) := chkD_at okX7_marksBy_0 46 rfl
theorem dX7_marksBy_80 : decode cX7_marksBy 80 = .ok (.iload_n 1, 1) := chkD_at okX7_marksBy_0 47 rfl
theorem dX7_marksBy_81 : decode cX7_marksBy 81 = .ok (.aload_n 0, 1) := chkD_at okX7_marksBy_0 48 rfl
theorem dX7_marksBy_82 : decode cX7_marksBy 82 = .ok (.iload 5, 2) := chkD_at okX7_marksBy_0 49 rfl
theorem dX7_marksBy_84 : decode cX7_marksBy 84 = .ok (.invokevirtual 150, 3) := chkD_at okX7_marksBy_0 50 rfl
theorem dX7_marksBy_87 : decode cX7_marksBy 87 = .ok (.invokevirtual 124, 3) := chkD_at okX7_marksBy_0 51 rfl
theorem dX7_marksBy_90 : decode cX7_marksBy 90 = .ok (.ifCond .eq 7, 3) := chkD_at okX7_marksBy_0 52 rfl
theorem dX7_marksBy_93 : decode cX7_marksBy 93 = .ok (.iconst 1, 1) := chkD_at okX7_marksBy_0 53 rfl
theorem dX7_marksBy_94 : decode cX7_marksBy 94 = .ok (.goto 4, 3) := chkD_at okX7_marksBy_0 54 rfl
theorem dX7_marksBy_97 : decode cX7_marksBy 97 = .ok (.iconst 0, 1) := chkD_at okX7_marksBy_0 55 rfl
theorem dX7_marksBy_98 : decode cX7_marksBy 98 = .ok (.bastore, 1) := chkD_at okX7_marksBy_0 56 rfl
theorem dX7_marksBy_99 : decode cX7_marksBy 99 = .ok (.iinc 5 1, 3) := chkD_at okX7_marksBy_0 57 rfl
theorem dX7_marksBy_102 : decode cX7_marksBy 102 = .ok (.goto (-68), 3) := chkD_at okX7_marksBy_0 58 rfl
theorem dX7_marksBy_105 : decode cX7_marksBy 105 = .ok (.iinc 3 1, 3) := chkD_at okX7_marksBy_0 59 rfl
theorem dX7_marksBy_108 : decode cX7_marksBy 108 = .ok (.goto (-96), 3) := chkD_at okX7_marksBy_0 60 rfl
theorem dX7_marksBy_111 : decode cX7_marksBy 111 = .ok (.return_, 1) := chkD_at okX7_marksBy_0 61 rfl
theorem okX7_isGood_0 : chkD cX7_isGood [(0, .aload_n 0, 1), (1, .getfield 37, 3), (4, .iload_n 1, 1), (5, .baload, 1), (6, .ifCond .ne 19, 3), (9, .aload_n 0, 1), (10, .aload_n 0, 1), (11, .iload_n 1, 1), (12, .invokevirtual 150, 3), (15, .invokevirtual 137, 3), (18, .ifCond .eq 7, 3), (21, .iconst 1, 1), (22, .goto 4, 3), (25, .iconst 0, 1), (26, .ireturn, 1)] = true := by decide +kernel
theorem dX7_isGood_0 : decode cX7_isGood 0 = .ok (.aload_n 0, 1) := chkD_at okX7_isGood_0 0 rfl
theorem dX7_isGood_1 : decode cX7_isGood 1 = .ok (.getfield 37, 3) := chkD_at okX7_isGood_0 1 rfl
theorem dX7_isGood_4 : decode cX7_isGood 4 = .ok (.iload_n 1, 1) := chkD_at okX7_isGood_0 2 rfl
theorem dX7_isGood_5 : decode cX7_isGood 5 = .ok (.baload, 1) := chkD_at okX7_isGood_0 3 rfl
theorem dX7_isGood_6 : decode cX7_isGood 6 = .ok (.ifCond .ne 19, 3) := chkD_at okX7_isGood_0 4 rfl
theorem dX7_isGood_9 : decode cX7_isGood 9 = .ok (.aload_n 0, 1) := chkD_at okX7_isGood_0 5 rfl
theorem dX7_isGood_10 : decode cX7_isGood 10 = .ok (.aload_n 0, 1) := chkD_at okX7_isGood_0 6 rfl
theorem dX7_isGood_11 : decode cX7_isGood 11 = .ok (.iload_n 1, 1) := chkD_at okX7_isGood_0 7 rfl
theorem dX7_isGood_12 : decode cX7_isGood 12 = .ok (.invokevirtual 150, 3) := chkD_at okX7_isGood_0 8 rfl
theorem dX7_isGood_15 : decode cX7_isGood 15 = .ok (.invokevirtual 137, 3) := chkD_at okX7_isGood_0 9 rfl
theorem dX7_isGood_18 : decode cX7_isGood 18 = .ok (.ifCond .eq 7, 3) := chkD_at okX7_isGood_0 10 rfl
theorem dX7_isGood_21 : decode cX7_isGood 21 = .ok (.iconst 1, 1) := chkD_at okX7_isGood_0 11 rfl
theorem dX7_isGood_22 : decode cX7_isGood 22 = .ok (.goto 4, 3) := chkD_at okX7_isGood_0 12 rfl
theorem dX7_isGood_25 : decode cX7_isGood 25 = .ok (.iconst 0, 1) := chkD_at okX7_isGood_0 13 rfl
theorem dX7_isGood_26 : decode cX7_isGood 26 = .ok (.ireturn, 1) := chkD_at okX7_isGood_0 14 rfl
theorem okX7_newMany_0 : chkD cX7_newMany [(0, .aload_n 0, 1), (1, .invokevirtual 153, 3), (4, .iconst 0, 1), (5, .istore_n 1, 1), (6, .iconst 0, 1), (7, .istore_n 2, 1), (8, .iload_n 2, 1), (9, .sipush 1840, 3), (12, .if_icmp .ge 26, 3), (15, .iload_n 1, 1), (16, .aload_n 0, 1), (17, .getfield 37, 3), (20, .iload_n 2, 1), (21, .baload, 1), (22, .ifCond .eq 7, 3), (25, .iconst 0, 1), (26, .goto 4, 3), (29, .iconst 1, 1), (30, .iadd, 1), (31, .istore_n 1, 1), (32, .iinc 2 1, 3), (35, .goto (-27), 3), (38, .iload_n 1, 1), (39, .ireturn, 1)] = true := by decide +kernel
theorem dX7_newMany_0 : decode cX7_newMany 0 = .ok (.aload_n 0, 1) := chkD_at okX7_newMany_0 0 rfl
theorem dX7_newMany_1 : decode cX7_newMany 1 = .ok (.invokevirtual 153, 3) := chkD_at okX7_newMany_0 1 rfl
theorem dX7_newMany_4 : decode cX7_newMany 4 = .ok (.iconst 0, 1) := chkD_at okX7_newMany_0 2 rfl
theorem dX7_newMany_5 : decode cX7_newMany 5 = .ok (.istore_n 1, 1) := chkD_at okX7_newMany_0 3 rfl
theorem dX7_newMany_6 : decode cX7_newMany 6 = .ok (.iconst 0, 1) := chkD_at okX7_newMany_0 4 rfl
theorem dX7_newMany_7 : decode cX7_newMany 7 = .ok (.istore_n 2, 1) := chkD_at okX7_newMany_0 5 rfl
theorem dX7_newMany_8 : decode cX7_newMany 8 = .ok (.iload_n 2, 1) := chkD_at okX7_newMany_0 6 rfl
theorem dX7_newMany_9 : decode cX7_newMany 9 = .ok (.sipush 1840, 3) := chkD_at okX7_newMany_0 7 rfl
theorem dX7_newMany_12 : decode cX7_newMany 12 = .ok (.if_icmp .ge 26, 3) := chkD_at okX7_newMany_0 8 rfl
theorem dX7_newMany_15 : decode cX7_newMany 15 = .ok (.iload_n 1, 1) := chkD_at okX7_newMany_0 9 rfl
theorem dX7_newMany_16 : decode cX7_newMany 16 = .ok (.aload_n 0, 1) := chkD_at okX7_newMany_0 10 rfl
theorem dX7_newMany_17 : decode cX7_newMany 17 = .ok (.getfield 37, 3) := chkD_at okX7_newMany_0 11 rfl
theorem dX7_newMany_20 : decode cX7_newMany 20 = .ok (.iload_n 2, 1) := chkD_at okX7_newMany_0 12 rfl
theorem dX7_newMany_21 : decode cX7_newMany 21 = .ok (.baload, 1) := chkD_at okX7_newMany_0 13 rfl
theorem dX7_newMany_22 : decode cX7_newMany 22 = .ok (.ifCond .eq 7, 3) := chkD_at okX7_newMany_0 14 rfl
theorem dX7_newMany_25 : decode cX7_newMany 25 = .ok (.iconst 0, 1) := chkD_at okX7_newMany_0 15 rfl
theorem dX7_newMany_26 : decode cX7_newMany 26 = .ok (.goto 4, 3) := chkD_at okX7_newMany_0 16 rfl
theorem dX7_newMany_29 : decode cX7_newMany 29 = .ok (.iconst 1, 1) := chkD_at okX7_newMany_0 17 rfl
theorem dX7_newMany_30 : decode cX7_newMany 30 = .ok (.iadd, 1) := chkD_at okX7_newMany_0 18 rfl
theorem dX7_newMany_31 : decode cX7_newMany 31 = .ok (.istore_n 1, 1) := chkD_at okX7_newMany_0 19 rfl
theorem dX7_newMany_32 : decode cX7_newMany 32 = .ok (.iinc 2 1, 3) := chkD_at okX7_newMany_0 20 rfl
theorem dX7_newMany_35 : decode cX7_newMany 35 = .ok (.goto (-27), 3) := chkD_at okX7_newMany_0 21 rfl
theorem dX7_newMany_38 : decode cX7_newMany 38 = .ok (.iload_n 1, 1) := chkD_at okX7_newMany_0 22 rfl
theorem dX7_newMany_39 : decode cX7_newMany 39 = .ok (.ireturn, 1) := chkD_at okX7_newMany_0 23 rfl
theorem okX7_many_0 : chkD cX7_many [(0, .iload_n 1, 1), (1, .iconst 0, 1), (2, .iconst 3, 1), (3, .invokestatic 86, 3), (6, .ifCond .ne 10, 3), (9, .aload_n 0, 1), (10, .ldc 85, 2), (12, .invokevirtual 104, 3), (15, .ireturn, 1), (16, .aload_n 0, 1), (17, .invokevirtual 153, 3), (20, .iconst 0, 1), (21, .istore_n 2, 1), (22, .iconst 0, 1), (23, .istore_n 3, 1), (24, .iload_n 3, 1), (25, .sipush 1840, 3), (28, .if_icmp .ge 112, 3), (31, .aload_n 0, 1), (32, .aload_n 0, 1), (33, .iload_n 3, 1), (34, .invokevirtual 150, 3), (37, .invokevirtual 137, 3), (40, .istore 4, 2), (42, .iload_n 1, 1), (43, .ifCond .ne 8, 3), (46, .iload 4, 2), (48, .goto 71, 3), (51, .iload_n 1, 1), (52, .iconst 1, 1), (53, .if_icmp .ne 20, 3), (56, .aload_n 0, 1), (57, .getfield 37, 3), (60, .iload_n 3, 1), (61, .baload, 1), (62, .ifCond .ne 7, 3), (65, .iconst 1, 1), (66, .goto 53, 3), (69, .iconst 0, 1), (70, .goto 49, 3), (73, .iload_n 1, 1), (74, .iconst 2, 1), (75, .if_icmp .ne 25, 3), (78, .iload 4, 2), (80, .ifCond .eq 16, 3), (83, .aload_n 0, 1), (84, .getfield 37, 3), (87, .iload_n 3, 1), (88, .baload, 1), (89, .ifCond .ne 7, 3), (92, .iconst 1, 1), (93, .goto 26, 3), (96, .iconst 0, 1), (97, .goto 22, 3), (100, .iload 4, 2), (102, .ifCond .ne 16, 3), (105, .aload_n 0, 1), (106, .getfield 37, 3), (109, .iload_n 3, 1), (110, .baload, 1), (111, .ifCond .eq 7, 3), (114, .iconst 1, 1), (115, .goto 4, 3), (118, .iconst 0, 1), (119, .istore 5, 2), (121, .iload_n 2, 1), (122, .iload 5, 2), (124, .ifCond .eq 7, 3), (127, .iconst 1, 1), (128, .goto 4, 3), (131, .iconst 0, 1), (132, .iadd, 1), (133, .istore_n 2, 1), (134, .iinc 3 1, 3), (137, .goto (-113), 3), (140, .iload_n 2, 1), (141, .ireturn, 1)] = true := by decide +kernel
theorem dX7_many_0 : decode cX7_many 0 = .ok (.iload_n 1, 1) := chkD_at okX7_many_0 0 rfl
theorem dX7_many_1 : decode cX7_many 1 = .ok (.iconst 0, 1) := chkD_at okX7_many_0 1 rfl
theorem dX7_many_2 : decode cX7_many 2 = .ok (.iconst 3, 1) := chkD_at okX7_many_0 2 rfl
theorem dX7_many_3 : decode cX7_many 3 = .ok (.invokestatic 86, 3) := chkD_at okX7_many_0 3 rfl
theorem dX7_many_6 : decode cX7_many 6 = .ok (.ifCond .ne 10, 3) := chkD_at okX7_many_0 4 rfl
theorem dX7_many_9 : decode cX7_many 9 = .ok (.aload_n 0, 1) := chkD_at okX7_many_0 5 rfl
theorem dX7_many_10 : decode cX7_many 10 = .ok (.ldc 85, 2) := chkD_at okX7_many_0 6 rfl
theorem dX7_many_12 : decode cX7_many 12 = .ok (.invokevirtual 104, 3) := chkD_at okX7_many_0 7 rfl
theorem dX7_many_15 : decode cX7_many 15 = .ok (.ireturn, 1) := chkD_at okX7_many_0 8 rfl
theorem dX7_many_16 : decode cX7_many 16 = .ok (.aload_n 0, 1) := chkD_at okX7_many_0 9 rfl
theorem dX7_many_17 : decode cX7_many 17 = .ok (.invokevirtual 153, 3) := chkD_at okX7_many_0 10 rfl
theorem dX7_many_20 : decode cX7_many 20 = .ok (.iconst 0, 1) := chkD_at okX7_many_0 11 rfl
theorem dX7_many_21 : decode cX7_many 21 = .ok (.istore_n 2, 1) := chkD_at okX7_many_0 12 rfl
theorem dX7_many_22 : decode cX7_many 22 = .ok (.iconst 0, 1) := chkD_at okX7_many_0 13 rfl
theorem dX7_many_23 : decode cX7_many 23 = .ok (.istore_n 3, 1) := chkD_at okX7_many_0 14 rfl
theorem dX7_many_24 : decode cX7_many 24 = .ok (.iload_n 3, 1) := chkD_at okX7_many_0 15 rfl
theorem dX7_many_25 : decode cX7_many 25 = .ok (.sipush 1840, 3) := chkD_at okX7_many_0 16 rfl
theorem dX7_many_28 : decode cX7_many 28 = .ok (.if_icmp .ge 112, 3) := chkD_at okX7_many_0 17 rfl
theorem dX7_many_31 : decode cX7_many 31 = .ok (.aload_n 0, 1) := chkD_at okX7_many_0 18 rfl
theorem dX7_many_32 : decode cX7_many 32 = .ok (.aload_n 0, 1) := chkD_at okX7_many_0 19 rfl
theorem dX7_many_33 : decode cX7_many 33 = .ok (.iload_n 3, 1) := chkD_at okX7_many_0 20 rfl
theorem dX7_many_34 : decode cX7_many 34 = .ok (.invokevirtual 150, 3) := chkD_at okX7_many_0 21 rfl
theorem dX7_many_37 : decode cX7_many 37 = .ok (.invokevirtual 137, 3) := chkD_at okX7_many_0 22 rfl
theorem dX7_many_40 : decode cX7_many 40 = .ok (.istore 4, 2) := chkD_at okX7_many_0 23 rfl
theorem dX7_many_42 : decode cX7_many 42 = .ok (.iload_n 1, 1) := chkD_at okX7_many_0 24 rfl
theorem dX7_many_43 : decode cX7_many 43 = .ok (.ifCond .ne 8, 3) := chkD_at okX7_many_0 25 rfl
theorem dX7_many_46 : decode cX7_many 46 = .ok (.iload 4, 2) := chkD_at okX7_many_0 26 rfl
theorem dX7_many_48 : decode cX7_many 48 = .ok (.goto 71, 3) := chkD_at okX7_many_0 27 rfl
theorem dX7_many_51 : decode cX7_many 51 = .ok (.iload_n 1, 1) := chkD_at okX7_many_0 28 rfl
theorem dX7_many_52 : decode cX7_many 52 = .ok (.iconst 1, 1) := chkD_at okX7_many_0 29 rfl
theorem dX7_many_53 : decode cX7_many 53 = .ok (.if_icmp .ne 20, 3) := chkD_at okX7_many_0 30 rfl
theorem dX7_many_56 : decode cX7_many 56 = .ok (.aload_n 0, 1) := chkD_at okX7_many_0 31 rfl
theorem dX7_many_57 : decode cX7_many 57 = .ok (.getfield 37, 3) := chkD_at okX7_many_0 32 rfl
theorem dX7_many_60 : decode cX7_many 60 = .ok (.iload_n 3, 1) := chkD_at okX7_many_0 33 rfl
theorem dX7_many_61 : decode cX7_many 61 = .ok (.baload, 1) := chkD_at okX7_many_0 34 rfl
theorem dX7_many_62 : decode cX7_many 62 = .ok (.ifCond .ne 7, 3) := chkD_at okX7_many_0 35 rfl
theorem dX7_many_65 : decode cX7_many 65 = .ok (.iconst 1, 1) := chkD_at okX7_many_0 36 rfl
theorem dX7_many_66 : decode cX7_many 66 = .ok (.goto 53, 3) := chkD_at okX7_many_0 37 rfl
theorem dX7_many_69 : decode cX7_many 69 = .ok (.iconst 0, 1) := chkD_at okX7_many_0 38 rfl
theorem dX7_many_70 : decode cX7_many 70 = .ok (.goto 49, 3) := chkD_at okX7_many_0 39 rfl
theorem dX7_many_73 : decode cX7_many 73 = .ok (.iload_n 1, 1) := chkD_at okX7_many_0 40 rfl
theorem dX7_many_74 : decode cX7_many 74 = .ok (.iconst 2, 1) := chkD_at okX7_many_0 41 rfl
theorem dX7_many_75 : decode cX7_many 75 = .ok (.if_icmp .ne 25, 3) := chkD_at okX7_many_0 42 rfl
theorem dX7_many_78 : decode cX7_many 78 = .ok (.iload 4, 2) := chkD_at okX7_many_0 43 rfl
theorem dX7_many_80 : decode cX7_many 80 = .ok (.ifCond .eq 16, 3) := chkD_at okX7_many_0 44 rfl
theorem dX7_many_83 : decode cX7_many 83 = .ok (.aload_n 0, 1) := chkD_at okX7_many_0 45 rfl
theorem dX7_many_84 : decode cX7_many 84 = .ok (.getfield 37, 3) := chkD_at okX7_many_0 46 rfl
theorem dX7_many_87 : decode cX7_many 87 = .ok (.iload_n 3, 1) := chkD_at okX7_many_0 47 rfl
theorem dX7_many_88 : decode cX7_many 88 = .ok (.baload, 1) := chkD_at okX7_many_0 48 rfl
theorem dX7_many_89 : decode cX7_many 89 = .ok (.ifCond .ne 7, 3) := chkD_at okX7_many_0 49 rfl
theorem dX7_many_92 : decode cX7_many 92 = .ok (.iconst 1, 1) := chkD_at okX7_many_0 50 rfl
theorem dX7_many_93 : decode cX7_many 93 = .ok (.goto 26, 3) := chkD_at okX7_many_0 51 rfl
theorem dX7_many_96 : decode cX7_many 96 = .ok (.iconst 0, 1) := chkD_at okX7_many_0 52 rfl
theorem dX7_many_97 : decode cX7_many 97 = .ok (.goto 22, 3) := chkD_at okX7_many_0 53 rfl
theorem dX7_many_100 : decode cX7_many 100 = .ok (.iload 4, 2) := chkD_at okX7_many_0 54 rfl
theorem dX7_many_102 : decode cX7_many 102 = .ok (.ifCond .ne 16, 3) := chkD_at okX7_many_0 55 rfl
theorem dX7_many_105 : decode cX7_many 105 = .ok (.aload_n 0, 1) := chkD_at okX7_many_0 56 rfl
theorem dX7_many_106 : decode cX7_many 106 = .ok (.getfield 37, 3) := chkD_at okX7_many_0 57 rfl
theorem dX7_many_109 : decode cX7_many 109 = .ok (.iload_n 3, 1) := chkD_at okX7_many_0 58 rfl
theorem dX7_many_110 : decode cX7_many 110 = .ok (.baload, 1) := chkD_at okX7_many_0 59 rfl
theorem dX7_many_111 : decode cX7_many 111 = .ok (.ifCond .eq 7, 3) := chkD_at okX7_many_0 60 rfl
theorem dX7_many_114 : decode cX7_many 114 = .ok (.iconst 1, 1) := chkD_at okX7_many_0 61 rfl
theorem dX7_many_115 : decode cX7_many 115 = .ok (.goto 4, 3) := chkD_at okX7_many_0 62 rfl
theorem dX7_many_118 : decode cX7_many 118 = .ok (.iconst 0, 1) := chkD_at okX7_many_0 63 rfl
theorem dX7_many_119 : decode cX7_many 119 = .ok (.istore 5, 2) := chkD_at okX7_many_0 64 rfl
theorem dX7_many_121 : decode cX7_many 121 = .ok (.iload_n 2, 1) := chkD_at okX7_many_0 65 rfl
theorem dX7_many_122 : decode cX7_many 122 = .ok (.iload 5, 2) := chkD_at okX7_many_0 66 rfl
theorem dX7_many_124 : decode cX7_many 124 = .ok (.ifCond .eq 7, 3) := chkD_at okX7_many_0 67 rfl
theorem dX7_many_127 : decode cX7_many 127 = .ok (.iconst 1, 1) := chkD_at okX7_many_0 68 rfl
theorem dX7_many_128 : decode cX7_many 128 = .ok (.goto 4, 3) := chkD_at okX7_many_0 69 rfl
theorem dX7_many_131 : decode cX7_many 131 = .ok (.iconst 0, 1) := chkD_at okX7_many_0 70 rfl
theorem dX7_many_132 : decode cX7_many 132 = .ok (.iadd, 1) := chkD_at okX7_many_0 71 rfl
theorem dX7_many_133 : decode cX7_many 133 = .ok (.istore_n 2, 1) := chkD_at okX7_many_0 72 rfl
theorem dX7_many_134 : decode cX7_many 134 = .ok (.iinc 3 1, 3) := chkD_at okX7_many_0 73 rfl
theorem dX7_many_137 : decode cX7_many 137 = .ok (.goto (-113), 3) := chkD_at okX7_many_0 74 rfl
theorem dX7_many_140 : decode cX7_many 140 = .ok (.iload_n 2, 1) := chkD_at okX7_many_0 75 rfl
theorem dX7_many_141 : decode cX7_many 141 = .ok (.ireturn, 1) := chkD_at okX7_many_0 76 rfl
theorem okX7_next_0 : chkD cX7_next [(0, .iload_n 1, 1), (1, .ifCond .ge 10, 3), (4, .aload_n 0, 1), (5, .ldc 85, 2), (7, .invokevirtual 104, 3), (10, .ireturn, 1), (11, .aload_n 0, 1), (12, .invokevirtual 153, 3), (15, .iconst 0, 1), (16, .istore_n 2, 1), (17, .iload_n 2, 1), (18, .sipush 1840, 3), (21, .if_icmp .ge 32, 3), (24, .aload_n 0, 1), (25, .iload_n 2, 1), (26, .invokevirtual 150, 3), (29, .iload_n 1, 1), (30, .if_icmp .lt 17, 3), (33, .aload_n 0, 1), (34, .iload_n 2, 1), (35, .invokevirtual 156, 3), (38, .ifCond .eq 9, 3), (41, .aload_n 0, 1), (42, .iload_n 2, 1), (43, .invokevirtual 150, 3), (46, .ireturn, 1), (47, .iinc 2 1, 3), (50, .goto (-33), 3), (53, .aload_n 0, 1), (54, .ldc 127, 2), (56, .invokevirtual 104, 3), (59, .ireturn, 1)] = true := by decide +kernel
theorem dX7_next_0 : decode cX7_next 0 = .ok (.iload_n 1, 1) := chkD_at okX7_next_0 0 rfl
theorem dX7_next_1 : decode cX7_next 1 = .ok (.ifCond .ge 10, 3) := chkD_at okX7_next_0 1 rfl
theorem dX7_next_4 : decode cX7_next 4 = .ok (.aload_n 0, 1) := chkD_at okX7_next_0 2 rfl
theorem dX7_next_5 : decode cX7_next 5 = .ok (.ldc 85, 2) := chkD_at okX7_next_0 3 rfl
theorem dX7_next_7 : decode cX7_next 7 = .ok (.invokevirtual 104, 3) := chkD_at okX7_next_0 4 rfl
theorem dX7_next_10 : decode cX7_next 10 = .ok (.ireturn, 1) := chkD_at okX7_next_0 5 rfl
theorem dX7_next_11 : decode cX7_next 11 = .ok (.aload_n 0, 1) := chkD_at okX7_next_0 6 rfl
theorem dX7_next_12 : decode cX7_next 12 = .ok (.invokevirtual 153, 3) := chkD_at okX7_next_0 7 rfl
theorem dX7_next_15 : decode cX7_next 15 = .ok (.iconst 0, 1) := chkD_at okX7_next_0 8 rfl
theorem dX7_next_16 : decode cX7_next 16 = .ok (.istore_n 2, 1) := chkD_at okX7_next_0 9 rfl
theorem dX7_next_17 : decode cX7_next 17 = .ok (.iload_n 2, 1) := chkD_at okX7_next_0 10 rfl
theorem dX7_next_18 : decode cX7_next 18 = .ok (.sipush 1840, 3) := chkD_at okX7_next_0 11 rfl
theorem dX7_next_21 : decode cX7_next 21 = .ok (.if_icmp .ge 32, 3) := chkD_at okX7_next_0 12 rfl
theorem dX7_next_24 : decode cX7_next 24 = .ok (.aload_n 0, 1) := chkD_at okX7_next_0 13 rfl
theorem dX7_next_25 : decode cX7_next 25 = .ok (.iload_n 2, 1) := chkD_at okX7_next_0 14 rfl
theorem dX7_next_26 : decode cX7_next 26 = .ok (.invokevirtual 150, 3) := chkD_at okX7_next_0 15 rfl
theorem dX7_next_29 : decode cX7_next 29 = .ok (.iload_n 1, 1) := chkD_at okX7_next_0 16 rfl
theorem dX7_next_30 : decode cX7_next 30 = .ok (.if_icmp .lt 17, 3) := chkD_at okX7_next_0 17 rfl
theorem dX7_next_33 : decode cX7_next 33 = .ok (.aload_n 0, 1) := chkD_at okX7_next_0 18 rfl
theorem dX7_next_34 : decode cX7_next 34 = .ok (.iload_n 2, 1) := chkD_at okX7_next_0 19 rfl
theorem dX7_next_35 : decode cX7_next 35 = .ok (.invokevirtual 156, 3) := chkD_at okX7_next_0 20 rfl
theorem dX7_next_38 : decode cX7_next 38 = .ok (.ifCond .eq 9, 3) := chkD_at okX7_next_0 21 rfl
theorem dX7_next_41 : decode cX7_next 41 = .ok (.aload_n 0, 1) := chkD_at okX7_next_0 22 rfl
theorem dX7_next_42 : decode cX7_next 42 = .ok (.iload_n 2, 1) := chkD_at okX7_next_0 23 rfl
theorem dX7_next_43 : decode cX7_next 43 = .ok (.invokevirtual 150, 3) := chkD_at okX7_next_0 24 rfl
theorem dX7_next_46 : decode cX7_next 46 = .ok (.ireturn, 1) := chkD_at okX7_next_0 25 rfl
theorem dX7_next_47 : decode cX7_next 47 = .ok (.iinc 2 1, 3) := chkD_at okX7_next_0 26 rfl
theorem dX7_next_50 : decode cX7_next 50 = .ok (.goto (-33), 3) := chkD_at okX7_next_0 27 rfl
theorem dX7_next_53 : decode cX7_next 53 = .ok (.aload_n 0, 1) := chkD_at okX7_next_0 28 rfl
theorem dX7_next_54 : decode cX7_next 54 = .ok (.ldc 127, 2) := chkD_at okX7_next_0 29 rfl
theorem dX7_next_56 : decode cX7_next 56 = .ok (.invokevirtual 104, 3) := chkD_at okX7_next_0 30 rfl
theorem dX7_next_59 : decode cX7_next 59 = .ok (.ireturn, 1) := chkD_at okX7_next_0 31 rfl
theorem okX7_addEntry_0 : chkD cX7_addEntry [(0, .aload_n 0, 1), (1, .getfield 19, 3), (4, .aload_n 0, 1), (5, .getfield 93, 3), (8, .iload_n 1, 1), (9, .iastore, 1), (10, .aload_n 0, 1), (11, .getfield 22, 3), (14, .aload_n 0, 1), (15, .getfield 93, 3), (18, .iload_n 2, 1), (19, .iastore, 1), (20, .aload_n 0, 1), (21, .getfield 25, 3), (24, .aload_n 0, 1), (25, .getfield 93, 3), (28, .iload_n 3, 1), (29, .iastore, 1), (30, .aload_n 0, 1), (31, .dup, 1), (32, .getfield 93, 3), (35, .iconst 1, 1), (36, .iadd, 1), (37, .putfield 93, 3), (40, .return_, 1)] = true := by decide +kernel
theorem dX7_addEntry_0 : decode cX7_addEntry 0 = .ok (.aload_n 0, 1) := chkD_at okX7_addEntry_0 0 rfl
theorem dX7_addEntry_1 : decode cX7_addEntry 1 = .ok (.getfield 19, 3) := chkD_at okX7_addEntry_0 1 rfl
theorem dX7_addEntry_4 : decode cX7_addEntry 4 = .ok (.aload_n 0, 1) := chkD_at okX7_addEntry_0 2 rfl
theorem dX7_addEntry_5 : decode cX7_addEntry 5 = .ok (.getfield 93, 3) := chkD_at okX7_addEntry_0 3 rfl
theorem dX7_addEntry_8 : decode cX7_addEntry 8 = .ok (.iload_n 1, 1) := chkD_at okX7_addEntry_0 4 rfl
theorem dX7_addEntry_9 : decode cX7_addEntry 9 = .ok (.iastore, 1) := chkD_at okX7_addEntry_0 5 rfl
theorem dX7_addEntry_10 : decode cX7_addEntry 10 = .ok (.aload_n 0, 1) := chkD_at okX7_addEntry_0 6 rfl
theorem dX7_addEntry_11 : decode cX7_addEntry 11 = .ok (.getfield 22, 3) := chkD_at okX7_addEntry_0 7 rfl
theorem dX7_addEntry_14 : decode cX7_addEntry 14 = .ok (.aload_n 0, 1) := chkD_at okX7_addEntry_0 8 rfl
theorem dX7_addEntry_15 : decode cX7_addEntry 15 = .ok (.getfield 93, 3) := chkD_at okX7_addEntry_0 9 rfl
theorem dX7_addEntry_18 : decode cX7_addEntry 18 = .ok (.iload_n 2, 1) := chkD_at okX7_addEntry_0 10 rfl
theorem dX7_addEntry_19 : decode cX7_addEntry 19 = .ok (.iastore, 1) := chkD_at okX7_addEntry_0 11 rfl
theorem dX7_addEntry_20 : decode cX7_addEntry 20 = .ok (.aload_n 0, 1) := chkD_at okX7_addEntry_0 12 rfl
theorem dX7_addEntry_21 : decode cX7_addEntry 21 = .ok (.getfield 25, 3) := chkD_at okX7_addEntry_0 13 rfl
theorem dX7_addEntry_24 : decode cX7_addEntry 24 = .ok (.aload_n 0, 1) := chkD_at okX7_addEntry_0 14 rfl
theorem dX7_addEntry_25 : decode cX7_addEntry 25 = .ok (.getfield 93, 3) := chkD_at okX7_addEntry_0 15 rfl
theorem dX7_addEntry_28 : decode cX7_addEntry 28 = .ok (.iload_n 3, 1) := chkD_at okX7_addEntry_0 16 rfl
theorem dX7_addEntry_29 : decode cX7_addEntry 29 = .ok (.iastore, 1) := chkD_at okX7_addEntry_0 17 rfl
theorem dX7_addEntry_30 : decode cX7_addEntry 30 = .ok (.aload_n 0, 1) := chkD_at okX7_addEntry_0 18 rfl
theorem dX7_addEntry_31 : decode cX7_addEntry 31 = .ok (.dup, 1) := chkD_at okX7_addEntry_0 19 rfl
theorem dX7_addEntry_32 : decode cX7_addEntry 32 = .ok (.getfield 93, 3) := chkD_at okX7_addEntry_0 20 rfl
theorem dX7_addEntry_35 : decode cX7_addEntry 35 = .ok (.iconst 1, 1) := chkD_at okX7_addEntry_0 21 rfl
theorem dX7_addEntry_36 : decode cX7_addEntry 36 = .ok (.iadd, 1) := chkD_at okX7_addEntry_0 22 rfl
theorem dX7_addEntry_37 : decode cX7_addEntry 37 = .ok (.putfield 93, 3) := chkD_at okX7_addEntry_0 23 rfl
theorem dX7_addEntry_40 : decode cX7_addEntry 40 = .ok (.return_, 1) := chkD_at okX7_addEntry_0 24 rfl
theorem okX7_enter_0 : chkD cX7_enter [(0, .iload_n 1, 1), (1, .invokestatic 159, 3), (4, .ifCond .eq 11, 3), (7, .aload_n 0, 1), (8, .iload_n 2, 1), (9, .invokevirtual 131, 3), (12, .ifCond .ne 10, 3), (15, .aload_n 0, 1), (16, .ldc 85, 2), (18, .invokevirtual 104, 3), (21, .ireturn, 1), (22, .aload_n 0, 1), (23, .getfield 93, 3), (26, .bipush 30, 2), (28, .if_icmp .ne 10, 3), (31, .aload_n 0, 1), (32, .ldc 162, 2), (34, .invokevirtual 104, 3), (37, .ireturn, 1), (38, .aload_n 0, 1), (39, .iload_n 1, 1), (40, .iload_n 2, 1), (41, .aload_n 0, 1), (42, .getfield 163, 3), (45, .invokevirtual 166, 3), (48, .aload_n 0, 1), (49, .getfield 93, 3), (52, .iconst 1, 1), (53, .isub, 1), (54, .ireturn, 1)] = true := by decide +kernel
theorem dX7_enter_0 : decode cX7_enter 0 = .ok (.iload_n 1, 1) := chkD_at okX7_enter_0 0 rfl
theorem dX7_enter_1 : decode cX7_enter 1 = .ok (.invokestatic 159, 3) := chkD_at okX7_enter_0 1 rfl
theorem dX7_enter_4 : decode cX7_enter 4 = .ok (.ifCond .eq 11, 3) := chkD_at okX7_enter_0 2 rfl
theorem dX7_enter_7 : decode cX7_enter 7 = .ok (.aload_n 0, 1) := chkD_at okX7_enter_0 3 rfl
theorem dX7_enter_8 : decode cX7_enter 8 = .ok (.iload_n 2, 1) := chkD_at okX7_enter_0 4 rfl
theorem dX7_enter_9 : decode cX7_enter 9 = .ok (.invokevirtual 131, 3) := chkD_at okX7_enter_0 5 rfl
theorem dX7_enter_12 : decode cX7_enter 12 = .ok (.ifCond .ne 10, 3) := chkD_at okX7_enter_0 6 rfl
theorem dX7_enter_15 : decode cX7_enter 15 = .ok (.aload_n 0, 1) := chkD_at okX7_enter_0 7 rfl
theorem dX7_enter_16 : decode cX7_enter 16 = .ok (.ldc 85, 2) := chkD_at okX7_enter_0 8 rfl
theorem dX7_enter_18 : decode cX7_enter 18 = .ok (.invokevirtual 104, 3) := chkD_at okX7_enter_0 9 rfl
theorem dX7_enter_21 : decode cX7_enter 21 = .ok (.ireturn, 1) := chkD_at okX7_enter_0 10 rfl
theorem dX7_enter_22 : decode cX7_enter 22 = .ok (.aload_n 0, 1) := chkD_at okX7_enter_0 11 rfl
theorem dX7_enter_23 : decode cX7_enter 23 = .ok (.getfield 93, 3) := chkD_at okX7_enter_0 12 rfl
theorem dX7_enter_26 : decode cX7_enter 26 = .ok (.bipush 30, 2) := chkD_at okX7_enter_0 13 rfl
theorem dX7_enter_28 : decode cX7_enter 28 = .ok (.if_icmp .ne 10, 3) := chkD_at okX7_enter_0 14 rfl
theorem dX7_enter_31 : decode cX7_enter 31 = .ok (.aload_n 0, 1) := chkD_at okX7_enter_0 15 rfl
theorem dX7_enter_32 : decode cX7_enter 32 = .ok (.ldc 162, 2) := chkD_at okX7_enter_0 16 rfl
theorem dX7_enter_34 : decode cX7_enter 34 = .ok (.invokevirtual 104, 3) := chkD_at okX7_enter_0 17 rfl
theorem dX7_enter_37 : decode cX7_enter 37 = .ok (.ireturn, 1) := chkD_at okX7_enter_0 18 rfl
theorem dX7_enter_38 : decode cX7_enter 38 = .ok (.aload_n 0, 1) := chkD_at okX7_enter_0 19 rfl
theorem dX7_enter_39 : decode cX7_enter 39 = .ok (.iload_n 1, 1) := chkD_at okX7_enter_0 20 rfl
theorem dX7_enter_40 : decode cX7_enter 40 = .ok (.iload_n 2, 1) := chkD_at okX7_enter_0 21 rfl
theorem dX7_enter_41 : decode cX7_enter 41 = .ok (.aload_n 0, 1) := chkD_at okX7_enter_0 22 rfl
theorem dX7_enter_42 : decode cX7_enter 42 = .ok (.getfield 163, 3) := chkD_at okX7_enter_0 23 rfl
theorem dX7_enter_45 : decode cX7_enter 45 = .ok (.invokevirtual 166, 3) := chkD_at okX7_enter_0 24 rfl
theorem dX7_enter_48 : decode cX7_enter 48 = .ok (.aload_n 0, 1) := chkD_at okX7_enter_0 25 rfl
theorem dX7_enter_49 : decode cX7_enter 49 = .ok (.getfield 93, 3) := chkD_at okX7_enter_0 26 rfl
theorem dX7_enter_52 : decode cX7_enter 52 = .ok (.iconst 1, 1) := chkD_at okX7_enter_0 27 rfl
theorem dX7_enter_53 : decode cX7_enter 53 = .ok (.isub, 1) := chkD_at okX7_enter_0 28 rfl
theorem dX7_enter_54 : decode cX7_enter 54 = .ok (.ireturn, 1) := chkD_at okX7_enter_0 29 rfl
theorem okX7_barsMany_0 : chkD cX7_barsMany [(0, .iconst 0, 1), (1, .istore_n 2, 1), (2, .iconst 0, 1), (3, .istore_n 3, 1), (4, .iload_n 3, 1), (5, .sipush 1840, 3), (8, .if_icmp .ge 30, 3), (11, .iload_n 2, 1), (12, .aload_n 0, 1), (13, .iload_n 1, 1), (14, .aload_n 0, 1), (15, .iload_n 3, 1), (16, .invokevirtual 150, 3), (19, .invokevirtual 124, 3), (22, .ifCond .eq 7, 3), (25, .iconst 1, 1), (26, .goto 4, 3), (29, .iconst 0, 1), (30, .iadd, 1), (31, .istore_n 2, 1), (32, .iinc 3 1, 3), (35, .goto (-31), 3), (38, .iload_n 2, 1), (39, .ireturn, 1)] = true := by decide +kernel
theorem dX7_barsMany_0 : decode cX7_barsMany 0 = .ok (.iconst 0, 1) := chkD_at okX7_barsMany_0 0 rfl
theorem dX7_barsMany_1 : decode cX7_barsMany 1 = .ok (.istore_n 2, 1) := chkD_at okX7_barsMany_0 1 rfl
theorem dX7_barsMany_2 : decode cX7_barsMany 2 = .ok (.iconst 0, 1) := chkD_at okX7_barsMany_0 2 rfl
theorem dX7_barsMany_3 : decode cX7_barsMany 3 = .ok (.istore_n 3, 1) := chkD_at okX7_barsMany_0 3 rfl
theorem dX7_barsMany_4 : decode cX7_barsMany 4 = .ok (.iload_n 3, 1) := chkD_at okX7_barsMany_0 4 rfl
theorem dX7_barsMany_5 : decode cX7_barsMany 5 = .ok (.sipush 1840, 3) := chkD_at okX7_barsMany_0 5 rfl
theorem dX7_barsMany_8 : decode cX7_barsMany 8 = .ok (.if_icmp .ge 30, 3) := chkD_at okX7_barsMany_0 6 rfl
theorem dX7_barsMany_11 : decode cX7_barsMany 11 = .ok (.iload_n 2, 1) := chkD_at okX7_barsMany_0 7 rfl
theorem dX7_barsMany_12 : decode cX7_barsMany 12 = .ok (.aload_n 0, 1) := chkD_at okX7_barsMany_0 8 rfl
theorem dX7_barsMany_13 : decode cX7_barsMany 13 = .ok (.iload_n 1, 1) := chkD_at okX7_barsMany_0 9 rfl
theorem dX7_barsMany_14 : decode cX7_barsMany 14 = .ok (.aload_n 0, 1) := chkD_at okX7_barsMany_0 10 rfl
theorem dX7_barsMany_15 : decode cX7_barsMany 15 = .ok (.iload_n 3, 1) := chkD_at okX7_barsMany_0 11 rfl
theorem dX7_barsMany_16 : decode cX7_barsMany 16 = .ok (.invokevirtual 150, 3) := chkD_at okX7_barsMany_0 12 rfl
theorem dX7_barsMany_19 : decode cX7_barsMany 19 = .ok (.invokevirtual 124, 3) := chkD_at okX7_barsMany_0 13 rfl
theorem dX7_barsMany_22 : decode cX7_barsMany 22 = .ok (.ifCond .eq 7, 3) := chkD_at okX7_barsMany_0 14 rfl
theorem dX7_barsMany_25 : decode cX7_barsMany 25 = .ok (.iconst 1, 1) := chkD_at okX7_barsMany_0 15 rfl
theorem dX7_barsMany_26 : decode cX7_barsMany 26 = .ok (.goto 4, 3) := chkD_at okX7_barsMany_0 16 rfl
theorem dX7_barsMany_29 : decode cX7_barsMany 29 = .ok (.iconst 0, 1) := chkD_at okX7_barsMany_0 17 rfl
theorem dX7_barsMany_30 : decode cX7_barsMany 30 = .ok (.iadd, 1) := chkD_at okX7_barsMany_0 18 rfl
theorem dX7_barsMany_31 : decode cX7_barsMany 31 = .ok (.istore_n 2, 1) := chkD_at okX7_barsMany_0 19 rfl
theorem dX7_barsMany_32 : decode cX7_barsMany 32 = .ok (.iinc 3 1, 3) := chkD_at okX7_barsMany_0 20 rfl
theorem dX7_barsMany_35 : decode cX7_barsMany 35 = .ok (.goto (-31), 3) := chkD_at okX7_barsMany_0 21 rfl
theorem dX7_barsMany_38 : decode cX7_barsMany 38 = .ok (.iload_n 2, 1) := chkD_at okX7_barsMany_0 22 rfl
theorem dX7_barsMany_39 : decode cX7_barsMany 39 = .ok (.ireturn, 1) := chkD_at okX7_barsMany_0 23 rfl
theorem okX7_entryOf_0 : chkD cX7_entryOf [(0, .aload_n 0, 1), (1, .iload_n 1, 1), (2, .invokevirtual 170, 3), (5, .ifCond .eq 12, 3), (8, .iload_n 2, 1), (9, .iconst 0, 1), (10, .iconst 3, 1), (11, .invokestatic 86, 3), (14, .ifCond .ne 10, 3), (17, .aload_n 0, 1), (18, .ldc 85, 2), (20, .invokevirtual 104, 3), (23, .ireturn, 1), (24, .iload_n 2, 1), (25, .ifCond .ne 12, 3), (28, .aload_n 0, 1), (29, .getfield 19, 3), (32, .iload_n 1, 1), (33, .iaload, 1), (34, .goto 36, 3), (37, .iload_n 2, 1), (38, .iconst 1, 1), (39, .if_icmp .ne 12, 3), (42, .aload_n 0, 1), (43, .getfield 22, 3), (46, .iload_n 1, 1), (47, .iaload, 1), (48, .goto 22, 3), (51, .iload_n 2, 1), (52, .iconst 2, 1), (53, .if_icmp .ne 12, 3), (56, .aload_n 0, 1), (57, .getfield 25, 3), (60, .iload_n 1, 1), (61, .iaload, 1), (62, .goto 8, 3), (65, .aload_n 0, 1), (66, .iload_n 1, 1), (67, .invokevirtual 173, 3), (70, .ireturn, 1)] = true := by decide +kernel
theorem dX7_entryOf_0 : decode cX7_entryOf 0 = .ok (.aload_n 0, 1) := chkD_at okX7_entryOf_0 0 rfl
theorem dX7_entryOf_1 : decode cX7_entryOf 1 = .ok (.iload_n 1, 1) := chkD_at okX7_entryOf_0 1 rfl
theorem dX7_entryOf_2 : decode cX7_entryOf 2 = .ok (.invokevirtual 170, 3) := chkD_at okX7_entryOf_0 2 rfl
theorem dX7_entryOf_5 : decode cX7_entryOf 5 = .ok (.ifCond .eq 12, 3) := chkD_at okX7_entryOf_0 3 rfl
theorem dX7_entryOf_8 : decode cX7_entryOf 8 = .ok (.iload_n 2, 1) := chkD_at okX7_entryOf_0 4 rfl
theorem dX7_entryOf_9 : decode cX7_entryOf 9 = .ok (.iconst 0, 1) := chkD_at okX7_entryOf_0 5 rfl
theorem dX7_entryOf_10 : decode cX7_entryOf 10 = .ok (.iconst 3, 1) := chkD_at okX7_entryOf_0 6 rfl
theorem dX7_entryOf_11 : decode cX7_entryOf 11 = .ok (.invokestatic 86, 3) := chkD_at okX7_entryOf_0 7 rfl
theorem dX7_entryOf_14 : decode cX7_entryOf 14 = .ok (.ifCond .ne 10, 3) := chkD_at okX7_entryOf_0 8 rfl
theorem dX7_entryOf_17 : decode cX7_entryOf 17 = .ok (.aload_n 0, 1) := chkD_at okX7_entryOf_0 9 rfl
theorem dX7_entryOf_18 : decode cX7_entryOf 18 = .ok (.ldc 85, 2) := chkD_at okX7_entryOf_0 10 rfl
theorem dX7_entryOf_20 : decode cX7_entryOf 20 = .ok (.invokevirtual 104, 3) := chkD_at okX7_entryOf_0 11 rfl
theorem dX7_entryOf_23 : decode cX7_entryOf 23 = .ok (.ireturn, 1) := chkD_at okX7_entryOf_0 12 rfl
theorem dX7_entryOf_24 : decode cX7_entryOf 24 = .ok (.iload_n 2, 1) := chkD_at okX7_entryOf_0 13 rfl
theorem dX7_entryOf_25 : decode cX7_entryOf 25 = .ok (.ifCond .ne 12, 3) := chkD_at okX7_entryOf_0 14 rfl
theorem dX7_entryOf_28 : decode cX7_entryOf 28 = .ok (.aload_n 0, 1) := chkD_at okX7_entryOf_0 15 rfl
theorem dX7_entryOf_29 : decode cX7_entryOf 29 = .ok (.getfield 19, 3) := chkD_at okX7_entryOf_0 16 rfl
theorem dX7_entryOf_32 : decode cX7_entryOf 32 = .ok (.iload_n 1, 1) := chkD_at okX7_entryOf_0 17 rfl
theorem dX7_entryOf_33 : decode cX7_entryOf 33 = .ok (.iaload, 1) := chkD_at okX7_entryOf_0 18 rfl
theorem dX7_entryOf_34 : decode cX7_entryOf 34 = .ok (.goto 36, 3) := chkD_at okX7_entryOf_0 19 rfl
theorem dX7_entryOf_37 : decode cX7_entryOf 37 = .ok (.iload_n 2, 1) := chkD_at okX7_entryOf_0 20 rfl
theorem dX7_entryOf_38 : decode cX7_entryOf 38 = .ok (.iconst 1, 1) := chkD_at okX7_entryOf_0 21 rfl
theorem dX7_entryOf_39 : decode cX7_entryOf 39 = .ok (.if_icmp .ne 12, 3) := chkD_at okX7_entryOf_0 22 rfl
theorem dX7_entryOf_42 : decode cX7_entryOf 42 = .ok (.aload_n 0, 1) := chkD_at okX7_entryOf_0 23 rfl
theorem dX7_entryOf_43 : decode cX7_entryOf 43 = .ok (.getfield 22, 3) := chkD_at okX7_entryOf_0 24 rfl
theorem dX7_entryOf_46 : decode cX7_entryOf 46 = .ok (.iload_n 1, 1) := chkD_at okX7_entryOf_0 25 rfl
theorem dX7_entryOf_47 : decode cX7_entryOf 47 = .ok (.iaload, 1) := chkD_at okX7_entryOf_0 26 rfl
theorem dX7_entryOf_48 : decode cX7_entryOf 48 = .ok (.goto 22, 3) := chkD_at okX7_entryOf_0 27 rfl
theorem dX7_entryOf_51 : decode cX7_entryOf 51 = .ok (.iload_n 2, 1) := chkD_at okX7_entryOf_0 28 rfl
theorem dX7_entryOf_52 : decode cX7_entryOf 52 = .ok (.iconst 2, 1) := chkD_at okX7_entryOf_0 29 rfl
theorem dX7_entryOf_53 : decode cX7_entryOf 53 = .ok (.if_icmp .ne 12, 3) := chkD_at okX7_entryOf_0 30 rfl
theorem dX7_entryOf_56 : decode cX7_entryOf 56 = .ok (.aload_n 0, 1) := chkD_at okX7_entryOf_0 31 rfl
theorem dX7_entryOf_57 : decode cX7_entryOf 57 = .ok (.getfield 25, 3) := chkD_at okX7_entryOf_0 32 rfl
theorem dX7_entryOf_60 : decode cX7_entryOf 60 = .ok (.iload_n 1, 1) := chkD_at okX7_entryOf_0 33 rfl
theorem dX7_entryOf_61 : decode cX7_entryOf 61 = .ok (.iaload, 1) := chkD_at okX7_entryOf_0 34 rfl
theorem dX7_entryOf_62 : decode cX7_entryOf 62 = .ok (.goto 8, 3) := chkD_at okX7_entryOf_0 35 rfl
theorem dX7_entryOf_65 : decode cX7_entryOf 65 = .ok (.aload_n 0, 1) := chkD_at okX7_entryOf_0 36 rfl
theorem dX7_entryOf_66 : decode cX7_entryOf 66 = .ok (.iload_n 1, 1) := chkD_at okX7_entryOf_0 37 rfl
theorem dX7_entryOf_67 : decode cX7_entryOf 67 = .ok (.invokevirtual 173, 3) := chkD_at okX7_entryOf_0 38 rfl
theorem dX7_entryOf_70 : decode cX7_entryOf 70 = .ok (.ireturn, 1) := chkD_at okX7_entryOf_0 39 rfl
theorem okX7_turn_0 : chkD cX7_turn [(0, .aload_n 0, 1), (1, .iload_n 1, 1), (2, .invokevirtual 170, 3), (5, .ifCond .eq 10, 3), (8, .iload_n 2, 1), (9, .invokestatic 159, 3), (12, .ifCond .ne 10, 3), (15, .aload_n 0, 1), (16, .ldc 85, 2), (18, .invokevirtual 104, 3), (21, .ireturn, 1), (22, .aload_n 0, 1), (23, .getfield 19, 3), (26, .iload_n 1, 1), (27, .iaload, 1), (28, .istore_n 3, 1), (29, .aload_n 0, 1), (30, .getfield 19, 3), (33, .iload_n 1, 1), (34, .iload_n 2, 1), (35, .iastore, 1), (36, .iload_n 3, 1), (37, .ireturn, 1)] = true := by decide +kernel
theorem dX7_turn_0 : decode cX7_turn 0 = .ok (.aload_n 0, 1) := chkD_at okX7_turn_0 0 rfl
theorem dX7_turn_1 : decode cX7_turn 1 = .ok (.iload_n 1, 1) := chkD_at okX7_turn_0 1 rfl
theorem dX7_turn_2 : decode cX7_turn 2 = .ok (.invokevirtual 170, 3) := chkD_at okX7_turn_0 2 rfl
theorem dX7_turn_5 : decode cX7_turn 5 = .ok (.ifCond .eq 10, 3) := chkD_at okX7_turn_0 3 rfl
theorem dX7_turn_8 : decode cX7_turn 8 = .ok (.iload_n 2, 1) := chkD_at okX7_turn_0 4 rfl
theorem dX7_turn_9 : decode cX7_turn 9 = .ok (.invokestatic 159, 3) := chkD_at okX7_turn_0 5 rfl
theorem dX7_turn_12 : decode cX7_turn 12 = .ok (.ifCond .ne 10, 3) := chkD_at okX7_turn_0 6 rfl
theorem dX7_turn_15 : decode cX7_turn 15 = .ok (.aload_n 0, 1) := chkD_at okX7_turn_0 7 rfl
theorem dX7_turn_16 : decode cX7_turn 16 = .ok (.ldc 85, 2) := chkD_at okX7_turn_0 8 rfl
theorem dX7_turn_18 : decode cX7_turn 18 = .ok (.invokevirtual 104, 3) := chkD_at okX7_turn_0 9 rfl
theorem dX7_turn_21 : decode cX7_turn 21 = .ok (.ireturn, 1) := chkD_at okX7_turn_0 10 rfl
theorem dX7_turn_22 : decode cX7_turn 22 = .ok (.aload_n 0, 1) := chkD_at okX7_turn_0 11 rfl
theorem dX7_turn_23 : decode cX7_turn 23 = .ok (.getfield 19, 3) := chkD_at okX7_turn_0 12 rfl
theorem dX7_turn_26 : decode cX7_turn 26 = .ok (.iload_n 1, 1) := chkD_at okX7_turn_0 13 rfl
theorem dX7_turn_27 : decode cX7_turn 27 = .ok (.iaload, 1) := chkD_at okX7_turn_0 14 rfl
theorem dX7_turn_28 : decode cX7_turn 28 = .ok (.istore_n 3, 1) := chkD_at okX7_turn_0 15 rfl
theorem dX7_turn_29 : decode cX7_turn 29 = .ok (.aload_n 0, 1) := chkD_at okX7_turn_0 16 rfl
theorem dX7_turn_30 : decode cX7_turn 30 = .ok (.getfield 19, 3) := chkD_at okX7_turn_0 17 rfl
theorem dX7_turn_33 : decode cX7_turn 33 = .ok (.iload_n 1, 1) := chkD_at okX7_turn_0 18 rfl
theorem dX7_turn_34 : decode cX7_turn 34 = .ok (.iload_n 2, 1) := chkD_at okX7_turn_0 19 rfl
theorem dX7_turn_35 : decode cX7_turn 35 = .ok (.iastore, 1) := chkD_at okX7_turn_0 20 rfl
theorem dX7_turn_36 : decode cX7_turn 36 = .ok (.iload_n 3, 1) := chkD_at okX7_turn_0 21 rfl
theorem dX7_turn_37 : decode cX7_turn 37 = .ok (.ireturn, 1) := chkD_at okX7_turn_0 22 rfl
theorem okX7_isUnder_0 : chkD cX7_isUnder [(0, .iload_n 1, 1), (1, .ifCond .eq 28, 3), (4, .iload_n 1, 1), (5, .iload_n 0, 1), (6, .if_icmp .eq 23, 3), (9, .iload_n 1, 1), (10, .iconst 1, 1), (11, .if_icmp .ne 8, 3), (14, .iload_n 0, 1), (15, .iconst 4, 1), (16, .if_icmp .eq 13, 3), (19, .iload_n 1, 1), (20, .iconst 3, 1), (21, .if_icmp .ne 12, 3), (24, .iload_n 0, 1), (25, .iconst 5, 1), (26, .if_icmp .ne 7, 3), (29, .iconst 1, 1), (30, .goto 4, 3), (33, .iconst 0, 1), (34, .ireturn, 1)] = true := by decide +kernel
theorem dX7_isUnder_0 : decode cX7_isUnder 0 = .ok (.iload_n 1, 1) := chkD_at okX7_isUnder_0 0 rfl
theorem dX7_isUnder_1 : decode cX7_isUnder 1 = .ok (.ifCond .eq 28, 3) := chkD_at okX7_isUnder_0 1 rfl
theorem dX7_isUnder_4 : decode cX7_isUnder 4 = .ok (.iload_n 1, 1) := chkD_at okX7_isUnder_0 2 rfl
theorem dX7_isUnder_5 : decode cX7_isUnder 5 = .ok (.iload_n 0, 1) := chkD_at okX7_isUnder_0 3 rfl
theorem dX7_isUnder_6 : decode cX7_isUnder 6 = .ok (.if_icmp .eq 23, 3) := chkD_at okX7_isUnder_0 4 rfl
theorem dX7_isUnder_9 : decode cX7_isUnder 9 = .ok (.iload_n 1, 1) := chkD_at okX7_isUnder_0 5 rfl
theorem dX7_isUnder_10 : decode cX7_isUnder 10 = .ok (.iconst 1, 1) := chkD_at okX7_isUnder_0 6 rfl
theorem dX7_isUnder_11 : decode cX7_isUnder 11 = .ok (.if_icmp .ne 8, 3) := chkD_at okX7_isUnder_0 7 rfl
theorem dX7_isUnder_14 : decode cX7_isUnder 14 = .ok (.iload_n 0, 1) := chkD_at okX7_isUnder_0 8 rfl
theorem dX7_isUnder_15 : decode cX7_isUnder 15 = .ok (.iconst 4, 1) := chkD_at okX7_isUnder_0 9 rfl
theorem dX7_isUnder_16 : decode cX7_isUnder 16 = .ok (.if_icmp .eq 13, 3) := chkD_at okX7_isUnder_0 10 rfl
theorem dX7_isUnder_19 : decode cX7_isUnder 19 = .ok (.iload_n 1, 1) := chkD_at okX7_isUnder_0 11 rfl
theorem dX7_isUnder_20 : decode cX7_isUnder 20 = .ok (.iconst 3, 1) := chkD_at okX7_isUnder_0 12 rfl
theorem dX7_isUnder_21 : decode cX7_isUnder 21 = .ok (.if_icmp .ne 12, 3) := chkD_at okX7_isUnder_0 13 rfl
theorem dX7_isUnder_24 : decode cX7_isUnder 24 = .ok (.iload_n 0, 1) := chkD_at okX7_isUnder_0 14 rfl
theorem dX7_isUnder_25 : decode cX7_isUnder 25 = .ok (.iconst 5, 1) := chkD_at okX7_isUnder_0 15 rfl
theorem dX7_isUnder_26 : decode cX7_isUnder 26 = .ok (.if_icmp .ne 7, 3) := chkD_at okX7_isUnder_0 16 rfl
theorem dX7_isUnder_29 : decode cX7_isUnder 29 = .ok (.iconst 1, 1) := chkD_at okX7_isUnder_0 17 rfl
theorem dX7_isUnder_30 : decode cX7_isUnder 30 = .ok (.goto 4, 3) := chkD_at okX7_isUnder_0 18 rfl
theorem dX7_isUnder_33 : decode cX7_isUnder 33 = .ok (.iconst 0, 1) := chkD_at okX7_isUnder_0 19 rfl
theorem dX7_isUnder_34 : decode cX7_isUnder 34 = .ok (.ireturn, 1) := chkD_at okX7_isUnder_0 20 rfl
theorem okX7_as_0 : chkD cX7_as [(0, .aload_n 0, 1), (1, .iload_n 1, 1), (2, .invokevirtual 170, 3), (5, .ifCond .eq 10, 3), (8, .iload_n 2, 1), (9, .invokestatic 159, 3), (12, .ifCond .ne 10, 3), (15, .aload_n 0, 1), (16, .ldc 85, 2), (18, .invokevirtual 104, 3), (21, .ireturn, 1), (22, .aload_n 0, 1), (23, .getfield 19, 3), (26, .iload_n 1, 1), (27, .iaload, 1), (28, .iload_n 2, 1), (29, .invokestatic 176, 3), (32, .ifCond .eq 12, 3), (35, .aload_n 0, 1), (36, .getfield 22, 3), (39, .iload_n 1, 1), (40, .iaload, 1), (41, .goto 9, 3), (44, .aload_n 0, 1), (45, .ldc 179, 2), (47, .invokevirtual 104, 3), (50, .ireturn, 1)] = true := by decide +kernel
theorem dX7_as_0 : decode cX7_as 0 = .ok (.aload_n 0, 1) := chkD_at okX7_as_0 0 rfl
theorem dX7_as_1 : decode cX7_as 1 = .ok (.iload_n 1, 1) := chkD_at okX7_as_0 1 rfl
theorem dX7_as_2 : decode cX7_as 2 = .ok (.invokevirtual 170, 3) := chkD_at okX7_as_0 2 rfl
theorem dX7_as_5 : decode cX7_as 5 = .ok (.ifCond .eq 10, 3) := chkD_at okX7_as_0 3 rfl
theorem dX7_as_8 : decode cX7_as 8 = .ok (.iload_n 2, 1) := chkD_at okX7_as_0 4 rfl
theorem dX7_as_9 : decode cX7_as 9 = .ok (.invokestatic 159, 3) := chkD_at okX7_as_0 5 rfl
theorem dX7_as_12 : decode cX7_as 12 = .ok (.ifCond .ne 10, 3) := chkD_at okX7_as_0 6 rfl
theorem dX7_as_15 : decode cX7_as 15 = .ok (.aload_n 0, 1) := chkD_at okX7_as_0 7 rfl
theorem dX7_as_16 : decode cX7_as 16 = .ok (.ldc 85, 2) := chkD_at okX7_as_0 8 rfl
theorem dX7_as_18 : decode cX7_as 18 = .ok (.invokevirtual 104, 3) := chkD_at okX7_as_0 9 rfl
theorem dX7_as_21 : decode cX7_as 21 = .ok (.ireturn, 1) := chkD_at okX7_as_0 10 rfl
theorem dX7_as_22 : decode cX7_as 22 = .ok (.aload_n 0, 1) := chkD_at okX7_as_0 11 rfl
theorem dX7_as_23 : decode cX7_as 23 = .ok (.getfield 19, 3) := chkD_at okX7_as_0 12 rfl
theorem dX7_as_26 : decode cX7_as 26 = .ok (.iload_n 1, 1) := chkD_at okX7_as_0 13 rfl
theorem dX7_as_27 : decode cX7_as 27 = .ok (.iaload, 1) := chkD_at okX7_as_0 14 rfl
theorem dX7_as_28 : decode cX7_as 28 = .ok (.iload_n 2, 1) := chkD_at okX7_as_0 15 rfl
theorem dX7_as_29 : decode cX7_as 29 = .ok (.invokestatic 176, 3) := chkD_at okX7_as_0 16 rfl
theorem dX7_as_32 : decode cX7_as 32 = .ok (.ifCond .eq 12, 3) := chkD_at okX7_as_0 17 rfl
theorem dX7_as_35 : decode cX7_as 35 = .ok (.aload_n 0, 1) := chkD_at okX7_as_0 18 rfl
theorem dX7_as_36 : decode cX7_as 36 = .ok (.getfield 22, 3) := chkD_at okX7_as_0 19 rfl
theorem dX7_as_39 : decode cX7_as 39 = .ok (.iload_n 1, 1) := chkD_at okX7_as_0 20 rfl
theorem dX7_as_40 : decode cX7_as 40 = .ok (.iaload, 1) := chkD_at okX7_as_0 21 rfl
theorem dX7_as_41 : decode cX7_as 41 = .ok (.goto 9, 3) := chkD_at okX7_as_0 22 rfl
theorem dX7_as_44 : decode cX7_as 44 = .ok (.aload_n 0, 1) := chkD_at okX7_as_0 23 rfl
theorem dX7_as_45 : decode cX7_as 45 = .ok (.ldc 179, 2) := chkD_at okX7_as_0 24 rfl
theorem dX7_as_47 : decode cX7_as 47 = .ok (.invokevirtual 104, 3) := chkD_at okX7_as_0 25 rfl
theorem dX7_as_50 : decode cX7_as 50 = .ok (.ireturn, 1) := chkD_at okX7_as_0 26 rfl
theorem okX7_strike_0 : chkD cX7_strike [(0, .aload_n 0, 1), (1, .getfield 93, 3), (4, .ifCond .ne 10, 3), (7, .aload_n 0, 1), (8, .ldc 127, 2), (10, .invokevirtual 104, 3), (13, .ireturn, 1), (14, .aload_n 0, 1), (15, .dup, 1), (16, .getfield 93, 3), (19, .iconst 1, 1), (20, .isub, 1), (21, .putfield 93, 3), (24, .aload_n 0, 1), (25, .getfield 22, 3), (28, .aload_n 0, 1), (29, .getfield 93, 3), (32, .iaload, 1), (33, .ireturn, 1)] = true := by decide +kernel
theorem dX7_strike_0 : decode cX7_strike 0 = .ok (.aload_n 0, 1) := chkD_at okX7_strike_0 0 rfl
theorem dX7_strike_1 : decode cX7_strike 1 = .ok (.getfield 93, 3) := chkD_at okX7_strike_0 1 rfl
theorem dX7_strike_4 : decode cX7_strike 4 = .ok (.ifCond .ne 10, 3) := chkD_at okX7_strike_0 2 rfl
theorem dX7_strike_7 : decode cX7_strike 7 = .ok (.aload_n 0, 1) := chkD_at okX7_strike_0 3 rfl
theorem dX7_strike_8 : decode cX7_strike 8 = .ok (.ldc 127, 2) := chkD_at okX7_strike_0 4 rfl
theorem dX7_strike_10 : decode cX7_strike 10 = .ok (.invokevirtual 104, 3) := chkD_at okX7_strike_0 5 rfl
theorem dX7_strike_13 : decode cX7_strike 13 = .ok (.ireturn, 1) := chkD_at okX7_strike_0 6 rfl
theorem dX7_strike_14 : decode cX7_strike 14 = .ok (.aload_n 0, 1) := chkD_at okX7_strike_0 7 rfl
theorem dX7_strike_15 : decode cX7_strike 15 = .ok (.dup, 1) := chkD_at okX7_strike_0 8 rfl
theorem dX7_strike_16 : decode cX7_strike 16 = .ok (.getfield 93, 3) := chkD_at okX7_strike_0 9 rfl
theorem dX7_strike_19 : decode cX7_strike 19 = .ok (.iconst 1, 1) := chkD_at okX7_strike_0 10 rfl
theorem dX7_strike_20 : decode cX7_strike 20 = .ok (.isub, 1) := chkD_at okX7_strike_0 11 rfl
theorem dX7_strike_21 : decode cX7_strike 21 = .ok (.putfield 93, 3) := chkD_at okX7_strike_0 12 rfl
theorem dX7_strike_24 : decode cX7_strike 24 = .ok (.aload_n 0, 1) := chkD_at okX7_strike_0 13 rfl
theorem dX7_strike_25 : decode cX7_strike 25 = .ok (.getfield 22, 3) := chkD_at okX7_strike_0 14 rfl
theorem dX7_strike_28 : decode cX7_strike 28 = .ok (.aload_n 0, 1) := chkD_at okX7_strike_0 15 rfl
theorem dX7_strike_29 : decode cX7_strike 29 = .ok (.getfield 93, 3) := chkD_at okX7_strike_0 16 rfl
theorem dX7_strike_32 : decode cX7_strike 32 = .ok (.iaload, 1) := chkD_at okX7_strike_0 17 rfl
theorem dX7_strike_33 : decode cX7_strike 33 = .ok (.ireturn, 1) := chkD_at okX7_strike_0 18 rfl
theorem okX7_bars_0 : chkD cX7_bars [(0, .aload_n 0, 1), (1, .iload_n 1, 1), (2, .invokevirtual 170, 3), (5, .ifCond .eq 11, 3), (8, .aload_n 0, 1), (9, .iload_n 2, 1), (10, .invokevirtual 131, 3), (13, .ifCond .ne 10, 3), (16, .aload_n 0, 1), (17, .ldc 85, 2), (19, .invokevirtual 104, 3), (22, .ireturn, 1), (23, .aload_n 0, 1), (24, .iload_n 1, 1), (25, .iload_n 2, 1), (26, .invokevirtual 124, 3), (29, .ifCond .eq 7, 3), (32, .iconst 1, 1), (33, .goto 4, 3), (36, .iconst 0, 1), (37, .ireturn, 1)] = true := by decide +kernel
theorem dX7_bars_0 : decode cX7_bars 0 = .ok (.aload_n 0, 1) := chkD_at okX7_bars_0 0 rfl
theorem dX7_bars_1 : decode cX7_bars 1 = .ok (.iload_n 1, 1) := chkD_at okX7_bars_0 1 rfl
theorem dX7_bars_2 : decode cX7_bars 2 = .ok (.invokevirtual 170, 3) := chkD_at okX7_bars_0 2 rfl
theorem dX7_bars_5 : decode cX7_bars 5 = .ok (.ifCond .eq 11, 3) := chkD_at okX7_bars_0 3 rfl
theorem dX7_bars_8 : decode cX7_bars 8 = .ok (.aload_n 0, 1) := chkD_at okX7_bars_0 4 rfl
theorem dX7_bars_9 : decode cX7_bars 9 = .ok (.iload_n 2, 1) := chkD_at okX7_bars_0 5 rfl
theorem dX7_bars_10 : decode cX7_bars 10 = .ok (.invokevirtual 131, 3) := chkD_at okX7_bars_0 6 rfl
theorem dX7_bars_13 : decode cX7_bars 13 = .ok (.ifCond .ne 10, 3) := chkD_at okX7_bars_0 7 rfl
theorem dX7_bars_16 : decode cX7_bars 16 = .ok (.aload_n 0, 1) := chkD_at okX7_bars_0 8 rfl
theorem dX7_bars_17 : decode cX7_bars 17 = .ok (.ldc 85, 2) := chkD_at okX7_bars_0 9 rfl
theorem dX7_bars_19 : decode cX7_bars 19 = .ok (.invokevirtual 104, 3) := chkD_at okX7_bars_0 10 rfl
theorem dX7_bars_22 : decode cX7_bars 22 = .ok (.ireturn, 1) := chkD_at okX7_bars_0 11 rfl
theorem dX7_bars_23 : decode cX7_bars 23 = .ok (.aload_n 0, 1) := chkD_at okX7_bars_0 12 rfl
theorem dX7_bars_24 : decode cX7_bars 24 = .ok (.iload_n 1, 1) := chkD_at okX7_bars_0 13 rfl
theorem dX7_bars_25 : decode cX7_bars 25 = .ok (.iload_n 2, 1) := chkD_at okX7_bars_0 14 rfl
theorem dX7_bars_26 : decode cX7_bars 26 = .ok (.invokevirtual 124, 3) := chkD_at okX7_bars_0 15 rfl
theorem dX7_bars_29 : decode cX7_bars 29 = .ok (.ifCond .eq 7, 3) := chkD_at okX7_bars_0 16 rfl
theorem dX7_bars_32 : decode cX7_bars 32 = .ok (.iconst 1, 1) := chkD_at okX7_bars_0 17 rfl
theorem dX7_bars_33 : decode cX7_bars 33 = .ok (.goto 4, 3) := chkD_at okX7_bars_0 18 rfl
theorem dX7_bars_36 : decode cX7_bars 36 = .ok (.iconst 0, 1) := chkD_at okX7_bars_0 19 rfl
theorem dX7_bars_37 : decode cX7_bars 37 = .ok (.ireturn, 1) := chkD_at okX7_bars_0 20 rfl
theorem okX7_by_0 : chkD cX7_by [(0, .aload_n 0, 1), (1, .iload_n 1, 1), (2, .invokevirtual 131, 3), (5, .ifCond .ne 10, 3), (8, .aload_n 0, 1), (9, .ldc 85, 2), (11, .invokevirtual 104, 3), (14, .ireturn, 1), (15, .aload_n 0, 1), (16, .iload_n 1, 1), (17, .invokevirtual 128, 3), (20, .istore_n 2, 1), (21, .iload_n 2, 1), (22, .ifCond .ge 12, 3), (25, .aload_n 0, 1), (26, .ldc 127, 2), (28, .invokevirtual 104, 3), (31, .goto 4, 3), (34, .iload_n 2, 1), (35, .ireturn, 1)] = true := by decide +kernel
theorem dX7_by_0 : decode cX7_by 0 = .ok (.aload_n 0, 1) := chkD_at okX7_by_0 0 rfl
theorem dX7_by_1 : decode cX7_by 1 = .ok (.iload_n 1, 1) := chkD_at okX7_by_0 1 rfl
theorem dX7_by_2 : decode cX7_by 2 = .ok (.invokevirtual 131, 3) := chkD_at okX7_by_0 2 rfl
theorem dX7_by_5 : decode cX7_by 5 = .ok (.ifCond .ne 10, 3) := chkD_at okX7_by_0 3 rfl
theorem dX7_by_8 : decode cX7_by 8 = .ok (.aload_n 0, 1) := chkD_at okX7_by_0 4 rfl
theorem dX7_by_9 : decode cX7_by 9 = .ok (.ldc 85, 2) := chkD_at okX7_by_0 5 rfl
theorem dX7_by_11 : decode cX7_by 11 = .ok (.invokevirtual 104, 3) := chkD_at okX7_by_0 6 rfl
theorem dX7_by_14 : decode cX7_by 14 = .ok (.ireturn, 1) := chkD_at okX7_by_0 7 rfl
theorem dX7_by_15 : decode cX7_by 15 = .ok (.aload_n 0, 1) := chkD_at okX7_by_0 8 rfl
theorem dX7_by_16 : decode cX7_by 16 = .ok (.iload_n 1, 1) := chkD_at okX7_by_0 9 rfl
theorem dX7_by_17 : decode cX7_by 17 = .ok (.invokevirtual 128, 3) := chkD_at okX7_by_0 10 rfl
theorem dX7_by_20 : decode cX7_by 20 = .ok (.istore_n 2, 1) := chkD_at okX7_by_0 11 rfl
theorem dX7_by_21 : decode cX7_by 21 = .ok (.iload_n 2, 1) := chkD_at okX7_by_0 12 rfl
theorem dX7_by_22 : decode cX7_by 22 = .ok (.ifCond .ge 12, 3) := chkD_at okX7_by_0 13 rfl
theorem dX7_by_25 : decode cX7_by 25 = .ok (.aload_n 0, 1) := chkD_at okX7_by_0 14 rfl
theorem dX7_by_26 : decode cX7_by 26 = .ok (.ldc 127, 2) := chkD_at okX7_by_0 15 rfl
theorem dX7_by_28 : decode cX7_by 28 = .ok (.invokevirtual 104, 3) := chkD_at okX7_by_0 16 rfl
theorem dX7_by_31 : decode cX7_by 31 = .ok (.goto 4, 3) := chkD_at okX7_by_0 17 rfl
theorem dX7_by_34 : decode cX7_by 34 = .ok (.iload_n 2, 1) := chkD_at okX7_by_0 18 rfl
theorem dX7_by_35 : decode cX7_by 35 = .ok (.ireturn, 1) := chkD_at okX7_by_0 19 rfl
theorem okX7_breach_0 : chkD cX7_breach [(0, .iconst 0, 1), (1, .istore_n 1, 1), (2, .iload_n 1, 1), (3, .aload_n 0, 1), (4, .getfield 93, 3), (7, .if_icmp .ge 41, 3), (10, .aload_n 0, 1), (11, .aload_n 0, 1), (12, .getfield 22, 3), (15, .iload_n 1, 1), (16, .iaload, 1), (17, .invokevirtual 128, 3), (20, .istore_n 2, 1), (21, .aload_n 0, 1), (22, .getfield 19, 3), (25, .iload_n 1, 1), (26, .iaload, 1), (27, .iconst 2, 1), (28, .if_icmp .eq 14, 3), (31, .iload_n 2, 1), (32, .ifCond .lt 10, 3), (35, .iload_n 2, 1), (36, .iload_n 1, 1), (37, .if_icmp .ge 5, 3), (40, .iload_n 1, 1), (41, .ireturn, 1), (42, .iinc 1 1, 3), (45, .goto (-43), 3), (48, .aload_n 0, 1), (49, .ldc 127, 2), (51, .invokevirtual 104, 3), (54, .ireturn, 1)] = true := by decide +kernel
theorem dX7_breach_0 : decode cX7_breach 0 = .ok (.iconst 0, 1) := chkD_at okX7_breach_0 0 rfl
theorem dX7_breach_1 : decode cX7_breach 1 = .ok (.istore_n 1, 1) := chkD_at okX7_breach_0 1 rfl
theorem dX7_breach_2 : decode cX7_breach 2 = .ok (.iload_n 1, 1) := chkD_at okX7_breach_0 2 rfl
theorem dX7_breach_3 : decode cX7_breach 3 = .ok (.aload_n 0, 1) := chkD_at okX7_breach_0 3 rfl
theorem dX7_breach_4 : decode cX7_breach 4 = .ok (.getfield 93, 3) := chkD_at okX7_breach_0 4 rfl
theorem dX7_breach_7 : decode cX7_breach 7 = .ok (.if_icmp .ge 41, 3) := chkD_at okX7_breach_0 5 rfl
theorem dX7_breach_10 : decode cX7_breach 10 = .ok (.aload_n 0, 1) := chkD_at okX7_breach_0 6 rfl
theorem dX7_breach_11 : decode cX7_breach 11 = .ok (.aload_n 0, 1) := chkD_at okX7_breach_0 7 rfl
theorem dX7_breach_12 : decode cX7_breach 12 = .ok (.getfield 22, 3) := chkD_at okX7_breach_0 8 rfl
theorem dX7_breach_15 : decode cX7_breach 15 = .ok (.iload_n 1, 1) := chkD_at okX7_breach_0 9 rfl
theorem dX7_breach_16 : decode cX7_breach 16 = .ok (.iaload, 1) := chkD_at okX7_breach_0 10 rfl
theorem dX7_breach_17 : decode cX7_breach 17 = .ok (.invokevirtual 128, 3) := chkD_at okX7_breach_0 11 rfl
theorem dX7_breach_20 : decode cX7_breach 20 = .ok (.istore_n 2, 1) := chkD_at okX7_breach_0 12 rfl
theorem dX7_breach_21 : decode cX7_breach 21 = .ok (.aload_n 0, 1) := chkD_at okX7_breach_0 13 rfl
theorem dX7_breach_22 : decode cX7_breach 22 = .ok (.getfield 19, 3) := chkD_at okX7_breach_0 14 rfl
theorem dX7_breach_25 : decode cX7_breach 25 = .ok (.iload_n 1, 1) := chkD_at okX7_breach_0 15 rfl
theorem dX7_breach_26 : decode cX7_breach 26 = .ok (.iaload, 1) := chkD_at okX7_breach_0 16 rfl
theorem dX7_breach_27 : decode cX7_breach 27 = .ok (.iconst 2, 1) := chkD_at okX7_breach_0 17 rfl
theorem dX7_breach_28 : decode cX7_breach 28 = .ok (.if_icmp .eq 14, 3) := chkD_at okX7_breach_0 18 rfl
theorem dX7_breach_31 : decode cX7_breach 31 = .ok (.iload_n 2, 1) := chkD_at okX7_breach_0 19 rfl
theorem dX7_breach_32 : decode cX7_breach 32 = .ok (.ifCond .lt 10, 3) := chkD_at okX7_breach_0 20 rfl
theorem dX7_breach_35 : decode cX7_breach 35 = .ok (.iload_n 2, 1) := chkD_at okX7_breach_0 21 rfl
theorem dX7_breach_36 : decode cX7_breach 36 = .ok (.iload_n 1, 1) := chkD_at okX7_breach_0 22 rfl
theorem dX7_breach_37 : decode cX7_breach 37 = .ok (.if_icmp .ge 5, 3) := chkD_at okX7_breach_0 23 rfl
theorem dX7_breach_40 : decode cX7_breach 40 = .ok (.iload_n 1, 1) := chkD_at okX7_breach_0 24 rfl
theorem dX7_breach_41 : decode cX7_breach 41 = .ok (.ireturn, 1) := chkD_at okX7_breach_0 25 rfl
theorem dX7_breach_42 : decode cX7_breach 42 = .ok (.iinc 1 1, 3) := chkD_at okX7_breach_0 26 rfl
theorem dX7_breach_45 : decode cX7_breach 45 = .ok (.goto (-43), 3) := chkD_at okX7_breach_0 27 rfl
theorem dX7_breach_48 : decode cX7_breach 48 = .ok (.aload_n 0, 1) := chkD_at okX7_breach_0 28 rfl
theorem dX7_breach_49 : decode cX7_breach 49 = .ok (.ldc 127, 2) := chkD_at okX7_breach_0 29 rfl
theorem dX7_breach_51 : decode cX7_breach 51 = .ok (.invokevirtual 104, 3) := chkD_at okX7_breach_0 30 rfl
theorem dX7_breach_54 : decode cX7_breach 54 = .ok (.ireturn, 1) := chkD_at okX7_breach_0 31 rfl
theorem okX7_keenest_0 : chkD cX7_keenest [(0, .aload_n 0, 1), (1, .getfield 93, 3), (4, .ifCond .ne 10, 3), (7, .aload_n 0, 1), (8, .ldc 127, 2), (10, .invokevirtual 104, 3), (13, .ireturn, 1), (14, .iconst 0, 1), (15, .istore_n 1, 1), (16, .iload_n 1, 1), (17, .aload_n 0, 1), (18, .getfield 93, 3), (21, .if_icmp .ge 16, 3), (24, .aload_n 0, 1), (25, .getfield 41, 3), (28, .iload_n 1, 1), (29, .iconst 0, 1), (30, .iastore, 1), (31, .iinc 1 1, 3), (34, .goto (-18), 3), (37, .iconst 0, 1), (38, .istore_n 1, 1), (39, .iload_n 1, 1), (40, .sipush 1840, 3), (43, .if_icmp .ge 88, 3), (46, .iconst 0, 1), (47, .istore_n 2, 1), (48, .iconst 0, 1), (49, .istore_n 3, 1), (50, .iconst 0, 1), (51, .istore 4, 2), (53, .iload 4, 2), (55, .aload_n 0, 1), (56, .getfield 93, 3), (59, .if_icmp .ge 47, 3), (62, .aload_n 0, 1), (63, .iload 4, 2), (65, .aload_n 0, 1), (66, .iload_n 1, 1), (67, .invokevirtual 150, 3), (70, .invokevirtual 124, 3), (73, .istore 5, 2), (75, .iload_n 2, 1), (76, .iload 5, 2), (78, .ifCond .eq 7, 3), (81, .iconst 1, 1), (82, .goto 4, 3), (85, .iconst 0, 1), (86, .iadd, 1), (87, .istore_n 2, 1), (88, .iload 5, 2), (90, .ifCond .eq 8, 3), (93, .iload 4, 2), (95, .goto 4, 3), (98, .iload_n 3, 1), (99, .istore_n 3, 1), (100, .iinc 4 1, 3), (103, .goto (-50), 3), (106, .aload_n 0, 1), (107, .getfield 41, 3), (110, .iload_n 3, 1), (111, .dup2, 1), (112, .iaload, 1), (113, .iload_n 2, 1), (114, .iconst 1, 1), (115, .if_icmp .ne 7, 3), (118, .iconst 1, 1), (119, .goto 4, 3), (122, .iconst 0, 1), (123, .iadd, 1), (124, .iastore, 1), (125, .iinc 1 1, 3), (128, .goto (-89), 3), (131, .iconst 0, 1), (132, .istore_n 1, 1), (133, .iconst 1, 1), (134, .istore_n 2, 1), (135, .iload_n 2, 1), (136, .aload_n 0, 1), (137, .getfield 93, 3)] = true := by decide +kernel
theorem dX7_keenest_0 : decode cX7_keenest 0 = .ok (.aload_n 0, 1) := chkD_at okX7_keenest_0 0 rfl
theorem dX7_keenest_1 : decode cX7_keenest 1 = .ok (.getfield 93, 3) := chkD_at okX7_keenest_0 1 rfl
theorem dX7_keenest_4 : decode cX7_keenest 4 = .ok (.ifCond .ne 10, 3) := chkD_at okX7_keenest_0 2 rfl
theorem dX7_keenest_7 : decode cX7_keenest 7 = .ok (.aload_n 0, 1) := chkD_at okX7_keenest_0 3 rfl
theorem dX7_keenest_8 : decode cX7_keenest 8 = .ok (.ldc 127, 2) := chkD_at okX7_keenest_0 4 rfl
theorem dX7_keenest_10 : decode cX7_keenest 10 = .ok (.invokevirtual 104, 3) := chkD_at okX7_keenest_0 5 rfl
theorem dX7_keenest_13 : decode cX7_keenest 13 = .ok (.ireturn, 1) := chkD_at okX7_keenest_0 6 rfl
theorem dX7_keenest_14 : decode cX7_keenest 14 = .ok (.iconst 0, 1) := chkD_at okX7_keenest_0 7 rfl
theorem dX7_keenest_15 : decode cX7_keenest 15 = .ok (.istore_n 1, 1) := chkD_at okX7_keenest_0 8 rfl
theorem dX7_keenest_16 : decode cX7_keenest 16 = .ok (.iload_n 1, 1) := chkD_at okX7_keenest_0 9 rfl
theorem dX7_keenest_17 : decode cX7_keenest 17 = .ok (.aload_n 0, 1) := chkD_at okX7_keenest_0 10 rfl
theorem dX7_keenest_18 : decode cX7_keenest 18 = .ok (.getfield 93, 3) := chkD_at okX7_keenest_0 11 rfl
theorem dX7_keenest_21 : decode cX7_keenest 21 = .ok (.if_icmp .ge 16, 3) := chkD_at okX7_keenest_0 12 rfl
theorem dX7_keenest_24 : decode cX7_keenest 24 = .ok (.aload_n 0, 1) := chkD_at okX7_keenest_0 13 rfl
theorem dX7_keenest_25 : decode cX7_keenest 25 = .ok (.getfield 41, 3) := chkD_at okX7_keenest_0 14 rfl
theorem dX7_keenest_28 : decode cX7_keenest 28 = .ok (.iload_n 1, 1) := chkD_at okX7_keenest_0 15 rfl
theorem dX7_keenest_29 : decode cX7_keenest 29 = .ok (.iconst 0, 1) := chkD_at okX7_keenest_0 16 rfl
theorem dX7_keenest_30 : decode cX7_keenest 30 = .ok (.iastore, 1) := chkD_at okX7_keenest_0 17 rfl
theorem dX7_keenest_31 : decode cX7_keenest 31 = .ok (.iinc 1 1, 3) := chkD_at okX7_keenest_0 18 rfl
theorem dX7_keenest_34 : decode cX7_keenest 34 = .ok (.goto (-18), 3) := chkD_at okX7_keenest_0 19 rfl
theorem dX7_keenest_37 : decode cX7_keenest 37 = .ok (.iconst 0, 1) := chkD_at okX7_keenest_0 20 rfl
theorem dX7_keenest_38 : decode cX7_keenest 38 = .ok (.istore_n 1, 1) := chkD_at okX7_keenest_0 21 rfl
theorem dX7_keenest_39 : decode cX7_keenest 39 = .ok (.iload_n 1, 1) := chkD_at okX7_keenest_0 22 rfl
theorem dX7_keenest_40 : decode cX7_keenest 40 = .ok (.sipush 1840, 3) := chkD_at okX7_keenest_0 23 rfl
theorem dX7_keenest_43 : decode cX7_keenest 43 = .ok (.if_icmp .ge 88, 3) := chkD_at okX7_keenest_0 24 rfl
theorem dX7_keenest_46 : decode cX7_keenest 46 = .ok (.iconst 0, 1) := chkD_at okX7_keenest_0 25 rfl
theorem dX7_keenest_47 : decode cX7_keenest 47 = .ok (.istore_n 2, 1) := chkD_at okX7_keenest_0 26 rfl
theorem dX7_keenest_48 : decode cX7_keenest 48 = .ok (.iconst 0, 1) := chkD_at okX7_keenest_0 27 rfl
theorem dX7_keenest_49 : decode cX7_keenest 49 = .ok (.istore_n 3, 1) := chkD_at okX7_keenest_0 28 rfl
theorem dX7_keenest_50 : decode cX7_keenest 50 = .ok (.iconst 0, 1) := chkD_at okX7_keenest_0 29 rfl
theorem dX7_keenest_51 : decode cX7_keenest 51 = .ok (.istore 4, 2) := chkD_at okX7_keenest_0 30 rfl
theorem dX7_keenest_53 : decode cX7_keenest 53 = .ok (.iload 4, 2) := chkD_at okX7_keenest_0 31 rfl
theorem dX7_keenest_55 : decode cX7_keenest 55 = .ok (.aload_n 0, 1) := chkD_at okX7_keenest_0 32 rfl
theorem dX7_keenest_56 : decode cX7_keenest 56 = .ok (.getfield 93, 3) := chkD_at okX7_keenest_0 33 rfl
theorem dX7_keenest_59 : decode cX7_keenest 59 = .ok (.if_icmp .ge 47, 3) := chkD_at okX7_keenest_0 34 rfl
theorem dX7_keenest_62 : decode cX7_keenest 62 = .ok (.aload_n 0, 1) := chkD_at okX7_keenest_0 35 rfl
theorem dX7_keenest_63 : decode cX7_keenest 63 = .ok (.iload 4, 2) := chkD_at okX7_keenest_0 36 rfl
theorem dX7_keenest_65 : decode cX7_keenest 65 = .ok (.aload_n 0, 1) := chkD_at okX7_keenest_0 37 rfl
theorem dX7_keenest_66 : decode cX7_keenest 66 = .ok (.iload_n 1, 1) := chkD_at okX7_keenest_0 38 rfl
theorem dX7_keenest_67 : decode cX7_keenest 67 = .ok (.invokevirtual 150, 3) := chkD_at okX7_keenest_0 39 rfl
theorem dX7_keenest_70 : decode cX7_keenest 70 = .ok (.invokevirtual 124, 3) := chkD_at okX7_keenest_0 40 rfl
theorem dX7_keenest_73 : decode cX7_keenest 73 = .ok (.istore 5, 2) := chkD_at okX7_keenest_0 41 rfl
theorem dX7_keenest_75 : decode cX7_keenest 75 = .ok (.iload_n 2, 1) := chkD_at okX7_keenest_0 42 rfl
theorem dX7_keenest_76 : decode cX7_keenest 76 = .ok (.iload 5, 2) := chkD_at okX7_keenest_0 43 rfl
theorem dX7_keenest_78 : decode cX7_keenest 78 = .ok (.ifCond .eq 7, 3) := chkD_at okX7_keenest_0 44 rfl
theorem dX7_keenest_81 : decode cX7_keenest 81 = .ok (.iconst 1, 1) := chkD_at okX7_keenest_0 45 rfl
theorem dX7_keenest_82 : decode cX7_keenest 82 = .ok (.goto 4, 3) := chkD_at okX7_keenest_0 46 rfl
theorem dX7_keenest_85 : decode cX7_keenest 85 = .ok (.iconst 0, 1) := chkD_at okX7_keenest_0 47 rfl
theorem dX7_keenest_86 : decode cX7_keenest 86 = .ok (.iadd, 1) := chkD_at okX7_keenest_0 48 rfl
theorem dX7_keenest_87 : decode cX7_keenest 87 = .ok (.istore_n 2, 1) := chkD_at okX7_keenest_0 49 rfl
theorem dX7_keenest_88 : decode cX7_keenest 88 = .ok (.iload 5, 2) := chkD_at okX7_keenest_0 50 rfl
theorem dX7_keenest_90 : decode cX7_keenest 90 = .ok (.ifCond .eq 8, 3) := chkD_at okX7_keenest_0 51 rfl
theorem dX7_keenest_93 : decode cX7_keenest 93 = .ok (.iload 4, 2) := chkD_at okX7_keenest_0 52 rfl
theorem dX7_keenest_95 : decode cX7_keenest 95 = .ok (.goto 4, 3) := chkD_at okX7_keenest_0 53 rfl
theorem dX7_keenest_98 : decode cX7_keenest 98 = .ok (.iload_n 3, 1) := chkD_at okX7_keenest_0 54 rfl
theorem dX7_keenest_99 : decode cX7_keenest 99 = .ok (.istore_n 3, 1) := chkD_at okX7_keenest_0 55 rfl
theorem dX7_keenest_100 : decode cX7_keenest 100 = .ok (.iinc 4 1, 3) := chkD_at okX7_keenest_0 56 rfl
theorem dX7_keenest_103 : decode cX7_keenest 103 = .ok (.goto (-50), 3) := chkD_at okX7_keenest_0 57 rfl
theorem dX7_keenest_106 : decode cX7_keenest 106 = .ok (.aload_n 0, 1) := chkD_at okX7_keenest_0 58 rfl
theorem dX7_keenest_107 : decode cX7_keenest 107 = .ok (.getfield 41, 3) := chkD_at okX7_keenest_0 59 rfl
theorem dX7_keenest_110 : decode cX7_keenest 110 = .ok (.iload_n 3, 1) := chkD_at okX7_keenest_0 60 rfl
theorem dX7_keenest_111 : decode cX7_keenest 111 = .ok (.dup2, 1) := chkD_at okX7_keenest_0 61 rfl
theorem dX7_keenest_112 : decode cX7_keenest 112 = .ok (.iaload, 1) := chkD_at okX7_keenest_0 62 rfl
theorem dX7_keenest_113 : decode cX7_keenest 113 = .ok (.iload_n 2, 1) := chkD_at okX7_keenest_0 63 rfl
theorem dX7_keenest_114 : decode cX7_keenest 114 = .ok (.iconst 1, 1) := chkD_at okX7_keenest_0 64 rfl
theorem dX7_keenest_115 : decode cX7_keenest 115 = .ok (.if_icmp .ne 7, 3) := chkD_at okX7_keenest_0 65 rfl
theorem dX7_keenest_118 : decode cX7_keenest 118 = .ok (.iconst 1, 1) := chkD_at okX7_keenest_0 66 rfl
theorem dX7_keenest_119 : decode cX7_keenest 119 = .ok (.goto 4, 3) := chkD_at okX7_keenest_0 67 rfl
theorem dX7_keenest_122 : decode cX7_keenest 122 = .ok (.iconst 0, 1) := chkD_at okX7_keenest_0 68 rfl
theorem dX7_keenest_123 : decode cX7_keenest 123 = .ok (.iadd, 1) := chkD_at okX7_keenest_0 69 rfl
theorem dX7_keenest_124 : decode cX7_keenest 124 = .ok (.iastore, 1) := chkD_at okX7_keenest_0 70 rfl
theorem dX7_keenest_125 : decode cX7_keenest 125 = .ok (.iinc 1 1, 3) := chkD_at okX7_keenest_0 71 rfl
theorem dX7_keenest_128 : decode cX7_keenest 128 = .ok (.goto (-89), 3) := chkD_at okX7_keenest_0 72 rfl
theorem dX7_keenest_131 : decode cX7_keenest 131 = .ok (.iconst 0, 1) := chkD_at okX7_keenest_0 73 rfl
theorem dX7_keenest_132 : decode cX7_keenest 132 = .ok (.istore_n 1, 1) := chkD_at okX7_keenest_0 74 rfl
theorem dX7_keenest_133 : decode cX7_keenest 133 = .ok (.iconst 1, 1) := chkD_at okX7_keenest_0 75 rfl
theorem dX7_keenest_134 : decode cX7_keenest 134 = .ok (.istore_n 2, 1) := chkD_at okX7_keenest_0 76 rfl
theorem dX7_keenest_135 : decode cX7_keenest 135 = .ok (.iload_n 2, 1) := chkD_at okX7_keenest_0 77 rfl
theorem dX7_keenest_136 : decode cX7_keenest 136 = .ok (.aload_n 0, 1) := chkD_at okX7_keenest_0 78 rfl
theorem dX7_keenest_137 : decode cX7_keenest 137 = .ok (.getfield 93, 3) := chkD_at okX7_keenest_0 79 rfl
theorem okX7_keenest_1 : chkD cX7_keenest [(140, .if_icmp .ge 30, 3), (143, .aload_n 0, 1), (144, .getfield 41, 3), (147, .iload_n 2, 1), (148, .iaload, 1), (149, .aload_n 0, 1), (150, .getfield 41, 3), (153, .iload_n 1, 1), (154, .iaload, 1), (155, .if_icmp .le 7, 3), (158, .iload_n 2, 1), (159, .goto 4, 3), (162, .iload_n 1, 1), (163, .istore_n 1, 1), (164, .iinc 2 1, 3), (167, .goto (-32), 3), (170, .iload_n 1, 1), (171, .ireturn, 1)] = true := by decide +kernel
theorem dX7_keenest_140 : decode cX7_keenest 140 = .ok (.if_icmp .ge 30, 3) := chkD_at okX7_keenest_1 0 rfl
theorem dX7_keenest_143 : decode cX7_keenest 143 = .ok (.aload_n 0, 1) := chkD_at okX7_keenest_1 1 rfl
theorem dX7_keenest_144 : decode cX7_keenest 144 = .ok (.getfield 41, 3) := chkD_at okX7_keenest_1 2 rfl
theorem dX7_keenest_147 : decode cX7_keenest 147 = .ok (.iload_n 2, 1) := chkD_at okX7_keenest_1 3 rfl
theorem dX7_keenest_148 : decode cX7_keenest 148 = .ok (.iaload, 1) := chkD_at okX7_keenest_1 4 rfl
theorem dX7_keenest_149 : decode cX7_keenest 149 = .ok (.aload_n 0, 1) := chkD_at okX7_keenest_1 5 rfl
theorem dX7_keenest_150 : decode cX7_keenest 150 = .ok (.getfield 41, 3) := chkD_at okX7_keenest_1 6 rfl
theorem dX7_keenest_153 : decode cX7_keenest 153 = .ok (.iload_n 1, 1) := chkD_at okX7_keenest_1 7 rfl
theorem dX7_keenest_154 : decode cX7_keenest 154 = .ok (.iaload, 1) := chkD_at okX7_keenest_1 8 rfl
theorem dX7_keenest_155 : decode cX7_keenest 155 = .ok (.if_icmp .le 7, 3) := chkD_at okX7_keenest_1 9 rfl
theorem dX7_keenest_158 : decode cX7_keenest 158 = .ok (.iload_n 2, 1) := chkD_at okX7_keenest_1 10 rfl
theorem dX7_keenest_159 : decode cX7_keenest 159 = .ok (.goto 4, 3) := chkD_at okX7_keenest_1 11 rfl
theorem dX7_keenest_162 : decode cX7_keenest 162 = .ok (.iload_n 1, 1) := chkD_at okX7_keenest_1 12 rfl
theorem dX7_keenest_163 : decode cX7_keenest 163 = .ok (.istore_n 1, 1) := chkD_at okX7_keenest_1 13 rfl
theorem dX7_keenest_164 : decode cX7_keenest 164 = .ok (.iinc 2 1, 3) := chkD_at okX7_keenest_1 14 rfl
theorem dX7_keenest_167 : decode cX7_keenest 167 = .ok (.goto (-32), 3) := chkD_at okX7_keenest_1 15 rfl
theorem dX7_keenest_170 : decode cX7_keenest 170 = .ok (.iload_n 1, 1) := chkD_at okX7_keenest_1 16 rfl
theorem dX7_keenest_171 : decode cX7_keenest 171 = .ok (.ireturn, 1) := chkD_at okX7_keenest_1 17 rfl
theorem okX7_wouldBe_0 : chkD cX7_wouldBe [(0, .iload_n 1, 1), (1, .iconst 0, 1), (2, .iconst 1, 1), (3, .invokestatic 86, 3), (6, .ifCond .ne 10, 3), (9, .aload_n 0, 1), (10, .ldc 85, 2), (12, .invokevirtual 104, 3), (15, .ireturn, 1), (16, .aload_n 0, 1), (17, .invokevirtual 180, 3), (20, .istore_n 2, 1), (21, .aload_n 0, 1), (22, .getfield 16, 3), (25, .iload_n 1, 1), (26, .iconst 1, 1), (27, .aload_n 0, 1), (28, .getfield 16, 3), (31, .iload_n 1, 1), (32, .iaload, 1), (33, .isub, 1), (34, .iastore, 1), (35, .aload_n 0, 1), (36, .invokevirtual 180, 3), (39, .istore_n 3, 1), (40, .aload_n 0, 1), (41, .getfield 16, 3), (44, .iload_n 1, 1), (45, .iconst 1, 1), (46, .aload_n 0, 1), (47, .getfield 16, 3), (50, .iload_n 1, 1), (51, .iaload, 1), (52, .isub, 1), (53, .iastore, 1), (54, .iload_n 3, 1), (55, .iload_n 2, 1), (56, .isub, 1), (57, .ireturn, 1)] = true := by decide +kernel
theorem dX7_wouldBe_0 : decode cX7_wouldBe 0 = .ok (.iload_n 1, 1) := chkD_at okX7_wouldBe_0 0 rfl
theorem dX7_wouldBe_1 : decode cX7_wouldBe 1 = .ok (.iconst 0, 1) := chkD_at okX7_wouldBe_0 1 rfl
theorem dX7_wouldBe_2 : decode cX7_wouldBe 2 = .ok (.iconst 1, 1) := chkD_at okX7_wouldBe_0 2 rfl
theorem dX7_wouldBe_3 : decode cX7_wouldBe 3 = .ok (.invokestatic 86, 3) := chkD_at okX7_wouldBe_0 3 rfl
theorem dX7_wouldBe_6 : decode cX7_wouldBe 6 = .ok (.ifCond .ne 10, 3) := chkD_at okX7_wouldBe_0 4 rfl
theorem dX7_wouldBe_9 : decode cX7_wouldBe 9 = .ok (.aload_n 0, 1) := chkD_at okX7_wouldBe_0 5 rfl
theorem dX7_wouldBe_10 : decode cX7_wouldBe 10 = .ok (.ldc 85, 2) := chkD_at okX7_wouldBe_0 6 rfl
theorem dX7_wouldBe_12 : decode cX7_wouldBe 12 = .ok (.invokevirtual 104, 3) := chkD_at okX7_wouldBe_0 7 rfl
theorem dX7_wouldBe_15 : decode cX7_wouldBe 15 = .ok (.ireturn, 1) := chkD_at okX7_wouldBe_0 8 rfl
theorem dX7_wouldBe_16 : decode cX7_wouldBe 16 = .ok (.aload_n 0, 1) := chkD_at okX7_wouldBe_0 9 rfl
theorem dX7_wouldBe_17 : decode cX7_wouldBe 17 = .ok (.invokevirtual 180, 3) := chkD_at okX7_wouldBe_0 10 rfl
theorem dX7_wouldBe_20 : decode cX7_wouldBe 20 = .ok (.istore_n 2, 1) := chkD_at okX7_wouldBe_0 11 rfl
theorem dX7_wouldBe_21 : decode cX7_wouldBe 21 = .ok (.aload_n 0, 1) := chkD_at okX7_wouldBe_0 12 rfl
theorem dX7_wouldBe_22 : decode cX7_wouldBe 22 = .ok (.getfield 16, 3) := chkD_at okX7_wouldBe_0 13 rfl
theorem dX7_wouldBe_25 : decode cX7_wouldBe 25 = .ok (.iload_n 1, 1) := chkD_at okX7_wouldBe_0 14 rfl
theorem dX7_wouldBe_26 : decode cX7_wouldBe 26 = .ok (.iconst 1, 1) := chkD_at okX7_wouldBe_0 15 rfl
theorem dX7_wouldBe_27 : decode cX7_wouldBe 27 = .ok (.aload_n 0, 1) := chkD_at okX7_wouldBe_0 16 rfl
theorem dX7_wouldBe_28 : decode cX7_wouldBe 28 = .ok (.getfield 16, 3) := chkD_at okX7_wouldBe_0 17 rfl
theorem dX7_wouldBe_31 : decode cX7_wouldBe 31 = .ok (.iload_n 1, 1) := chkD_at okX7_wouldBe_0 18 rfl
theorem dX7_wouldBe_32 : decode cX7_wouldBe 32 = .ok (.iaload, 1) := chkD_at okX7_wouldBe_0 19 rfl
theorem dX7_wouldBe_33 : decode cX7_wouldBe 33 = .ok (.isub, 1) := chkD_at okX7_wouldBe_0 20 rfl
theorem dX7_wouldBe_34 : decode cX7_wouldBe 34 = .ok (.iastore, 1) := chkD_at okX7_wouldBe_0 21 rfl
theorem dX7_wouldBe_35 : decode cX7_wouldBe 35 = .ok (.aload_n 0, 1) := chkD_at okX7_wouldBe_0 22 rfl
theorem dX7_wouldBe_36 : decode cX7_wouldBe 36 = .ok (.invokevirtual 180, 3) := chkD_at okX7_wouldBe_0 23 rfl
theorem dX7_wouldBe_39 : decode cX7_wouldBe 39 = .ok (.istore_n 3, 1) := chkD_at okX7_wouldBe_0 24 rfl
theorem dX7_wouldBe_40 : decode cX7_wouldBe 40 = .ok (.aload_n 0, 1) := chkD_at okX7_wouldBe_0 25 rfl
theorem dX7_wouldBe_41 : decode cX7_wouldBe 41 = .ok (.getfield 16, 3) := chkD_at okX7_wouldBe_0 26 rfl
theorem dX7_wouldBe_44 : decode cX7_wouldBe 44 = .ok (.iload_n 1, 1) := chkD_at okX7_wouldBe_0 27 rfl
theorem dX7_wouldBe_45 : decode cX7_wouldBe 45 = .ok (.iconst 1, 1) := chkD_at okX7_wouldBe_0 28 rfl
theorem dX7_wouldBe_46 : decode cX7_wouldBe 46 = .ok (.aload_n 0, 1) := chkD_at okX7_wouldBe_0 29 rfl
theorem dX7_wouldBe_47 : decode cX7_wouldBe 47 = .ok (.getfield 16, 3) := chkD_at okX7_wouldBe_0 30 rfl
theorem dX7_wouldBe_50 : decode cX7_wouldBe 50 = .ok (.iload_n 1, 1) := chkD_at okX7_wouldBe_0 31 rfl
theorem dX7_wouldBe_51 : decode cX7_wouldBe 51 = .ok (.iaload, 1) := chkD_at okX7_wouldBe_0 32 rfl
theorem dX7_wouldBe_52 : decode cX7_wouldBe 52 = .ok (.isub, 1) := chkD_at okX7_wouldBe_0 33 rfl
theorem dX7_wouldBe_53 : decode cX7_wouldBe 53 = .ok (.iastore, 1) := chkD_at okX7_wouldBe_0 34 rfl
theorem dX7_wouldBe_54 : decode cX7_wouldBe 54 = .ok (.iload_n 3, 1) := chkD_at okX7_wouldBe_0 35 rfl
theorem dX7_wouldBe_55 : decode cX7_wouldBe 55 = .ok (.iload_n 2, 1) := chkD_at okX7_wouldBe_0 36 rfl
theorem dX7_wouldBe_56 : decode cX7_wouldBe 56 = .ok (.isub, 1) := chkD_at okX7_wouldBe_0 37 rfl
theorem dX7_wouldBe_57 : decode cX7_wouldBe 57 = .ok (.ireturn, 1) := chkD_at okX7_wouldBe_0 38 rfl
theorem okX7_bestPlace_0 : chkD cX7_bestPlace [(0, .iconst (-1), 1), (1, .istore_n 1, 1), (2, .iconst 0, 1), (3, .istore_n 2, 1), (4, .iconst 0, 1), (5, .istore_n 3, 1), (6, .iload_n 3, 1), (7, .bipush 92, 2), (9, .if_icmp .ge 104, 3), (12, .bipush 20, 2), (14, .iload_n 3, 1), (15, .imul, 1), (16, .istore 4, 2), (18, .aload_n 0, 1), (19, .aload_n 0, 1), (20, .iload 4, 2), (22, .invokevirtual 150, 3), (25, .invokevirtual 137, 3), (28, .istore 5, 2), (30, .iload 4, 2), (32, .istore 6, 2), (34, .iload 6, 2), (36, .iload 4, 2), (38, .bipush 20, 2), (40, .iadd, 1), (41, .if_icmp .ge 66, 3), (44, .iload 5, 2), (46, .ifCond .eq 61, 3), (49, .aload_n 0, 1), (50, .getfield 37, 3), (53, .iload 6, 2), (55, .baload, 1), (56, .ifCond .eq 7, 3), (59, .iconst 0, 1), (60, .goto 13, 3), (63, .aload_n 0, 1), (64, .aload_n 0, 1), (65, .iload 6, 2), (67, .invokevirtual 150, 3), (70, .invokevirtual 134, 3), (73, .istore 7, 2), (75, .aload_n 0, 1), (76, .getfield 37, 3), (79, .iload 6, 2), (81, .baload, 1), (82, .ifCond .ne 19, 3), (85, .iload_n 1, 1), (86, .ifCond .lt 9, 3), (89, .iload 7, 2), (91, .iload_n 2, 1), (92, .if_icmp .le 9, 3), (95, .iload 6, 2), (97, .istore_n 1, 1), (98, .iload 7, 2), (100, .istore_n 2, 1), (101, .iinc 6 1, 3), (104, .goto (-70), 3), (107, .iinc 3 1, 3), (110, .goto (-104), 3), (113, .iload_n 1, 1), (114, .ireturn, 1)] = true := by decide +kernel
theorem dX7_bestPlace_0 : decode cX7_bestPlace 0 = .ok (.iconst (-1), 1) := chkD_at okX7_bestPlace_0 0 rfl
theorem dX7_bestPlace_1 : decode cX7_bestPlace 1 = .ok (.istore_n 1, 1) := chkD_at okX7_bestPlace_0 1 rfl
theorem dX7_bestPlace_2 : decode cX7_bestPlace 2 = .ok (.iconst 0, 1) := chkD_at okX7_bestPlace_0 2 rfl
theorem dX7_bestPlace_3 : decode cX7_bestPlace 3 = .ok (.istore_n 2, 1) := chkD_at okX7_bestPlace_0 3 rfl
theorem dX7_bestPlace_4 : decode cX7_bestPlace 4 = .ok (.iconst 0, 1) := chkD_at okX7_bestPlace_0 4 rfl
theorem dX7_bestPlace_5 : decode cX7_bestPlace 5 = .ok (.istore_n 3, 1) := chkD_at okX7_bestPlace_0 5 rfl
theorem dX7_bestPlace_6 : decode cX7_bestPlace 6 = .ok (.iload_n 3, 1) := chkD_at okX7_bestPlace_0 6 rfl
theorem dX7_bestPlace_7 : decode cX7_bestPlace 7 = .ok (.bipush 92, 2) := chkD_at okX7_bestPlace_0 7 rfl
theorem dX7_bestPlace_9 : decode cX7_bestPlace 9 = .ok (.if_icmp .ge 104, 3) := chkD_at okX7_bestPlace_0 8 rfl
theorem dX7_bestPlace_12 : decode cX7_bestPlace 12 = .ok (.bipush 20, 2) := chkD_at okX7_bestPlace_0 9 rfl
theorem dX7_bestPlace_14 : decode cX7_bestPlace 14 = .ok (.iload_n 3, 1) := chkD_at okX7_bestPlace_0 10 rfl
theorem dX7_bestPlace_15 : decode cX7_bestPlace 15 = .ok (.imul, 1) := chkD_at okX7_bestPlace_0 11 rfl
theorem dX7_bestPlace_16 : decode cX7_bestPlace 16 = .ok (.istore 4, 2) := chkD_at okX7_bestPlace_0 12 rfl
theorem dX7_bestPlace_18 : decode cX7_bestPlace 18 = .ok (.aload_n 0, 1) := chkD_at okX7_bestPlace_0 13 rfl
theorem dX7_bestPlace_19 : decode cX7_bestPlace 19 = .ok (.aload_n 0, 1) := chkD_at okX7_bestPlace_0 14 rfl
theorem dX7_bestPlace_20 : decode cX7_bestPlace 20 = .ok (.iload 4, 2) := chkD_at okX7_bestPlace_0 15 rfl
theorem dX7_bestPlace_22 : decode cX7_bestPlace 22 = .ok (.invokevirtual 150, 3) := chkD_at okX7_bestPlace_0 16 rfl
theorem dX7_bestPlace_25 : decode cX7_bestPlace 25 = .ok (.invokevirtual 137, 3) := chkD_at okX7_bestPlace_0 17 rfl
theorem dX7_bestPlace_28 : decode cX7_bestPlace 28 = .ok (.istore 5, 2) := chkD_at okX7_bestPlace_0 18 rfl
theorem dX7_bestPlace_30 : decode cX7_bestPlace 30 = .ok (.iload 4, 2) := chkD_at okX7_bestPlace_0 19 rfl
theorem dX7_bestPlace_32 : decode cX7_bestPlace 32 = .ok (.istore 6, 2) := chkD_at okX7_bestPlace_0 20 rfl
theorem dX7_bestPlace_34 : decode cX7_bestPlace 34 = .ok (.iload 6, 2) := chkD_at okX7_bestPlace_0 21 rfl
theorem dX7_bestPlace_36 : decode cX7_bestPlace 36 = .ok (.iload 4, 2) := chkD_at okX7_bestPlace_0 22 rfl
theorem dX7_bestPlace_38 : decode cX7_bestPlace 38 = .ok (.bipush 20, 2) := chkD_at okX7_bestPlace_0 23 rfl
theorem dX7_bestPlace_40 : decode cX7_bestPlace 40 = .ok (.iadd, 1) := chkD_at okX7_bestPlace_0 24 rfl
theorem dX7_bestPlace_41 : decode cX7_bestPlace 41 = .ok (.if_icmp .ge 66, 3) := chkD_at okX7_bestPlace_0 25 rfl
theorem dX7_bestPlace_44 : decode cX7_bestPlace 44 = .ok (.iload 5, 2) := chkD_at okX7_bestPlace_0 26 rfl
theorem dX7_bestPlace_46 : decode cX7_bestPlace 46 = .ok (.ifCond .eq 61, 3) := chkD_at okX7_bestPlace_0 27 rfl
theorem dX7_bestPlace_49 : decode cX7_bestPlace 49 = .ok (.aload_n 0, 1) := chkD_at okX7_bestPlace_0 28 rfl
theorem dX7_bestPlace_50 : decode cX7_bestPlace 50 = .ok (.getfield 37, 3) := chkD_at okX7_bestPlace_0 29 rfl
theorem dX7_bestPlace_53 : decode cX7_bestPlace 53 = .ok (.iload 6, 2) := chkD_at okX7_bestPlace_0 30 rfl
theorem dX7_bestPlace_55 : decode cX7_bestPlace 55 = .ok (.baload, 1) := chkD_at okX7_bestPlace_0 31 rfl
theorem dX7_bestPlace_56 : decode cX7_bestPlace 56 = .ok (.ifCond .eq 7, 3) := chkD_at okX7_bestPlace_0 32 rfl
theorem dX7_bestPlace_59 : decode cX7_bestPlace 59 = .ok (.iconst 0, 1) := chkD_at okX7_bestPlace_0 33 rfl
theorem dX7_bestPlace_60 : decode cX7_bestPlace 60 = .ok (.goto 13, 3) := chkD_at okX7_bestPlace_0 34 rfl
theorem dX7_bestPlace_63 : decode cX7_bestPlace 63 = .ok (.aload_n 0, 1) := chkD_at okX7_bestPlace_0 35 rfl
theorem dX7_bestPlace_64 : decode cX7_bestPlace 64 = .ok (.aload_n 0, 1) := chkD_at okX7_bestPlace_0 36 rfl
theorem dX7_bestPlace_65 : decode cX7_bestPlace 65 = .ok (.iload 6, 2) := chkD_at okX7_bestPlace_0 37 rfl
theorem dX7_bestPlace_67 : decode cX7_bestPlace 67 = .ok (.invokevirtual 150, 3) := chkD_at okX7_bestPlace_0 38 rfl
theorem dX7_bestPlace_70 : decode cX7_bestPlace 70 = .ok (.invokevirtual 134, 3) := chkD_at okX7_bestPlace_0 39 rfl
theorem dX7_bestPlace_73 : decode cX7_bestPlace 73 = .ok (.istore 7, 2) := chkD_at okX7_bestPlace_0 40 rfl
theorem dX7_bestPlace_75 : decode cX7_bestPlace 75 = .ok (.aload_n 0, 1) := chkD_at okX7_bestPlace_0 41 rfl
theorem dX7_bestPlace_76 : decode cX7_bestPlace 76 = .ok (.getfield 37, 3) := chkD_at okX7_bestPlace_0 42 rfl
theorem dX7_bestPlace_79 : decode cX7_bestPlace 79 = .ok (.iload 6, 2) := chkD_at okX7_bestPlace_0 43 rfl
theorem dX7_bestPlace_81 : decode cX7_bestPlace 81 = .ok (.baload, 1) := chkD_at okX7_bestPlace_0 44 rfl
theorem dX7_bestPlace_82 : decode cX7_bestPlace 82 = .ok (.ifCond .ne 19, 3) := chkD_at okX7_bestPlace_0 45 rfl
theorem dX7_bestPlace_85 : decode cX7_bestPlace 85 = .ok (.iload_n 1, 1) := chkD_at okX7_bestPlace_0 46 rfl
theorem dX7_bestPlace_86 : decode cX7_bestPlace 86 = .ok (.ifCond .lt 9, 3) := chkD_at okX7_bestPlace_0 47 rfl
theorem dX7_bestPlace_89 : decode cX7_bestPlace 89 = .ok (.iload 7, 2) := chkD_at okX7_bestPlace_0 48 rfl
theorem dX7_bestPlace_91 : decode cX7_bestPlace 91 = .ok (.iload_n 2, 1) := chkD_at okX7_bestPlace_0 49 rfl
theorem dX7_bestPlace_92 : decode cX7_bestPlace 92 = .ok (.if_icmp .le 9, 3) := chkD_at okX7_bestPlace_0 50 rfl
theorem dX7_bestPlace_95 : decode cX7_bestPlace 95 = .ok (.iload 6, 2) := chkD_at okX7_bestPlace_0 51 rfl
theorem dX7_bestPlace_97 : decode cX7_bestPlace 97 = .ok (.istore_n 1, 1) := chkD_at okX7_bestPlace_0 52 rfl
theorem dX7_bestPlace_98 : decode cX7_bestPlace 98 = .ok (.iload 7, 2) := chkD_at okX7_bestPlace_0 53 rfl
theorem dX7_bestPlace_100 : decode cX7_bestPlace 100 = .ok (.istore_n 2, 1) := chkD_at okX7_bestPlace_0 54 rfl
theorem dX7_bestPlace_101 : decode cX7_bestPlace 101 = .ok (.iinc 6 1, 3) := chkD_at okX7_bestPlace_0 55 rfl
theorem dX7_bestPlace_104 : decode cX7_bestPlace 104 = .ok (.goto (-70), 3) := chkD_at okX7_bestPlace_0 56 rfl
theorem dX7_bestPlace_107 : decode cX7_bestPlace 107 = .ok (.iinc 3 1, 3) := chkD_at okX7_bestPlace_0 57 rfl
theorem dX7_bestPlace_110 : decode cX7_bestPlace 110 = .ok (.goto (-104), 3) := chkD_at okX7_bestPlace_0 58 rfl
theorem dX7_bestPlace_113 : decode cX7_bestPlace 113 = .ok (.iload_n 1, 1) := chkD_at okX7_bestPlace_0 59 rfl
theorem dX7_bestPlace_114 : decode cX7_bestPlace 114 = .ok (.ireturn, 1) := chkD_at okX7_bestPlace_0 60 rfl
theorem okX7_best_0 : chkD cX7_best [(0, .aload_n 0, 1), (1, .invokevirtual 153, 3), (4, .aload_n 0, 1), (5, .invokevirtual 184, 3), (8, .istore_n 1, 1), (9, .iload_n 1, 1), (10, .ifCond .ge 12, 3), (13, .aload_n 0, 1), (14, .ldc 127, 2), (16, .invokevirtual 104, 3), (19, .goto 8, 3), (22, .aload_n 0, 1), (23, .iload_n 1, 1), (24, .invokevirtual 150, 3), (27, .ireturn, 1)] = true := by decide +kernel
theorem dX7_best_0 : decode cX7_best 0 = .ok (.aload_n 0, 1) := chkD_at okX7_best_0 0 rfl
theorem dX7_best_1 : decode cX7_best 1 = .ok (.invokevirtual 153, 3) := chkD_at okX7_best_0 1 rfl
theorem dX7_best_4 : decode cX7_best 4 = .ok (.aload_n 0, 1) := chkD_at okX7_best_0 2 rfl
theorem dX7_best_5 : decode cX7_best 5 = .ok (.invokevirtual 184, 3) := chkD_at okX7_best_0 3 rfl
theorem dX7_best_8 : decode cX7_best 8 = .ok (.istore_n 1, 1) := chkD_at okX7_best_0 4 rfl
theorem dX7_best_9 : decode cX7_best 9 = .ok (.iload_n 1, 1) := chkD_at okX7_best_0 5 rfl
theorem dX7_best_10 : decode cX7_best 10 = .ok (.ifCond .ge 12, 3) := chkD_at okX7_best_0 6 rfl
theorem dX7_best_13 : decode cX7_best 13 = .ok (.aload_n 0, 1) := chkD_at okX7_best_0 7 rfl
theorem dX7_best_14 : decode cX7_best 14 = .ok (.ldc 127, 2) := chkD_at okX7_best_0 8 rfl
theorem dX7_best_16 : decode cX7_best 16 = .ok (.invokevirtual 104, 3) := chkD_at okX7_best_0 9 rfl
theorem dX7_best_19 : decode cX7_best 19 = .ok (.goto 8, 3) := chkD_at okX7_best_0 10 rfl
theorem dX7_best_22 : decode cX7_best 22 = .ok (.aload_n 0, 1) := chkD_at okX7_best_0 11 rfl
theorem dX7_best_23 : decode cX7_best 23 = .ok (.iload_n 1, 1) := chkD_at okX7_best_0 12 rfl
theorem dX7_best_24 : decode cX7_best 24 = .ok (.invokevirtual 150, 3) := chkD_at okX7_best_0 13 rfl
theorem dX7_best_27 : decode cX7_best 27 = .ok (.ireturn, 1) := chkD_at okX7_best_0 14 rfl
theorem okX7_eats_0 : chkD cX7_eats [(0, .aload_n 0, 1), (1, .iload_n 1, 1), (2, .iload_n 2, 1), (3, .iload_n 3, 1), (4, .invokevirtual 166, 3), (7, .iconst 0, 1), (8, .istore 4, 2), (10, .iload 4, 2), (12, .bipush 8, 2), (14, .if_icmp .ge 36, 3), (17, .aload_n 0, 1), (18, .getfield 7, 3), (21, .iload 4, 2), (23, .dup2, 1), (24, .iaload, 1), (25, .iload_n 2, 1), (26, .invokestatic 90, 3), (29, .iload 4, 2), (31, .invokestatic 120, 3), (34, .ifCond .eq 7, 3), (37, .iconst 1, 1), (38, .goto 4, 3), (41, .iconst 0, 1), (42, .isub, 1), (43, .iastore, 1), (44, .iinc 4 1, 3), (47, .goto (-37), 3), (50, .return_, 1)] = true := by decide +kernel
theorem dX7_eats_0 : decode cX7_eats 0 = .ok (.aload_n 0, 1) := chkD_at okX7_eats_0 0 rfl
theorem dX7_eats_1 : decode cX7_eats 1 = .ok (.iload_n 1, 1) := chkD_at okX7_eats_0 1 rfl
theorem dX7_eats_2 : decode cX7_eats 2 = .ok (.iload_n 2, 1) := chkD_at okX7_eats_0 2 rfl
theorem dX7_eats_3 : decode cX7_eats 3 = .ok (.iload_n 3, 1) := chkD_at okX7_eats_0 3 rfl
theorem dX7_eats_4 : decode cX7_eats 4 = .ok (.invokevirtual 166, 3) := chkD_at okX7_eats_0 4 rfl
theorem dX7_eats_7 : decode cX7_eats 7 = .ok (.iconst 0, 1) := chkD_at okX7_eats_0 5 rfl
theorem dX7_eats_8 : decode cX7_eats 8 = .ok (.istore 4, 2) := chkD_at okX7_eats_0 6 rfl
theorem dX7_eats_10 : decode cX7_eats 10 = .ok (.iload 4, 2) := chkD_at okX7_eats_0 7 rfl
theorem dX7_eats_12 : decode cX7_eats 12 = .ok (.bipush 8, 2) := chkD_at okX7_eats_0 8 rfl
theorem dX7_eats_14 : decode cX7_eats 14 = .ok (.if_icmp .ge 36, 3) := chkD_at okX7_eats_0 9 rfl
theorem dX7_eats_17 : decode cX7_eats 17 = .ok (.aload_n 0, 1) := chkD_at okX7_eats_0 10 rfl
theorem dX7_eats_18 : decode cX7_eats 18 = .ok (.getfield 7, 3) := chkD_at okX7_eats_0 11 rfl
theorem dX7_eats_21 : decode cX7_eats 21 = .ok (.iload 4, 2) := chkD_at okX7_eats_0 12 rfl
theorem dX7_eats_23 : decode cX7_eats 23 = .ok (.dup2, 1) := chkD_at okX7_eats_0 13 rfl
theorem dX7_eats_24 : decode cX7_eats 24 = .ok (.iaload, 1) := chkD_at okX7_eats_0 14 rfl
theorem dX7_eats_25 : decode cX7_eats 25 = .ok (.iload_n 2, 1) := chkD_at okX7_eats_0 15 rfl
theorem dX7_eats_26 : decode cX7_eats 26 = .ok (.invokestatic 90, 3) := chkD_at okX7_eats_0 16 rfl
theorem dX7_eats_29 : decode cX7_eats 29 = .ok (.iload 4, 2) := chkD_at okX7_eats_0 17 rfl
theorem dX7_eats_31 : decode cX7_eats 31 = .ok (.invokestatic 120, 3) := chkD_at okX7_eats_0 18 rfl
theorem dX7_eats_34 : decode cX7_eats 34 = .ok (.ifCond .eq 7, 3) := chkD_at okX7_eats_0 19 rfl
theorem dX7_eats_37 : decode cX7_eats 37 = .ok (.iconst 1, 1) := chkD_at okX7_eats_0 20 rfl
theorem dX7_eats_38 : decode cX7_eats 38 = .ok (.goto 4, 3) := chkD_at okX7_eats_0 21 rfl
theorem dX7_eats_41 : decode cX7_eats 41 = .ok (.iconst 0, 1) := chkD_at okX7_eats_0 22 rfl
theorem dX7_eats_42 : decode cX7_eats 42 = .ok (.isub, 1) := chkD_at okX7_eats_0 23 rfl
theorem dX7_eats_43 : decode cX7_eats 43 = .ok (.iastore, 1) := chkD_at okX7_eats_0 24 rfl
theorem dX7_eats_44 : decode cX7_eats 44 = .ok (.iinc 4 1, 3) := chkD_at okX7_eats_0 25 rfl
theorem dX7_eats_47 : decode cX7_eats 47 = .ok (.goto (-37), 3) := chkD_at okX7_eats_0 26 rfl
theorem dX7_eats_50 : decode cX7_eats 50 = .ok (.return_, 1) := chkD_at okX7_eats_0 27 rfl
theorem okX7_serve_0 : chkD cX7_serve [(0, .iload_n 1, 1), (1, .invokestatic 159, 3), (4, .ifCond .eq 11, 3), (7, .aload_n 0, 1), (8, .iload_n 2, 1), (9, .invokevirtual 131, 3), (12, .ifCond .ne 10, 3), (15, .aload_n 0, 1), (16, .ldc 85, 2), (18, .invokevirtual 104, 3), (21, .ireturn, 1), (22, .aload_n 0, 1), (23, .iload_n 2, 1), (24, .invokevirtual 137, 3), (27, .ifCond .eq 26, 3), (30, .iload_n 1, 1), (31, .iconst 2, 1), (32, .if_icmp .eq 11, 3), (35, .aload_n 0, 1), (36, .iload_n 2, 1), (37, .invokevirtual 140, 3), (40, .ifCond .eq 13, 3), (43, .aload_n 0, 1), (44, .getfield 163, 3), (47, .sipush 9999, 3), (50, .if_icmp .ne 10, 3), (53, .aload_n 0, 1), (54, .ldc 187, 2), (56, .invokevirtual 104, 3), (59, .ireturn, 1), (60, .aload_n 0, 1), (61, .getfield 93, 3), (64, .bipush 30, 2), (66, .if_icmp .ne 10, 3), (69, .aload_n 0, 1), (70, .ldc 162, 2), (72, .invokevirtual 104, 3), (75, .ireturn, 1), (76, .aload_n 0, 1), (77, .iload_n 1, 1), (78, .iload_n 2, 1), (79, .aload_n 0, 1), (80, .getfield 163, 3), (83, .invokevirtual 188, 3), (86, .aload_n 0, 1), (87, .dup, 1), (88, .getfield 163, 3), (91, .iconst 1, 1), (92, .iadd, 1), (93, .putfield 163, 3), (96, .aload_n 0, 1), (97, .getfield 93, 3), (100, .iconst 1, 1), (101, .isub, 1), (102, .ireturn, 1)] = true := by decide +kernel
theorem dX7_serve_0 : decode cX7_serve 0 = .ok (.iload_n 1, 1) := chkD_at okX7_serve_0 0 rfl
theorem dX7_serve_1 : decode cX7_serve 1 = .ok (.invokestatic 159, 3) := chkD_at okX7_serve_0 1 rfl
theorem dX7_serve_4 : decode cX7_serve 4 = .ok (.ifCond .eq 11, 3) := chkD_at okX7_serve_0 2 rfl
theorem dX7_serve_7 : decode cX7_serve 7 = .ok (.aload_n 0, 1) := chkD_at okX7_serve_0 3 rfl
theorem dX7_serve_8 : decode cX7_serve 8 = .ok (.iload_n 2, 1) := chkD_at okX7_serve_0 4 rfl
theorem dX7_serve_9 : decode cX7_serve 9 = .ok (.invokevirtual 131, 3) := chkD_at okX7_serve_0 5 rfl
theorem dX7_serve_12 : decode cX7_serve 12 = .ok (.ifCond .ne 10, 3) := chkD_at okX7_serve_0 6 rfl
theorem dX7_serve_15 : decode cX7_serve 15 = .ok (.aload_n 0, 1) := chkD_at okX7_serve_0 7 rfl
theorem dX7_serve_16 : decode cX7_serve 16 = .ok (.ldc 85, 2) := chkD_at okX7_serve_0 8 rfl
theorem dX7_serve_18 : decode cX7_serve 18 = .ok (.invokevirtual 104, 3) := chkD_at okX7_serve_0 9 rfl
theorem dX7_serve_21 : decode cX7_serve 21 = .ok (.ireturn, 1) := chkD_at okX7_serve_0 10 rfl
theorem dX7_serve_22 : decode cX7_serve 22 = .ok (.aload_n 0, 1) := chkD_at okX7_serve_0 11 rfl
theorem dX7_serve_23 : decode cX7_serve 23 = .ok (.iload_n 2, 1) := chkD_at okX7_serve_0 12 rfl
theorem dX7_serve_24 : decode cX7_serve 24 = .ok (.invokevirtual 137, 3) := chkD_at okX7_serve_0 13 rfl
theorem dX7_serve_27 : decode cX7_serve 27 = .ok (.ifCond .eq 26, 3) := chkD_at okX7_serve_0 14 rfl
theorem dX7_serve_30 : decode cX7_serve 30 = .ok (.iload_n 1, 1) := chkD_at okX7_serve_0 15 rfl
theorem dX7_serve_31 : decode cX7_serve 31 = .ok (.iconst 2, 1) := chkD_at okX7_serve_0 16 rfl
theorem dX7_serve_32 : decode cX7_serve 32 = .ok (.if_icmp .eq 11, 3) := chkD_at okX7_serve_0 17 rfl
theorem dX7_serve_35 : decode cX7_serve 35 = .ok (.aload_n 0, 1) := chkD_at okX7_serve_0 18 rfl
theorem dX7_serve_36 : decode cX7_serve 36 = .ok (.iload_n 2, 1) := chkD_at okX7_serve_0 19 rfl
theorem dX7_serve_37 : decode cX7_serve 37 = .ok (.invokevirtual 140, 3) := chkD_at okX7_serve_0 20 rfl
theorem dX7_serve_40 : decode cX7_serve 40 = .ok (.ifCond .eq 13, 3) := chkD_at okX7_serve_0 21 rfl
theorem dX7_serve_43 : decode cX7_serve 43 = .ok (.aload_n 0, 1) := chkD_at okX7_serve_0 22 rfl
theorem dX7_serve_44 : decode cX7_serve 44 = .ok (.getfield 163, 3) := chkD_at okX7_serve_0 23 rfl
theorem dX7_serve_47 : decode cX7_serve 47 = .ok (.sipush 9999, 3) := chkD_at okX7_serve_0 24 rfl
theorem dX7_serve_50 : decode cX7_serve 50 = .ok (.if_icmp .ne 10, 3) := chkD_at okX7_serve_0 25 rfl
theorem dX7_serve_53 : decode cX7_serve 53 = .ok (.aload_n 0, 1) := chkD_at okX7_serve_0 26 rfl
theorem dX7_serve_54 : decode cX7_serve 54 = .ok (.ldc 187, 2) := chkD_at okX7_serve_0 27 rfl
theorem dX7_serve_56 : decode cX7_serve 56 = .ok (.invokevirtual 104, 3) := chkD_at okX7_serve_0 28 rfl
theorem dX7_serve_59 : decode cX7_serve 59 = .ok (.ireturn, 1) := chkD_at okX7_serve_0 29 rfl
theorem dX7_serve_60 : decode cX7_serve 60 = .ok (.aload_n 0, 1) := chkD_at okX7_serve_0 30 rfl
theorem dX7_serve_61 : decode cX7_serve 61 = .ok (.getfield 93, 3) := chkD_at okX7_serve_0 31 rfl
theorem dX7_serve_64 : decode cX7_serve 64 = .ok (.bipush 30, 2) := chkD_at okX7_serve_0 32 rfl
theorem dX7_serve_66 : decode cX7_serve 66 = .ok (.if_icmp .ne 10, 3) := chkD_at okX7_serve_0 33 rfl
theorem dX7_serve_69 : decode cX7_serve 69 = .ok (.aload_n 0, 1) := chkD_at okX7_serve_0 34 rfl
theorem dX7_serve_70 : decode cX7_serve 70 = .ok (.ldc 162, 2) := chkD_at okX7_serve_0 35 rfl
theorem dX7_serve_72 : decode cX7_serve 72 = .ok (.invokevirtual 104, 3) := chkD_at okX7_serve_0 36 rfl
theorem dX7_serve_75 : decode cX7_serve 75 = .ok (.ireturn, 1) := chkD_at okX7_serve_0 37 rfl
theorem dX7_serve_76 : decode cX7_serve 76 = .ok (.aload_n 0, 1) := chkD_at okX7_serve_0 38 rfl
theorem dX7_serve_77 : decode cX7_serve 77 = .ok (.iload_n 1, 1) := chkD_at okX7_serve_0 39 rfl
theorem dX7_serve_78 : decode cX7_serve 78 = .ok (.iload_n 2, 1) := chkD_at okX7_serve_0 40 rfl
theorem dX7_serve_79 : decode cX7_serve 79 = .ok (.aload_n 0, 1) := chkD_at okX7_serve_0 41 rfl
theorem dX7_serve_80 : decode cX7_serve 80 = .ok (.getfield 163, 3) := chkD_at okX7_serve_0 42 rfl
theorem dX7_serve_83 : decode cX7_serve 83 = .ok (.invokevirtual 188, 3) := chkD_at okX7_serve_0 43 rfl
theorem dX7_serve_86 : decode cX7_serve 86 = .ok (.aload_n 0, 1) := chkD_at okX7_serve_0 44 rfl
theorem dX7_serve_87 : decode cX7_serve 87 = .ok (.dup, 1) := chkD_at okX7_serve_0 45 rfl
theorem dX7_serve_88 : decode cX7_serve 88 = .ok (.getfield 163, 3) := chkD_at okX7_serve_0 46 rfl
theorem dX7_serve_91 : decode cX7_serve 91 = .ok (.iconst 1, 1) := chkD_at okX7_serve_0 47 rfl
theorem dX7_serve_92 : decode cX7_serve 92 = .ok (.iadd, 1) := chkD_at okX7_serve_0 48 rfl
theorem dX7_serve_93 : decode cX7_serve 93 = .ok (.putfield 163, 3) := chkD_at okX7_serve_0 49 rfl
theorem dX7_serve_96 : decode cX7_serve 96 = .ok (.aload_n 0, 1) := chkD_at okX7_serve_0 50 rfl
theorem dX7_serve_97 : decode cX7_serve 97 = .ok (.getfield 93, 3) := chkD_at okX7_serve_0 51 rfl
theorem dX7_serve_100 : decode cX7_serve 100 = .ok (.iconst 1, 1) := chkD_at okX7_serve_0 52 rfl
theorem dX7_serve_101 : decode cX7_serve 101 = .ok (.isub, 1) := chkD_at okX7_serve_0 53 rfl
theorem dX7_serve_102 : decode cX7_serve 102 = .ok (.ireturn, 1) := chkD_at okX7_serve_0 54 rfl
theorem okX7_meals_0 : chkD cX7_meals [(0, .iload_n 1, 1), (1, .invokestatic 159, 3), (4, .ifCond .eq 13, 3), (7, .iload_n 2, 1), (8, .iconst 1, 1), (9, .bipush 30, 2), (11, .invokestatic 86, 3), (14, .ifCond .ne 10, 3), (17, .aload_n 0, 1), (18, .ldc 85, 2), (20, .invokevirtual 104, 3), (23, .ireturn, 1), (24, .aload_n 0, 1), (25, .getfield 163, 3), (28, .iload_n 2, 1), (29, .iadd, 1), (30, .sipush 9999, 3), (33, .if_icmp .le 10, 3), (36, .aload_n 0, 1), (37, .ldc 187, 2), (39, .invokevirtual 104, 3), (42, .ireturn, 1), (43, .aload_n 0, 1), (44, .invokevirtual 153, 3), (47, .iconst 0, 1), (48, .istore_n 3, 1), (49, .aload_n 0, 1), (50, .invokevirtual 184, 3), (53, .istore 4, 2), (55, .iload_n 3, 1), (56, .iload_n 2, 1), (57, .if_icmp .ge 64, 3), (60, .iload 4, 2), (62, .ifCond .lt 59, 3), (65, .aload_n 0, 1), (66, .getfield 93, 3), (69, .bipush 30, 2), (71, .if_icmp .ge 50, 3), (74, .aload_n 0, 1), (75, .iload_n 1, 1), (76, .aload_n 0, 1), (77, .iload 4, 2), (79, .invokevirtual 150, 3), (82, .aload_n 0, 1), (83, .getfield 163, 3), (86, .invokevirtual 188, 3), (89, .aload_n 0, 1), (90, .aload_n 0, 1), (91, .getfield 93, 3), (94, .iconst 1, 1), (95, .isub, 1), (96, .invokevirtual 146, 3), (99, .aload_n 0, 1), (100, .dup, 1), (101, .getfield 163, 3), (104, .iconst 1, 1), (105, .iadd, 1), (106, .putfield 163, 3), (109, .iinc 3 1, 3), (112, .aload_n 0, 1), (113, .invokevirtual 184, 3), (116, .istore 4, 2), (118, .goto (-63), 3), (121, .iload_n 3, 1), (122, .ireturn, 1)] = true := by decide +kernel
theorem dX7_meals_0 : decode cX7_meals 0 = .ok (.iload_n 1, 1) := chkD_at okX7_meals_0 0 rfl
theorem dX7_meals_1 : decode cX7_meals 1 = .ok (.invokestatic 159, 3) := chkD_at okX7_meals_0 1 rfl
theorem dX7_meals_4 : decode cX7_meals 4 = .ok (.ifCond .eq 13, 3) := chkD_at okX7_meals_0 2 rfl
theorem dX7_meals_7 : decode cX7_meals 7 = .ok (.iload_n 2, 1) := chkD_at okX7_meals_0 3 rfl
theorem dX7_meals_8 : decode cX7_meals 8 = .ok (.iconst 1, 1) := chkD_at okX7_meals_0 4 rfl
theorem dX7_meals_9 : decode cX7_meals 9 = .ok (.bipush 30, 2) := chkD_at okX7_meals_0 5 rfl
theorem dX7_meals_11 : decode cX7_meals 11 = .ok (.invokestatic 86, 3) := chkD_at okX7_meals_0 6 rfl
theorem dX7_meals_14 : decode cX7_meals 14 = .ok (.ifCond .ne 10, 3) := chkD_at okX7_meals_0 7 rfl
theorem dX7_meals_17 : decode cX7_meals 17 = .ok (.aload_n 0, 1) := chkD_at okX7_meals_0 8 rfl
theorem dX7_meals_18 : decode cX7_meals 18 = .ok (.ldc 85, 2) := chkD_at okX7_meals_0 9 rfl
theorem dX7_meals_20 : decode cX7_meals 20 = .ok (.invokevirtual 104, 3) := chkD_at okX7_meals_0 10 rfl
theorem dX7_meals_23 : decode cX7_meals 23 = .ok (.ireturn, 1) := chkD_at okX7_meals_0 11 rfl
theorem dX7_meals_24 : decode cX7_meals 24 = .ok (.aload_n 0, 1) := chkD_at okX7_meals_0 12 rfl
theorem dX7_meals_25 : decode cX7_meals 25 = .ok (.getfield 163, 3) := chkD_at okX7_meals_0 13 rfl
theorem dX7_meals_28 : decode cX7_meals 28 = .ok (.iload_n 2, 1) := chkD_at okX7_meals_0 14 rfl
theorem dX7_meals_29 : decode cX7_meals 29 = .ok (.iadd, 1) := chkD_at okX7_meals_0 15 rfl
theorem dX7_meals_30 : decode cX7_meals 30 = .ok (.sipush 9999, 3) := chkD_at okX7_meals_0 16 rfl
theorem dX7_meals_33 : decode cX7_meals 33 = .ok (.if_icmp .le 10, 3) := chkD_at okX7_meals_0 17 rfl
theorem dX7_meals_36 : decode cX7_meals 36 = .ok (.aload_n 0, 1) := chkD_at okX7_meals_0 18 rfl
theorem dX7_meals_37 : decode cX7_meals 37 = .ok (.ldc 187, 2) := chkD_at okX7_meals_0 19 rfl
theorem dX7_meals_39 : decode cX7_meals 39 = .ok (.invokevirtual 104, 3) := chkD_at okX7_meals_0 20 rfl
theorem dX7_meals_42 : decode cX7_meals 42 = .ok (.ireturn, 1) := chkD_at okX7_meals_0 21 rfl
theorem dX7_meals_43 : decode cX7_meals 43 = .ok (.aload_n 0, 1) := chkD_at okX7_meals_0 22 rfl
theorem dX7_meals_44 : decode cX7_meals 44 = .ok (.invokevirtual 153, 3) := chkD_at okX7_meals_0 23 rfl
theorem dX7_meals_47 : decode cX7_meals 47 = .ok (.iconst 0, 1) := chkD_at okX7_meals_0 24 rfl
theorem dX7_meals_48 : decode cX7_meals 48 = .ok (.istore_n 3, 1) := chkD_at okX7_meals_0 25 rfl
theorem dX7_meals_49 : decode cX7_meals 49 = .ok (.aload_n 0, 1) := chkD_at okX7_meals_0 26 rfl
theorem dX7_meals_50 : decode cX7_meals 50 = .ok (.invokevirtual 184, 3) := chkD_at okX7_meals_0 27 rfl
theorem dX7_meals_53 : decode cX7_meals 53 = .ok (.istore 4, 2) := chkD_at okX7_meals_0 28 rfl
theorem dX7_meals_55 : decode cX7_meals 55 = .ok (.iload_n 3, 1) := chkD_at okX7_meals_0 29 rfl
theorem dX7_meals_56 : decode cX7_meals 56 = .ok (.iload_n 2, 1) := chkD_at okX7_meals_0 30 rfl
theorem dX7_meals_57 : decode cX7_meals 57 = .ok (.if_icmp .ge 64, 3) := chkD_at okX7_meals_0 31 rfl
theorem dX7_meals_60 : decode cX7_meals 60 = .ok (.iload 4, 2) := chkD_at okX7_meals_0 32 rfl
theorem dX7_meals_62 : decode cX7_meals 62 = .ok (.ifCond .lt 59, 3) := chkD_at okX7_meals_0 33 rfl
theorem dX7_meals_65 : decode cX7_meals 65 = .ok (.aload_n 0, 1) := chkD_at okX7_meals_0 34 rfl
theorem dX7_meals_66 : decode cX7_meals 66 = .ok (.getfield 93, 3) := chkD_at okX7_meals_0 35 rfl
theorem dX7_meals_69 : decode cX7_meals 69 = .ok (.bipush 30, 2) := chkD_at okX7_meals_0 36 rfl
theorem dX7_meals_71 : decode cX7_meals 71 = .ok (.if_icmp .ge 50, 3) := chkD_at okX7_meals_0 37 rfl
theorem dX7_meals_74 : decode cX7_meals 74 = .ok (.aload_n 0, 1) := chkD_at okX7_meals_0 38 rfl
theorem dX7_meals_75 : decode cX7_meals 75 = .ok (.iload_n 1, 1) := chkD_at okX7_meals_0 39 rfl
theorem dX7_meals_76 : decode cX7_meals 76 = .ok (.aload_n 0, 1) := chkD_at okX7_meals_0 40 rfl
theorem dX7_meals_77 : decode cX7_meals 77 = .ok (.iload 4, 2) := chkD_at okX7_meals_0 41 rfl
theorem dX7_meals_79 : decode cX7_meals 79 = .ok (.invokevirtual 150, 3) := chkD_at okX7_meals_0 42 rfl
theorem dX7_meals_82 : decode cX7_meals 82 = .ok (.aload_n 0, 1) := chkD_at okX7_meals_0 43 rfl
theorem dX7_meals_83 : decode cX7_meals 83 = .ok (.getfield 163, 3) := chkD_at okX7_meals_0 44 rfl
theorem dX7_meals_86 : decode cX7_meals 86 = .ok (.invokevirtual 188, 3) := chkD_at okX7_meals_0 45 rfl
theorem dX7_meals_89 : decode cX7_meals 89 = .ok (.aload_n 0, 1) := chkD_at okX7_meals_0 46 rfl
theorem dX7_meals_90 : decode cX7_meals 90 = .ok (.aload_n 0, 1) := chkD_at okX7_meals_0 47 rfl
theorem dX7_meals_91 : decode cX7_meals 91 = .ok (.getfield 93, 3) := chkD_at okX7_meals_0 48 rfl
theorem dX7_meals_94 : decode cX7_meals 94 = .ok (.iconst 1, 1) := chkD_at okX7_meals_0 49 rfl
theorem dX7_meals_95 : decode cX7_meals 95 = .ok (.isub, 1) := chkD_at okX7_meals_0 50 rfl
theorem dX7_meals_96 : decode cX7_meals 96 = .ok (.invokevirtual 146, 3) := chkD_at okX7_meals_0 51 rfl
theorem dX7_meals_99 : decode cX7_meals 99 = .ok (.aload_n 0, 1) := chkD_at okX7_meals_0 52 rfl
theorem dX7_meals_100 : decode cX7_meals 100 = .ok (.dup, 1) := chkD_at okX7_meals_0 53 rfl
theorem dX7_meals_101 : decode cX7_meals 101 = .ok (.getfield 163, 3) := chkD_at okX7_meals_0 54 rfl
theorem dX7_meals_104 : decode cX7_meals 104 = .ok (.iconst 1, 1) := chkD_at okX7_meals_0 55 rfl
theorem dX7_meals_105 : decode cX7_meals 105 = .ok (.iadd, 1) := chkD_at okX7_meals_0 56 rfl
theorem dX7_meals_106 : decode cX7_meals 106 = .ok (.putfield 163, 3) := chkD_at okX7_meals_0 57 rfl
theorem dX7_meals_109 : decode cX7_meals 109 = .ok (.iinc 3 1, 3) := chkD_at okX7_meals_0 58 rfl
theorem dX7_meals_112 : decode cX7_meals 112 = .ok (.aload_n 0, 1) := chkD_at okX7_meals_0 59 rfl
theorem dX7_meals_113 : decode cX7_meals 113 = .ok (.invokevirtual 184, 3) := chkD_at okX7_meals_0 60 rfl
theorem dX7_meals_116 : decode cX7_meals 116 = .ok (.istore 4, 2) := chkD_at okX7_meals_0 61 rfl
theorem dX7_meals_118 : decode cX7_meals 118 = .ok (.goto (-63), 3) := chkD_at okX7_meals_0 62 rfl
theorem dX7_meals_121 : decode cX7_meals 121 = .ok (.iload_n 3, 1) := chkD_at okX7_meals_0 63 rfl
theorem dX7_meals_122 : decode cX7_meals 122 = .ok (.ireturn, 1) := chkD_at okX7_meals_0 64 rfl
theorem okX7_begins0_0 : chkD cX7_begins0 [(0, .aload_n 0, 1), (1, .aload_n 0, 1), (2, .getfield 93, 3), (5, .putfield 191, 3), (8, .iconst 0, 1), (9, .istore_n 1, 1), (10, .iload_n 1, 1), (11, .bipush 8, 2), (13, .if_icmp .ge 21, 3), (16, .aload_n 0, 1), (17, .getfield 44, 3), (20, .iload_n 1, 1), (21, .aload_n 0, 1), (22, .getfield 7, 3), (25, .iload_n 1, 1), (26, .iaload, 1), (27, .iastore, 1), (28, .iinc 1 1, 3), (31, .goto (-21), 3), (34, .aload_n 0, 1), (35, .invokevirtual 153, 3), (38, .return_, 1)] = true := by decide +kernel
theorem dX7_begins0_0 : decode cX7_begins0 0 = .ok (.aload_n 0, 1) := chkD_at okX7_begins0_0 0 rfl
theorem dX7_begins0_1 : decode cX7_begins0 1 = .ok (.aload_n 0, 1) := chkD_at okX7_begins0_0 1 rfl
theorem dX7_begins0_2 : decode cX7_begins0 2 = .ok (.getfield 93, 3) := chkD_at okX7_begins0_0 2 rfl
theorem dX7_begins0_5 : decode cX7_begins0 5 = .ok (.putfield 191, 3) := chkD_at okX7_begins0_0 3 rfl
theorem dX7_begins0_8 : decode cX7_begins0 8 = .ok (.iconst 0, 1) := chkD_at okX7_begins0_0 4 rfl
theorem dX7_begins0_9 : decode cX7_begins0 9 = .ok (.istore_n 1, 1) := chkD_at okX7_begins0_0 5 rfl
theorem dX7_begins0_10 : decode cX7_begins0 10 = .ok (.iload_n 1, 1) := chkD_at okX7_begins0_0 6 rfl
theorem dX7_begins0_11 : decode cX7_begins0 11 = .ok (.bipush 8, 2) := chkD_at okX7_begins0_0 7 rfl
theorem dX7_begins0_13 : decode cX7_begins0 13 = .ok (.if_icmp .ge 21, 3) := chkD_at okX7_begins0_0 8 rfl
theorem dX7_begins0_16 : decode cX7_begins0 16 = .ok (.aload_n 0, 1) := chkD_at okX7_begins0_0 9 rfl
theorem dX7_begins0_17 : decode cX7_begins0 17 = .ok (.getfield 44, 3) := chkD_at okX7_begins0_0 10 rfl
theorem dX7_begins0_20 : decode cX7_begins0 20 = .ok (.iload_n 1, 1) := chkD_at okX7_begins0_0 11 rfl
theorem dX7_begins0_21 : decode cX7_begins0 21 = .ok (.aload_n 0, 1) := chkD_at okX7_begins0_0 12 rfl
theorem dX7_begins0_22 : decode cX7_begins0 22 = .ok (.getfield 7, 3) := chkD_at okX7_begins0_0 13 rfl
theorem dX7_begins0_25 : decode cX7_begins0 25 = .ok (.iload_n 1, 1) := chkD_at okX7_begins0_0 14 rfl
theorem dX7_begins0_26 : decode cX7_begins0 26 = .ok (.iaload, 1) := chkD_at okX7_begins0_0 15 rfl
theorem dX7_begins0_27 : decode cX7_begins0 27 = .ok (.iastore, 1) := chkD_at okX7_begins0_0 16 rfl
theorem dX7_begins0_28 : decode cX7_begins0 28 = .ok (.iinc 1 1, 3) := chkD_at okX7_begins0_0 17 rfl
theorem dX7_begins0_31 : decode cX7_begins0 31 = .ok (.goto (-21), 3) := chkD_at okX7_begins0_0 18 rfl
theorem dX7_begins0_34 : decode cX7_begins0 34 = .ok (.aload_n 0, 1) := chkD_at okX7_begins0_0 19 rfl
theorem dX7_begins0_35 : decode cX7_begins0 35 = .ok (.invokevirtual 153, 3) := chkD_at okX7_begins0_0 20 rfl
theorem dX7_begins0_38 : decode cX7_begins0 38 = .ok (.return_, 1) := chkD_at okX7_begins0_0 21 rfl
theorem okX7_back_0 : chkD cX7_back [(0, .aload_n 0, 1), (1, .aload_n 0, 1), (2, .getfield 191, 3), (5, .putfield 93, 3), (8, .iconst 0, 1), (9, .istore_n 1, 1), (10, .iload_n 1, 1), (11, .bipush 8, 2), (13, .if_icmp .ge 21, 3), (16, .aload_n 0, 1), (17, .getfield 7, 3), (20, .iload_n 1, 1), (21, .aload_n 0, 1), (22, .getfield 44, 3), (25, .iload_n 1, 1), (26, .iaload, 1), (27, .iastore, 1), (28, .iinc 1 1, 3), (31, .goto (-21), 3), (34, .return_, 1)] = true := by decide +kernel
theorem dX7_back_0 : decode cX7_back 0 = .ok (.aload_n 0, 1) := chkD_at okX7_back_0 0 rfl
theorem dX7_back_1 : decode cX7_back 1 = .ok (.aload_n 0, 1) := chkD_at okX7_back_0 1 rfl
theorem dX7_back_2 : decode cX7_back 2 = .ok (.getfield 191, 3) := chkD_at okX7_back_0 2 rfl
theorem dX7_back_5 : decode cX7_back 5 = .ok (.putfield 93, 3) := chkD_at okX7_back_0 3 rfl
theorem dX7_back_8 : decode cX7_back 8 = .ok (.iconst 0, 1) := chkD_at okX7_back_0 4 rfl
theorem dX7_back_9 : decode cX7_back 9 = .ok (.istore_n 1, 1) := chkD_at okX7_back_0 5 rfl
theorem dX7_back_10 : decode cX7_back 10 = .ok (.iload_n 1, 1) := chkD_at okX7_back_0 6 rfl
theorem dX7_back_11 : decode cX7_back 11 = .ok (.bipush 8, 2) := chkD_at okX7_back_0 7 rfl
theorem dX7_back_13 : decode cX7_back 13 = .ok (.if_icmp .ge 21, 3) := chkD_at okX7_back_0 8 rfl
theorem dX7_back_16 : decode cX7_back 16 = .ok (.aload_n 0, 1) := chkD_at okX7_back_0 9 rfl
theorem dX7_back_17 : decode cX7_back 17 = .ok (.getfield 7, 3) := chkD_at okX7_back_0 10 rfl
theorem dX7_back_20 : decode cX7_back 20 = .ok (.iload_n 1, 1) := chkD_at okX7_back_0 11 rfl
theorem dX7_back_21 : decode cX7_back 21 = .ok (.aload_n 0, 1) := chkD_at okX7_back_0 12 rfl
theorem dX7_back_22 : decode cX7_back 22 = .ok (.getfield 44, 3) := chkD_at okX7_back_0 13 rfl
theorem dX7_back_25 : decode cX7_back 25 = .ok (.iload_n 1, 1) := chkD_at okX7_back_0 14 rfl
theorem dX7_back_26 : decode cX7_back 26 = .ok (.iaload, 1) := chkD_at okX7_back_0 15 rfl
theorem dX7_back_27 : decode cX7_back 27 = .ok (.iastore, 1) := chkD_at okX7_back_0 16 rfl
theorem dX7_back_28 : decode cX7_back 28 = .ok (.iinc 1 1, 3) := chkD_at okX7_back_0 17 rfl
theorem dX7_back_31 : decode cX7_back 31 = .ok (.goto (-21), 3) := chkD_at okX7_back_0 18 rfl
theorem dX7_back_34 : decode cX7_back 34 = .ok (.return_, 1) := chkD_at okX7_back_0 19 rfl
theorem okX7_goesOn_0 : chkD cX7_goesOn [(0, .aload_n 0, 1), (1, .invokevirtual 184, 3), (4, .istore_n 2, 1), (5, .iload_n 2, 1), (6, .ifCond .ge 5, 3), (9, .iconst (-1), 1), (10, .ireturn, 1), (11, .aload_n 0, 1), (12, .iload_n 1, 1), (13, .aload_n 0, 1), (14, .iload_n 2, 1), (15, .invokevirtual 150, 3), (18, .iconst 0, 1), (19, .invokevirtual 188, 3), (22, .aload_n 0, 1), (23, .aload_n 0, 1), (24, .getfield 93, 3), (27, .iconst 1, 1), (28, .isub, 1), (29, .invokevirtual 146, 3), (32, .aload_n 0, 1), (33, .iload_n 2, 1), (34, .invokevirtual 150, 3), (37, .ireturn, 1)] = true := by decide +kernel
theorem dX7_goesOn_0 : decode cX7_goesOn 0 = .ok (.aload_n 0, 1) := chkD_at okX7_goesOn_0 0 rfl
theorem dX7_goesOn_1 : decode cX7_goesOn 1 = .ok (.invokevirtual 184, 3) := chkD_at okX7_goesOn_0 1 rfl
theorem dX7_goesOn_4 : decode cX7_goesOn 4 = .ok (.istore_n 2, 1) := chkD_at okX7_goesOn_0 2 rfl
theorem dX7_goesOn_5 : decode cX7_goesOn 5 = .ok (.iload_n 2, 1) := chkD_at okX7_goesOn_0 3 rfl
theorem dX7_goesOn_6 : decode cX7_goesOn 6 = .ok (.ifCond .ge 5, 3) := chkD_at okX7_goesOn_0 4 rfl
theorem dX7_goesOn_9 : decode cX7_goesOn 9 = .ok (.iconst (-1), 1) := chkD_at okX7_goesOn_0 5 rfl
theorem dX7_goesOn_10 : decode cX7_goesOn 10 = .ok (.ireturn, 1) := chkD_at okX7_goesOn_0 6 rfl
theorem dX7_goesOn_11 : decode cX7_goesOn 11 = .ok (.aload_n 0, 1) := chkD_at okX7_goesOn_0 7 rfl
theorem dX7_goesOn_12 : decode cX7_goesOn 12 = .ok (.iload_n 1, 1) := chkD_at okX7_goesOn_0 8 rfl
theorem dX7_goesOn_13 : decode cX7_goesOn 13 = .ok (.aload_n 0, 1) := chkD_at okX7_goesOn_0 9 rfl
theorem dX7_goesOn_14 : decode cX7_goesOn 14 = .ok (.iload_n 2, 1) := chkD_at okX7_goesOn_0 10 rfl
theorem dX7_goesOn_15 : decode cX7_goesOn 15 = .ok (.invokevirtual 150, 3) := chkD_at okX7_goesOn_0 11 rfl
theorem dX7_goesOn_18 : decode cX7_goesOn 18 = .ok (.iconst 0, 1) := chkD_at okX7_goesOn_0 12 rfl
theorem dX7_goesOn_19 : decode cX7_goesOn 19 = .ok (.invokevirtual 188, 3) := chkD_at okX7_goesOn_0 13 rfl
theorem dX7_goesOn_22 : decode cX7_goesOn 22 = .ok (.aload_n 0, 1) := chkD_at okX7_goesOn_0 14 rfl
theorem dX7_goesOn_23 : decode cX7_goesOn 23 = .ok (.aload_n 0, 1) := chkD_at okX7_goesOn_0 15 rfl
theorem dX7_goesOn_24 : decode cX7_goesOn 24 = .ok (.getfield 93, 3) := chkD_at okX7_goesOn_0 16 rfl
theorem dX7_goesOn_27 : decode cX7_goesOn 27 = .ok (.iconst 1, 1) := chkD_at okX7_goesOn_0 17 rfl
theorem dX7_goesOn_28 : decode cX7_goesOn 28 = .ok (.isub, 1) := chkD_at okX7_goesOn_0 18 rfl
theorem dX7_goesOn_29 : decode cX7_goesOn 29 = .ok (.invokevirtual 146, 3) := chkD_at okX7_goesOn_0 19 rfl
theorem dX7_goesOn_32 : decode cX7_goesOn 32 = .ok (.aload_n 0, 1) := chkD_at okX7_goesOn_0 20 rfl
theorem dX7_goesOn_33 : decode cX7_goesOn 33 = .ok (.iload_n 2, 1) := chkD_at okX7_goesOn_0 21 rfl
theorem dX7_goesOn_34 : decode cX7_goesOn 34 = .ok (.invokevirtual 150, 3) := chkD_at okX7_goesOn_0 22 rfl
theorem dX7_goesOn_37 : decode cX7_goesOn 37 = .ok (.ireturn, 1) := chkD_at okX7_goesOn_0 23 rfl
theorem okX7_on_0 : chkD cX7_on [(0, .iload_n 1, 1), (1, .invokestatic 159, 3), (4, .ifCond .eq 13, 3), (7, .iload_n 2, 1), (8, .iconst 1, 1), (9, .bipush 30, 2), (11, .invokestatic 86, 3), (14, .ifCond .ne 10, 3), (17, .aload_n 0, 1), (18, .ldc 85, 2), (20, .invokevirtual 104, 3), (23, .ireturn, 1), (24, .aload_n 0, 1), (25, .invokevirtual 194, 3), (28, .iconst 0, 1), (29, .istore_n 3, 1), (30, .iconst 0, 1), (31, .istore 4, 2), (33, .iload 4, 2), (35, .iload_n 2, 1), (36, .if_icmp .ge 19, 3), (39, .iload_n 3, 1), (40, .ifCond .lt 15, 3), (43, .aload_n 0, 1), (44, .iload_n 1, 1), (45, .invokevirtual 197, 3), (48, .istore_n 3, 1), (49, .iinc 4 1, 3), (52, .goto (-19), 3), (55, .aload_n 0, 1), (56, .invokevirtual 200, 3), (59, .iload_n 3, 1), (60, .ifCond .ge 12, 3), (63, .aload_n 0, 1), (64, .ldc 127, 2), (66, .invokevirtual 104, 3), (69, .goto 4, 3), (72, .iload_n 3, 1), (73, .ireturn, 1)] = true := by decide +kernel
theorem dX7_on_0 : decode cX7_on 0 = .ok (.iload_n 1, 1) := chkD_at okX7_on_0 0 rfl
theorem dX7_on_1 : decode cX7_on 1 = .ok (.invokestatic 159, 3) := chkD_at okX7_on_0 1 rfl
theorem dX7_on_4 : decode cX7_on 4 = .ok (.ifCond .eq 13, 3) := chkD_at okX7_on_0 2 rfl
theorem dX7_on_7 : decode cX7_on 7 = .ok (.iload_n 2, 1) := chkD_at okX7_on_0 3 rfl
theorem dX7_on_8 : decode cX7_on 8 = .ok (.iconst 1, 1) := chkD_at okX7_on_0 4 rfl
theorem dX7_on_9 : decode cX7_on 9 = .ok (.bipush 30, 2) := chkD_at okX7_on_0 5 rfl
theorem dX7_on_11 : decode cX7_on 11 = .ok (.invokestatic 86, 3) := chkD_at okX7_on_0 6 rfl
theorem dX7_on_14 : decode cX7_on 14 = .ok (.ifCond .ne 10, 3) := chkD_at okX7_on_0 7 rfl
theorem dX7_on_17 : decode cX7_on 17 = .ok (.aload_n 0, 1) := chkD_at okX7_on_0 8 rfl
theorem dX7_on_18 : decode cX7_on 18 = .ok (.ldc 85, 2) := chkD_at okX7_on_0 9 rfl
theorem dX7_on_20 : decode cX7_on 20 = .ok (.invokevirtual 104, 3) := chkD_at okX7_on_0 10 rfl
theorem dX7_on_23 : decode cX7_on 23 = .ok (.ireturn, 1) := chkD_at okX7_on_0 11 rfl
theorem dX7_on_24 : decode cX7_on 24 = .ok (.aload_n 0, 1) := chkD_at okX7_on_0 12 rfl
theorem dX7_on_25 : decode cX7_on 25 = .ok (.invokevirtual 194, 3) := chkD_at okX7_on_0 13 rfl
theorem dX7_on_28 : decode cX7_on 28 = .ok (.iconst 0, 1) := chkD_at okX7_on_0 14 rfl
theorem dX7_on_29 : decode cX7_on 29 = .ok (.istore_n 3, 1) := chkD_at okX7_on_0 15 rfl
theorem dX7_on_30 : decode cX7_on 30 = .ok (.iconst 0, 1) := chkD_at okX7_on_0 16 rfl
theorem dX7_on_31 : decode cX7_on 31 = .ok (.istore 4, 2) := chkD_at okX7_on_0 17 rfl
theorem dX7_on_33 : decode cX7_on 33 = .ok (.iload 4, 2) := chkD_at okX7_on_0 18 rfl
theorem dX7_on_35 : decode cX7_on 35 = .ok (.iload_n 2, 1) := chkD_at okX7_on_0 19 rfl
theorem dX7_on_36 : decode cX7_on 36 = .ok (.if_icmp .ge 19, 3) := chkD_at okX7_on_0 20 rfl
theorem dX7_on_39 : decode cX7_on 39 = .ok (.iload_n 3, 1) := chkD_at okX7_on_0 21 rfl
theorem dX7_on_40 : decode cX7_on 40 = .ok (.ifCond .lt 15, 3) := chkD_at okX7_on_0 22 rfl
theorem dX7_on_43 : decode cX7_on 43 = .ok (.aload_n 0, 1) := chkD_at okX7_on_0 23 rfl
theorem dX7_on_44 : decode cX7_on 44 = .ok (.iload_n 1, 1) := chkD_at okX7_on_0 24 rfl
theorem dX7_on_45 : decode cX7_on 45 = .ok (.invokevirtual 197, 3) := chkD_at okX7_on_0 25 rfl
theorem dX7_on_48 : decode cX7_on 48 = .ok (.istore_n 3, 1) := chkD_at okX7_on_0 26 rfl
theorem dX7_on_49 : decode cX7_on 49 = .ok (.iinc 4 1, 3) := chkD_at okX7_on_0 27 rfl
theorem dX7_on_52 : decode cX7_on 52 = .ok (.goto (-19), 3) := chkD_at okX7_on_0 28 rfl
theorem dX7_on_55 : decode cX7_on 55 = .ok (.aload_n 0, 1) := chkD_at okX7_on_0 29 rfl
theorem dX7_on_56 : decode cX7_on 56 = .ok (.invokevirtual 200, 3) := chkD_at okX7_on_0 30 rfl
theorem dX7_on_59 : decode cX7_on 59 = .ok (.iload_n 3, 1) := chkD_at okX7_on_0 31 rfl
theorem dX7_on_60 : decode cX7_on 60 = .ok (.ifCond .ge 12, 3) := chkD_at okX7_on_0 32 rfl
theorem dX7_on_63 : decode cX7_on 63 = .ok (.aload_n 0, 1) := chkD_at okX7_on_0 33 rfl
theorem dX7_on_64 : decode cX7_on 64 = .ok (.ldc 127, 2) := chkD_at okX7_on_0 34 rfl
theorem dX7_on_66 : decode cX7_on 66 = .ok (.invokevirtual 104, 3) := chkD_at okX7_on_0 35 rfl
theorem dX7_on_69 : decode cX7_on 69 = .ok (.goto 4, 3) := chkD_at okX7_on_0 36 rfl
theorem dX7_on_72 : decode cX7_on 72 = .ok (.iload_n 3, 1) := chkD_at okX7_on_0 37 rfl
theorem dX7_on_73 : decode cX7_on 73 = .ok (.ireturn, 1) := chkD_at okX7_on_0 38 rfl
theorem okX7_lastsBy_0 : chkD cX7_lastsBy [(0, .aload_n 0, 1), (1, .invokevirtual 194, 3), (4, .iconst 0, 1), (5, .istore_n 2, 1), (6, .iload_n 2, 1), (7, .bipush 60, 2), (9, .if_icmp .ge 17, 3), (12, .aload_n 0, 1), (13, .iload_n 1, 1), (14, .invokevirtual 197, 3), (17, .ifCond .lt 9, 3), (20, .iinc 2 1, 3), (23, .goto (-17), 3), (26, .aload_n 0, 1), (27, .invokevirtual 200, 3), (30, .iload_n 2, 1), (31, .ireturn, 1)] = true := by decide +kernel
theorem dX7_lastsBy_0 : decode cX7_lastsBy 0 = .ok (.aload_n 0, 1) := chkD_at okX7_lastsBy_0 0 rfl
theorem dX7_lastsBy_1 : decode cX7_lastsBy 1 = .ok (.invokevirtual 194, 3) := chkD_at okX7_lastsBy_0 1 rfl
theorem dX7_lastsBy_4 : decode cX7_lastsBy 4 = .ok (.iconst 0, 1) := chkD_at okX7_lastsBy_0 2 rfl
theorem dX7_lastsBy_5 : decode cX7_lastsBy 5 = .ok (.istore_n 2, 1) := chkD_at okX7_lastsBy_0 3 rfl
theorem dX7_lastsBy_6 : decode cX7_lastsBy 6 = .ok (.iload_n 2, 1) := chkD_at okX7_lastsBy_0 4 rfl
theorem dX7_lastsBy_7 : decode cX7_lastsBy 7 = .ok (.bipush 60, 2) := chkD_at okX7_lastsBy_0 5 rfl
theorem dX7_lastsBy_9 : decode cX7_lastsBy 9 = .ok (.if_icmp .ge 17, 3) := chkD_at okX7_lastsBy_0 6 rfl
theorem dX7_lastsBy_12 : decode cX7_lastsBy 12 = .ok (.aload_n 0, 1) := chkD_at okX7_lastsBy_0 7 rfl
theorem dX7_lastsBy_13 : decode cX7_lastsBy 13 = .ok (.iload_n 1, 1) := chkD_at okX7_lastsBy_0 8 rfl
theorem dX7_lastsBy_14 : decode cX7_lastsBy 14 = .ok (.invokevirtual 197, 3) := chkD_at okX7_lastsBy_0 9 rfl
theorem dX7_lastsBy_17 : decode cX7_lastsBy 17 = .ok (.ifCond .lt 9, 3) := chkD_at okX7_lastsBy_0 10 rfl
theorem dX7_lastsBy_20 : decode cX7_lastsBy 20 = .ok (.iinc 2 1, 3) := chkD_at okX7_lastsBy_0 11 rfl
theorem dX7_lastsBy_23 : decode cX7_lastsBy 23 = .ok (.goto (-17), 3) := chkD_at okX7_lastsBy_0 12 rfl
theorem dX7_lastsBy_26 : decode cX7_lastsBy 26 = .ok (.aload_n 0, 1) := chkD_at okX7_lastsBy_0 13 rfl
theorem dX7_lastsBy_27 : decode cX7_lastsBy 27 = .ok (.invokevirtual 200, 3) := chkD_at okX7_lastsBy_0 14 rfl
theorem dX7_lastsBy_30 : decode cX7_lastsBy 30 = .ok (.iload_n 2, 1) := chkD_at okX7_lastsBy_0 15 rfl
theorem dX7_lastsBy_31 : decode cX7_lastsBy 31 = .ok (.ireturn, 1) := chkD_at okX7_lastsBy_0 16 rfl
theorem okX7_lasts_0 : chkD cX7_lasts [(0, .iload_n 1, 1), (1, .invokestatic 159, 3), (4, .ifCond .eq 11, 3), (7, .aload_n 0, 1), (8, .iload_n 1, 1), (9, .invokevirtual 203, 3), (12, .goto 9, 3), (15, .aload_n 0, 1), (16, .ldc 85, 2), (18, .invokevirtual 104, 3), (21, .ireturn, 1)] = true := by decide +kernel
theorem dX7_lasts_0 : decode cX7_lasts 0 = .ok (.iload_n 1, 1) := chkD_at okX7_lasts_0 0 rfl
theorem dX7_lasts_1 : decode cX7_lasts 1 = .ok (.invokestatic 159, 3) := chkD_at okX7_lasts_0 1 rfl
theorem dX7_lasts_4 : decode cX7_lasts 4 = .ok (.ifCond .eq 11, 3) := chkD_at okX7_lasts_0 2 rfl
theorem dX7_lasts_7 : decode cX7_lasts 7 = .ok (.aload_n 0, 1) := chkD_at okX7_lasts_0 3 rfl
theorem dX7_lasts_8 : decode cX7_lasts 8 = .ok (.iload_n 1, 1) := chkD_at okX7_lasts_0 4 rfl
theorem dX7_lasts_9 : decode cX7_lasts 9 = .ok (.invokevirtual 203, 3) := chkD_at okX7_lasts_0 5 rfl
theorem dX7_lasts_12 : decode cX7_lasts 12 = .ok (.goto 9, 3) := chkD_at okX7_lasts_0 6 rfl
theorem dX7_lasts_15 : decode cX7_lasts 15 = .ok (.aload_n 0, 1) := chkD_at okX7_lasts_0 7 rfl
theorem dX7_lasts_16 : decode cX7_lasts 16 = .ok (.ldc 85, 2) := chkD_at okX7_lasts_0 8 rfl
theorem dX7_lasts_18 : decode cX7_lasts 18 = .ok (.invokevirtual 104, 3) := chkD_at okX7_lasts_0 9 rfl
theorem dX7_lasts_21 : decode cX7_lasts 21 = .ok (.ireturn, 1) := chkD_at okX7_lasts_0 10 rfl
theorem okX7_buy_0 : chkD cX7_buy [(0, .iload_n 1, 1), (1, .invokestatic 159, 3), (4, .ifCond .ne 10, 3), (7, .aload_n 0, 1), (8, .ldc 85, 2), (10, .invokevirtual 104, 3), (13, .ireturn, 1), (14, .aload_n 0, 1), (15, .iload_n 1, 1), (16, .invokevirtual 203, 3), (19, .istore_n 2, 1), (20, .iconst (-1), 1), (21, .istore_n 3, 1), (22, .iconst 0, 1), (23, .istore 4, 2), (25, .iload 4, 2), (27, .bipush 8, 2), (29, .if_icmp .ge 64, 3), (32, .aload_n 0, 1), (33, .getfield 7, 3), (36, .iload 4, 2), (38, .dup2, 1), (39, .iaload, 1), (40, .iconst 1, 1), (41, .iadd, 1), (42, .iastore, 1), (43, .aload_n 0, 1), (44, .iload_n 1, 1), (45, .invokevirtual 203, 3), (48, .istore 5, 2), (50, .aload_n 0, 1), (51, .getfield 7, 3), (54, .iload 4, 2), (56, .dup2, 1), (57, .iaload, 1), (58, .iconst 1, 1), (59, .isub, 1), (60, .iastore, 1), (61, .iload 5, 2), (63, .iload_n 2, 1), (64, .if_icmp .le 8, 3), (67, .iload 4, 2), (69, .goto 4, 3), (72, .iload_n 3, 1), (73, .istore_n 3, 1), (74, .iload 5, 2), (76, .iload_n 2, 1), (77, .if_icmp .le 8, 3), (80, .iload 5, 2), (82, .goto 4, 3), (85, .iload_n 2, 1), (86, .istore_n 2, 1), (87, .iinc 4 1, 3), (90, .goto (-65), 3), (93, .iload_n 3, 1), (94, .ifCond .ge 12, 3), (97, .aload_n 0, 1), (98, .ldc 127, 2), (100, .invokevirtual 104, 3), (103, .goto 4, 3), (106, .iload_n 3, 1), (107, .ireturn, 1)] = true := by decide +kernel
theorem dX7_buy_0 : decode cX7_buy 0 = .ok (.iload_n 1, 1) := chkD_at okX7_buy_0 0 rfl
theorem dX7_buy_1 : decode cX7_buy 1 = .ok (.invokestatic 159, 3) := chkD_at okX7_buy_0 1 rfl
theorem dX7_buy_4 : decode cX7_buy 4 = .ok (.ifCond .ne 10, 3) := chkD_at okX7_buy_0 2 rfl
theorem dX7_buy_7 : decode cX7_buy 7 = .ok (.aload_n 0, 1) := chkD_at okX7_buy_0 3 rfl
theorem dX7_buy_8 : decode cX7_buy 8 = .ok (.ldc 85, 2) := chkD_at okX7_buy_0 4 rfl
theorem dX7_buy_10 : decode cX7_buy 10 = .ok (.invokevirtual 104, 3) := chkD_at okX7_buy_0 5 rfl
theorem dX7_buy_13 : decode cX7_buy 13 = .ok (.ireturn, 1) := chkD_at okX7_buy_0 6 rfl
theorem dX7_buy_14 : decode cX7_buy 14 = .ok (.aload_n 0, 1) := chkD_at okX7_buy_0 7 rfl
theorem dX7_buy_15 : decode cX7_buy 15 = .ok (.iload_n 1, 1) := chkD_at okX7_buy_0 8 rfl
theorem dX7_buy_16 : decode cX7_buy 16 = .ok (.invokevirtual 203, 3) := chkD_at okX7_buy_0 9 rfl
theorem dX7_buy_19 : decode cX7_buy 19 = .ok (.istore_n 2, 1) := chkD_at okX7_buy_0 10 rfl
theorem dX7_buy_20 : decode cX7_buy 20 = .ok (.iconst (-1), 1) := chkD_at okX7_buy_0 11 rfl
theorem dX7_buy_21 : decode cX7_buy 21 = .ok (.istore_n 3, 1) := chkD_at okX7_buy_0 12 rfl
theorem dX7_buy_22 : decode cX7_buy 22 = .ok (.iconst 0, 1) := chkD_at okX7_buy_0 13 rfl
theorem dX7_buy_23 : decode cX7_buy 23 = .ok (.istore 4, 2) := chkD_at okX7_buy_0 14 rfl
theorem dX7_buy_25 : decode cX7_buy 25 = .ok (.iload 4, 2) := chkD_at okX7_buy_0 15 rfl
theorem dX7_buy_27 : decode cX7_buy 27 = .ok (.bipush 8, 2) := chkD_at okX7_buy_0 16 rfl
theorem dX7_buy_29 : decode cX7_buy 29 = .ok (.if_icmp .ge 64, 3) := chkD_at okX7_buy_0 17 rfl
theorem dX7_buy_32 : decode cX7_buy 32 = .ok (.aload_n 0, 1) := chkD_at okX7_buy_0 18 rfl
theorem dX7_buy_33 : decode cX7_buy 33 = .ok (.getfield 7, 3) := chkD_at okX7_buy_0 19 rfl
theorem dX7_buy_36 : decode cX7_buy 36 = .ok (.iload 4, 2) := chkD_at okX7_buy_0 20 rfl
theorem dX7_buy_38 : decode cX7_buy 38 = .ok (.dup2, 1) := chkD_at okX7_buy_0 21 rfl
theorem dX7_buy_39 : decode cX7_buy 39 = .ok (.iaload, 1) := chkD_at okX7_buy_0 22 rfl
theorem dX7_buy_40 : decode cX7_buy 40 = .ok (.iconst 1, 1) := chkD_at okX7_buy_0 23 rfl
theorem dX7_buy_41 : decode cX7_buy 41 = .ok (.iadd, 1) := chkD_at okX7_buy_0 24 rfl
theorem dX7_buy_42 : decode cX7_buy 42 = .ok (.iastore, 1) := chkD_at okX7_buy_0 25 rfl
theorem dX7_buy_43 : decode cX7_buy 43 = .ok (.aload_n 0, 1) := chkD_at okX7_buy_0 26 rfl
theorem dX7_buy_44 : decode cX7_buy 44 = .ok (.iload_n 1, 1) := chkD_at okX7_buy_0 27 rfl
theorem dX7_buy_45 : decode cX7_buy 45 = .ok (.invokevirtual 203, 3) := chkD_at okX7_buy_0 28 rfl
theorem dX7_buy_48 : decode cX7_buy 48 = .ok (.istore 5, 2) := chkD_at okX7_buy_0 29 rfl
theorem dX7_buy_50 : decode cX7_buy 50 = .ok (.aload_n 0, 1) := chkD_at okX7_buy_0 30 rfl
theorem dX7_buy_51 : decode cX7_buy 51 = .ok (.getfield 7, 3) := chkD_at okX7_buy_0 31 rfl
theorem dX7_buy_54 : decode cX7_buy 54 = .ok (.iload 4, 2) := chkD_at okX7_buy_0 32 rfl
theorem dX7_buy_56 : decode cX7_buy 56 = .ok (.dup2, 1) := chkD_at okX7_buy_0 33 rfl
theorem dX7_buy_57 : decode cX7_buy 57 = .ok (.iaload, 1) := chkD_at okX7_buy_0 34 rfl
theorem dX7_buy_58 : decode cX7_buy 58 = .ok (.iconst 1, 1) := chkD_at okX7_buy_0 35 rfl
theorem dX7_buy_59 : decode cX7_buy 59 = .ok (.isub, 1) := chkD_at okX7_buy_0 36 rfl
theorem dX7_buy_60 : decode cX7_buy 60 = .ok (.iastore, 1) := chkD_at okX7_buy_0 37 rfl
theorem dX7_buy_61 : decode cX7_buy 61 = .ok (.iload 5, 2) := chkD_at okX7_buy_0 38 rfl
theorem dX7_buy_63 : decode cX7_buy 63 = .ok (.iload_n 2, 1) := chkD_at okX7_buy_0 39 rfl
theorem dX7_buy_64 : decode cX7_buy 64 = .ok (.if_icmp .le 8, 3) := chkD_at okX7_buy_0 40 rfl
theorem dX7_buy_67 : decode cX7_buy 67 = .ok (.iload 4, 2) := chkD_at okX7_buy_0 41 rfl
theorem dX7_buy_69 : decode cX7_buy 69 = .ok (.goto 4, 3) := chkD_at okX7_buy_0 42 rfl
theorem dX7_buy_72 : decode cX7_buy 72 = .ok (.iload_n 3, 1) := chkD_at okX7_buy_0 43 rfl
theorem dX7_buy_73 : decode cX7_buy 73 = .ok (.istore_n 3, 1) := chkD_at okX7_buy_0 44 rfl
theorem dX7_buy_74 : decode cX7_buy 74 = .ok (.iload 5, 2) := chkD_at okX7_buy_0 45 rfl
theorem dX7_buy_76 : decode cX7_buy 76 = .ok (.iload_n 2, 1) := chkD_at okX7_buy_0 46 rfl
theorem dX7_buy_77 : decode cX7_buy 77 = .ok (.if_icmp .le 8, 3) := chkD_at okX7_buy_0 47 rfl
theorem dX7_buy_80 : decode cX7_buy 80 = .ok (.iload 5, 2) := chkD_at okX7_buy_0 48 rfl
theorem dX7_buy_82 : decode cX7_buy 82 = .ok (.goto 4, 3) := chkD_at okX7_buy_0 49 rfl
theorem dX7_buy_85 : decode cX7_buy 85 = .ok (.iload_n 2, 1) := chkD_at okX7_buy_0 50 rfl
theorem dX7_buy_86 : decode cX7_buy 86 = .ok (.istore_n 2, 1) := chkD_at okX7_buy_0 51 rfl
theorem dX7_buy_87 : decode cX7_buy 87 = .ok (.iinc 4 1, 3) := chkD_at okX7_buy_0 52 rfl
theorem dX7_buy_90 : decode cX7_buy 90 = .ok (.goto (-65), 3) := chkD_at okX7_buy_0 53 rfl
theorem dX7_buy_93 : decode cX7_buy 93 = .ok (.iload_n 3, 1) := chkD_at okX7_buy_0 54 rfl
theorem dX7_buy_94 : decode cX7_buy 94 = .ok (.ifCond .ge 12, 3) := chkD_at okX7_buy_0 55 rfl
theorem dX7_buy_97 : decode cX7_buy 97 = .ok (.aload_n 0, 1) := chkD_at okX7_buy_0 56 rfl
theorem dX7_buy_98 : decode cX7_buy 98 = .ok (.ldc 127, 2) := chkD_at okX7_buy_0 57 rfl
theorem dX7_buy_100 : decode cX7_buy 100 = .ok (.invokevirtual 104, 3) := chkD_at okX7_buy_0 58 rfl
theorem dX7_buy_103 : decode cX7_buy 103 = .ok (.goto 4, 3) := chkD_at okX7_buy_0 59 rfl
theorem dX7_buy_106 : decode cX7_buy 106 = .ok (.iload_n 3, 1) := chkD_at okX7_buy_0 60 rfl
theorem dX7_buy_107 : decode cX7_buy 107 = .ok (.ireturn, 1) := chkD_at okX7_buy_0 61 rfl
theorem okX7_comesTo_0 : chkD cX7_comesTo [(0, .aload_n 0, 1), (1, .getfield 47, 3), (4, .iload_n 1, 1), (5, .iaload, 1), (6, .ifCond .ge 39, 3), (9, .aload_n 0, 1), (10, .getfield 53, 3), (13, .iload_n 1, 1), (14, .baload, 1), (15, .ifCond .eq 30, 3), (18, .aload_n 0, 1), (19, .getfield 47, 3), (22, .iload_n 1, 1), (23, .iload_n 2, 1), (24, .iastore, 1), (25, .aload_n 0, 1), (26, .getfield 50, 3), (29, .aload_n 0, 1), (30, .getfield 206, 3), (33, .iload_n 1, 1), (34, .iastore, 1), (35, .aload_n 0, 1), (36, .dup, 1), (37, .getfield 206, 3), (40, .iconst 1, 1), (41, .iadd, 1), (42, .putfield 206, 3), (45, .return_, 1)] = true := by decide +kernel
theorem dX7_comesTo_0 : decode cX7_comesTo 0 = .ok (.aload_n 0, 1) := chkD_at okX7_comesTo_0 0 rfl
theorem dX7_comesTo_1 : decode cX7_comesTo 1 = .ok (.getfield 47, 3) := chkD_at okX7_comesTo_0 1 rfl
theorem dX7_comesTo_4 : decode cX7_comesTo 4 = .ok (.iload_n 1, 1) := chkD_at okX7_comesTo_0 2 rfl
theorem dX7_comesTo_5 : decode cX7_comesTo 5 = .ok (.iaload, 1) := chkD_at okX7_comesTo_0 3 rfl
theorem dX7_comesTo_6 : decode cX7_comesTo 6 = .ok (.ifCond .ge 39, 3) := chkD_at okX7_comesTo_0 4 rfl
theorem dX7_comesTo_9 : decode cX7_comesTo 9 = .ok (.aload_n 0, 1) := chkD_at okX7_comesTo_0 5 rfl
theorem dX7_comesTo_10 : decode cX7_comesTo 10 = .ok (.getfield 53, 3) := chkD_at okX7_comesTo_0 6 rfl
theorem dX7_comesTo_13 : decode cX7_comesTo 13 = .ok (.iload_n 1, 1) := chkD_at okX7_comesTo_0 7 rfl
theorem dX7_comesTo_14 : decode cX7_comesTo 14 = .ok (.baload, 1) := chkD_at okX7_comesTo_0 8 rfl
theorem dX7_comesTo_15 : decode cX7_comesTo 15 = .ok (.ifCond .eq 30, 3) := chkD_at okX7_comesTo_0 9 rfl
theorem dX7_comesTo_18 : decode cX7_comesTo 18 = .ok (.aload_n 0, 1) := chkD_at okX7_comesTo_0 10 rfl
theorem dX7_comesTo_19 : decode cX7_comesTo 19 = .ok (.getfield 47, 3) := chkD_at okX7_comesTo_0 11 rfl
theorem dX7_comesTo_22 : decode cX7_comesTo 22 = .ok (.iload_n 1, 1) := chkD_at okX7_comesTo_0 12 rfl
theorem dX7_comesTo_23 : decode cX7_comesTo 23 = .ok (.iload_n 2, 1) := chkD_at okX7_comesTo_0 13 rfl
theorem dX7_comesTo_24 : decode cX7_comesTo 24 = .ok (.iastore, 1) := chkD_at okX7_comesTo_0 14 rfl
theorem dX7_comesTo_25 : decode cX7_comesTo 25 = .ok (.aload_n 0, 1) := chkD_at okX7_comesTo_0 15 rfl
theorem dX7_comesTo_26 : decode cX7_comesTo 26 = .ok (.getfield 50, 3) := chkD_at okX7_comesTo_0 16 rfl
theorem dX7_comesTo_29 : decode cX7_comesTo 29 = .ok (.aload_n 0, 1) := chkD_at okX7_comesTo_0 17 rfl
theorem dX7_comesTo_30 : decode cX7_comesTo 30 = .ok (.getfield 206, 3) := chkD_at okX7_comesTo_0 18 rfl
theorem dX7_comesTo_33 : decode cX7_comesTo 33 = .ok (.iload_n 1, 1) := chkD_at okX7_comesTo_0 19 rfl
theorem dX7_comesTo_34 : decode cX7_comesTo 34 = .ok (.iastore, 1) := chkD_at okX7_comesTo_0 20 rfl
theorem dX7_comesTo_35 : decode cX7_comesTo 35 = .ok (.aload_n 0, 1) := chkD_at okX7_comesTo_0 21 rfl
theorem dX7_comesTo_36 : decode cX7_comesTo 36 = .ok (.dup, 1) := chkD_at okX7_comesTo_0 22 rfl
theorem dX7_comesTo_37 : decode cX7_comesTo 37 = .ok (.getfield 206, 3) := chkD_at okX7_comesTo_0 23 rfl
theorem dX7_comesTo_40 : decode cX7_comesTo 40 = .ok (.iconst 1, 1) := chkD_at okX7_comesTo_0 24 rfl
theorem dX7_comesTo_41 : decode cX7_comesTo 41 = .ok (.iadd, 1) := chkD_at okX7_comesTo_0 25 rfl
theorem dX7_comesTo_42 : decode cX7_comesTo 42 = .ok (.putfield 206, 3) := chkD_at okX7_comesTo_0 26 rfl
theorem dX7_comesTo_45 : decode cX7_comesTo 45 = .ok (.return_, 1) := chkD_at okX7_comesTo_0 27 rfl
theorem okX7_goesFrom_0 : chkD cX7_goesFrom [(0, .aload_n 0, 1), (1, .getfield 34, 3), (4, .aload_n 0, 1), (5, .getfield 31, 3), (8, .iload_n 1, 1), (9, .bipush 20, 2), (11, .idiv, 1), (12, .iaload, 1), (13, .iaload, 1), (14, .istore_n 2, 1), (15, .aload_n 0, 1), (16, .getfield 31, 3), (19, .iload_n 2, 1), (20, .iaload, 1), (21, .istore_n 3, 1), (22, .iload_n 1, 1), (23, .bipush 20, 2), (25, .irem, 1), (26, .istore 4, 2), (28, .aload_n 0, 1), (29, .getfield 47, 3), (32, .iload_n 1, 1), (33, .iaload, 1), (34, .iconst 1, 1), (35, .iadd, 1), (36, .istore 5, 2), (38, .iconst 0, 1), (39, .istore 6, 2), (41, .iload 6, 2), (43, .bipush 8, 2), (45, .if_icmp .ge 41, 3), (48, .aload_n 0, 1), (49, .getfield 34, 3), (52, .iload_n 3, 1), (53, .iconst 1, 1), (54, .iload 6, 2), (56, .ishl, 1), (57, .ixor, 1), (58, .iaload, 1), (59, .istore 7, 2), (61, .iload 7, 2), (63, .ifCond .lt 17, 3), (66, .aload_n 0, 1), (67, .bipush 20, 2), (69, .iload 7, 2), (71, .imul, 1), (72, .iload 4, 2), (74, .iadd, 1), (75, .iload 5, 2), (77, .invokevirtual 209, 3), (80, .iinc 6 1, 3), (83, .goto (-42), 3), (86, .iconst 0, 1), (87, .istore 6, 2), (89, .iload 6, 2), (91, .iconst 5, 1), (92, .if_icmp .ge 29, 3), (95, .aload_n 0, 1), (96, .bipush 20, 2), (98, .iload_n 2, 1), (99, .imul, 1), (100, .iconst 4, 1), (101, .iload 6, 2), (103, .imul, 1), (104, .iadd, 1), (105, .iload 4, 2), (107, .iconst 4, 1), (108, .irem, 1), (109, .iadd, 1), (110, .iload 5, 2), (112, .invokevirtual 209, 3), (115, .iinc 6 1, 3), (118, .goto (-29), 3), (121, .iconst 0, 1), (122, .istore 6, 2), (124, .iload 6, 2), (126, .iconst 4, 1), (127, .if_icmp .ge 29, 3), (130, .aload_n 0, 1), (131, .bipush 20, 2)] = true := by decide +kernel
theorem dX7_goesFrom_0 : decode cX7_goesFrom 0 = .ok (.aload_n 0, 1) := chkD_at okX7_goesFrom_0 0 rfl
theorem dX7_goesFrom_1 : decode cX7_goesFrom 1 = .ok (.getfield 34, 3) := chkD_at okX7_goesFrom_0 1 rfl
theorem dX7_goesFrom_4 : decode cX7_goesFrom 4 = .ok (.aload_n 0, 1) := chkD_at okX7_goesFrom_0 2 rfl
theorem dX7_goesFrom_5 : decode cX7_goesFrom 5 = .ok (.getfield 31, 3) := chkD_at okX7_goesFrom_0 3 rfl
theorem dX7_goesFrom_8 : decode cX7_goesFrom 8 = .ok (.iload_n 1, 1) := chkD_at okX7_goesFrom_0 4 rfl
theorem dX7_goesFrom_9 : decode cX7_goesFrom 9 = .ok (.bipush 20, 2) := chkD_at okX7_goesFrom_0 5 rfl
theorem dX7_goesFrom_11 : decode cX7_goesFrom 11 = .ok (.idiv, 1) := chkD_at okX7_goesFrom_0 6 rfl
theorem dX7_goesFrom_12 : decode cX7_goesFrom 12 = .ok (.iaload, 1) := chkD_at okX7_goesFrom_0 7 rfl
theorem dX7_goesFrom_13 : decode cX7_goesFrom 13 = .ok (.iaload, 1) := chkD_at okX7_goesFrom_0 8 rfl
theorem dX7_goesFrom_14 : decode cX7_goesFrom 14 = .ok (.istore_n 2, 1) := chkD_at okX7_goesFrom_0 9 rfl
theorem dX7_goesFrom_15 : decode cX7_goesFrom 15 = .ok (.aload_n 0, 1) := chkD_at okX7_goesFrom_0 10 rfl
theorem dX7_goesFrom_16 : decode cX7_goesFrom 16 = .ok (.getfield 31, 3) := chkD_at okX7_goesFrom_0 11 rfl
theorem dX7_goesFrom_19 : decode cX7_goesFrom 19 = .ok (.iload_n 2, 1) := chkD_at okX7_goesFrom_0 12 rfl
theorem dX7_goesFrom_20 : decode cX7_goesFrom 20 = .ok (.iaload, 1) := chkD_at okX7_goesFrom_0 13 rfl
theorem dX7_goesFrom_21 : decode cX7_goesFrom 21 = .ok (.istore_n 3, 1) := chkD_at okX7_goesFrom_0 14 rfl
theorem dX7_goesFrom_22 : decode cX7_goesFrom 22 = .ok (.iload_n 1, 1) := chkD_at okX7_goesFrom_0 15 rfl
theorem dX7_goesFrom_23 : decode cX7_goesFrom 23 = .ok (.bipush 20, 2) := chkD_at okX7_goesFrom_0 16 rfl
theorem dX7_goesFrom_25 : decode cX7_goesFrom 25 = .ok (.irem, 1) := chkD_at okX7_goesFrom_0 17 rfl
theorem dX7_goesFrom_26 : decode cX7_goesFrom 26 = .ok (.istore 4, 2) := chkD_at okX7_goesFrom_0 18 rfl
theorem dX7_goesFrom_28 : decode cX7_goesFrom 28 = .ok (.aload_n 0, 1) := chkD_at okX7_goesFrom_0 19 rfl
theorem dX7_goesFrom_29 : decode cX7_goesFrom 29 = .ok (.getfield 47, 3) := chkD_at okX7_goesFrom_0 20 rfl
theorem dX7_goesFrom_32 : decode cX7_goesFrom 32 = .ok (.iload_n 1, 1) := chkD_at okX7_goesFrom_0 21 rfl
theorem dX7_goesFrom_33 : decode cX7_goesFrom 33 = .ok (.iaload, 1) := chkD_at okX7_goesFrom_0 22 rfl
theorem dX7_goesFrom_34 : decode cX7_goesFrom 34 = .ok (.iconst 1, 1) := chkD_at okX7_goesFrom_0 23 rfl
theorem dX7_goesFrom_35 : decode cX7_goesFrom 35 = .ok (.iadd, 1) := chkD_at okX7_goesFrom_0 24 rfl
theorem dX7_goesFrom_36 : decode cX7_goesFrom 36 = .ok (.istore 5, 2) := chkD_at okX7_goesFrom_0 25 rfl
theorem dX7_goesFrom_38 : decode cX7_goesFrom 38 = .ok (.iconst 0, 1) := chkD_at okX7_goesFrom_0 26 rfl
theorem dX7_goesFrom_39 : decode cX7_goesFrom 39 = .ok (.istore 6, 2) := chkD_at okX7_goesFrom_0 27 rfl
theorem dX7_goesFrom_41 : decode cX7_goesFrom 41 = .ok (.iload 6, 2) := chkD_at okX7_goesFrom_0 28 rfl
theorem dX7_goesFrom_43 : decode cX7_goesFrom 43 = .ok (.bipush 8, 2) := chkD_at okX7_goesFrom_0 29 rfl
theorem dX7_goesFrom_45 : decode cX7_goesFrom 45 = .ok (.if_icmp .ge 41, 3) := chkD_at okX7_goesFrom_0 30 rfl
theorem dX7_goesFrom_48 : decode cX7_goesFrom 48 = .ok (.aload_n 0, 1) := chkD_at okX7_goesFrom_0 31 rfl
theorem dX7_goesFrom_49 : decode cX7_goesFrom 49 = .ok (.getfield 34, 3) := chkD_at okX7_goesFrom_0 32 rfl
theorem dX7_goesFrom_52 : decode cX7_goesFrom 52 = .ok (.iload_n 3, 1) := chkD_at okX7_goesFrom_0 33 rfl
theorem dX7_goesFrom_53 : decode cX7_goesFrom 53 = .ok (.iconst 1, 1) := chkD_at okX7_goesFrom_0 34 rfl
theorem dX7_goesFrom_54 : decode cX7_goesFrom 54 = .ok (.iload 6, 2) := chkD_at okX7_goesFrom_0 35 rfl
theorem dX7_goesFrom_56 : decode cX7_goesFrom 56 = .ok (.ishl, 1) := chkD_at okX7_goesFrom_0 36 rfl
theorem dX7_goesFrom_57 : decode cX7_goesFrom 57 = .ok (.ixor, 1) := chkD_at okX7_goesFrom_0 37 rfl
theorem dX7_goesFrom_58 : decode cX7_goesFrom 58 = .ok (.iaload, 1) := chkD_at okX7_goesFrom_0 38 rfl
theorem dX7_goesFrom_59 : decode cX7_goesFrom 59 = .ok (.istore 7, 2) := chkD_at okX7_goesFrom_0 39 rfl
theorem dX7_goesFrom_61 : decode cX7_goesFrom 61 = .ok (.iload 7, 2) := chkD_at okX7_goesFrom_0 40 rfl
theorem dX7_goesFrom_63 : decode cX7_goesFrom 63 = .ok (.ifCond .lt 17, 3) := chkD_at okX7_goesFrom_0 41 rfl
theorem dX7_goesFrom_66 : decode cX7_goesFrom 66 = .ok (.aload_n 0, 1) := chkD_at okX7_goesFrom_0 42 rfl
theorem dX7_goesFrom_67 : decode cX7_goesFrom 67 = .ok (.bipush 20, 2) := chkD_at okX7_goesFrom_0 43 rfl
theorem dX7_goesFrom_69 : decode cX7_goesFrom 69 = .ok (.iload 7, 2) := chkD_at okX7_goesFrom_0 44 rfl
theorem dX7_goesFrom_71 : decode cX7_goesFrom 71 = .ok (.imul, 1) := chkD_at okX7_goesFrom_0 45 rfl
theorem dX7_goesFrom_72 : decode cX7_goesFrom 72 = .ok (.iload 4, 2) := chkD_at okX7_goesFrom_0 46 rfl
theorem dX7_goesFrom_74 : decode cX7_goesFrom 74 = .ok (.iadd, 1) := chkD_at okX7_goesFrom_0 47 rfl
theorem dX7_goesFrom_75 : decode cX7_goesFrom 75 = .ok (.iload 5, 2) := chkD_at okX7_goesFrom_0 48 rfl
theorem dX7_goesFrom_77 : decode cX7_goesFrom 77 = .ok (.invokevirtual 209, 3) := chkD_at okX7_goesFrom_0 49 rfl
theorem dX7_goesFrom_80 : decode cX7_goesFrom 80 = .ok (.iinc 6 1, 3) := chkD_at okX7_goesFrom_0 50 rfl
theorem dX7_goesFrom_83 : decode cX7_goesFrom 83 = .ok (.goto (-42), 3) := chkD_at okX7_goesFrom_0 51 rfl
theorem dX7_goesFrom_86 : decode cX7_goesFrom 86 = .ok (.iconst 0, 1) := chkD_at okX7_goesFrom_0 52 rfl
theorem dX7_goesFrom_87 : decode cX7_goesFrom 87 = .ok (.istore 6, 2) := chkD_at okX7_goesFrom_0 53 rfl
theorem dX7_goesFrom_89 : decode cX7_goesFrom 89 = .ok (.iload 6, 2) := chkD_at okX7_goesFrom_0 54 rfl
theorem dX7_goesFrom_91 : decode cX7_goesFrom 91 = .ok (.iconst 5, 1) := chkD_at okX7_goesFrom_0 55 rfl
theorem dX7_goesFrom_92 : decode cX7_goesFrom 92 = .ok (.if_icmp .ge 29, 3) := chkD_at okX7_goesFrom_0 56 rfl
theorem dX7_goesFrom_95 : decode cX7_goesFrom 95 = .ok (.aload_n 0, 1) := chkD_at okX7_goesFrom_0 57 rfl
theorem dX7_goesFrom_96 : decode cX7_goesFrom 96 = .ok (.bipush 20, 2) := chkD_at okX7_goesFrom_0 58 rfl
theorem dX7_goesFrom_98 : decode cX7_goesFrom 98 = .ok (.iload_n 2, 1) := chkD_at okX7_goesFrom_0 59 rfl
theorem dX7_goesFrom_99 : decode cX7_goesFrom 99 = .ok (.imul, 1) := chkD_at okX7_goesFrom_0 60 rfl
theorem dX7_goesFrom_100 : decode cX7_goesFrom 100 = .ok (.iconst 4, 1) := chkD_at okX7_goesFrom_0 61 rfl
theorem dX7_goesFrom_101 : decode cX7_goesFrom 101 = .ok (.iload 6, 2) := chkD_at okX7_goesFrom_0 62 rfl
theorem dX7_goesFrom_103 : decode cX7_goesFrom 103 = .ok (.imul, 1) := chkD_at okX7_goesFrom_0 63 rfl
theorem dX7_goesFrom_104 : decode cX7_goesFrom 104 = .ok (.iadd, 1) := chkD_at okX7_goesFrom_0 64 rfl
theorem dX7_goesFrom_105 : decode cX7_goesFrom 105 = .ok (.iload 4, 2) := chkD_at okX7_goesFrom_0 65 rfl
theorem dX7_goesFrom_107 : decode cX7_goesFrom 107 = .ok (.iconst 4, 1) := chkD_at okX7_goesFrom_0 66 rfl
theorem dX7_goesFrom_108 : decode cX7_goesFrom 108 = .ok (.irem, 1) := chkD_at okX7_goesFrom_0 67 rfl
theorem dX7_goesFrom_109 : decode cX7_goesFrom 109 = .ok (.iadd, 1) := chkD_at okX7_goesFrom_0 68 rfl
theorem dX7_goesFrom_110 : decode cX7_goesFrom 110 = .ok (.iload 5, 2) := chkD_at okX7_goesFrom_0 69 rfl
theorem dX7_goesFrom_112 : decode cX7_goesFrom 112 = .ok (.invokevirtual 209, 3) := chkD_at okX7_goesFrom_0 70 rfl
theorem dX7_goesFrom_115 : decode cX7_goesFrom 115 = .ok (.iinc 6 1, 3) := chkD_at okX7_goesFrom_0 71 rfl
theorem dX7_goesFrom_118 : decode cX7_goesFrom 118 = .ok (.goto (-29), 3) := chkD_at okX7_goesFrom_0 72 rfl
theorem dX7_goesFrom_121 : decode cX7_goesFrom 121 = .ok (.iconst 0, 1) := chkD_at okX7_goesFrom_0 73 rfl
theorem dX7_goesFrom_122 : decode cX7_goesFrom 122 = .ok (.istore 6, 2) := chkD_at okX7_goesFrom_0 74 rfl
theorem dX7_goesFrom_124 : decode cX7_goesFrom 124 = .ok (.iload 6, 2) := chkD_at okX7_goesFrom_0 75 rfl
theorem dX7_goesFrom_126 : decode cX7_goesFrom 126 = .ok (.iconst 4, 1) := chkD_at okX7_goesFrom_0 76 rfl
theorem dX7_goesFrom_127 : decode cX7_goesFrom 127 = .ok (.if_icmp .ge 29, 3) := chkD_at okX7_goesFrom_0 77 rfl
theorem dX7_goesFrom_130 : decode cX7_goesFrom 130 = .ok (.aload_n 0, 1) := chkD_at okX7_goesFrom_0 78 rfl
theorem dX7_goesFrom_131 : decode cX7_goesFrom 131 = .ok (.bipush 20, 2) := chkD_at okX7_goesFrom_0 79 rfl
theorem okX7_goesFrom_1 : chkD cX7_goesFrom [(133, .iload_n 2, 1), (134, .imul, 1), (135, .iload 4, 2), (137, .iconst 4, 1), (138, .idiv, 1), (139, .iconst 4, 1), (140, .imul, 1), (141, .iadd, 1), (142, .iload 6, 2), (144, .iadd, 1), (145, .iload 5, 2), (147, .invokevirtual 209, 3), (150, .iinc 6 1, 3), (153, .goto (-29), 3), (156, .return_, 1)] = true := by decide +kernel
theorem dX7_goesFrom_133 : decode cX7_goesFrom 133 = .ok (.iload_n 2, 1) := chkD_at okX7_goesFrom_1 0 rfl
theorem dX7_goesFrom_134 : decode cX7_goesFrom 134 = .ok (.imul, 1) := chkD_at okX7_goesFrom_1 1 rfl
theorem dX7_goesFrom_135 : decode cX7_goesFrom 135 = .ok (.iload 4, 2) := chkD_at okX7_goesFrom_1 2 rfl
theorem dX7_goesFrom_137 : decode cX7_goesFrom 137 = .ok (.iconst 4, 1) := chkD_at okX7_goesFrom_1 3 rfl
theorem dX7_goesFrom_138 : decode cX7_goesFrom 138 = .ok (.idiv, 1) := chkD_at okX7_goesFrom_1 4 rfl
theorem dX7_goesFrom_139 : decode cX7_goesFrom 139 = .ok (.iconst 4, 1) := chkD_at okX7_goesFrom_1 5 rfl
theorem dX7_goesFrom_140 : decode cX7_goesFrom 140 = .ok (.imul, 1) := chkD_at okX7_goesFrom_1 6 rfl
theorem dX7_goesFrom_141 : decode cX7_goesFrom 141 = .ok (.iadd, 1) := chkD_at okX7_goesFrom_1 7 rfl
theorem dX7_goesFrom_142 : decode cX7_goesFrom 142 = .ok (.iload 6, 2) := chkD_at okX7_goesFrom_1 8 rfl
theorem dX7_goesFrom_144 : decode cX7_goesFrom 144 = .ok (.iadd, 1) := chkD_at okX7_goesFrom_1 9 rfl
theorem dX7_goesFrom_145 : decode cX7_goesFrom 145 = .ok (.iload 5, 2) := chkD_at okX7_goesFrom_1 10 rfl
theorem dX7_goesFrom_147 : decode cX7_goesFrom 147 = .ok (.invokevirtual 209, 3) := chkD_at okX7_goesFrom_1 11 rfl
theorem dX7_goesFrom_150 : decode cX7_goesFrom 150 = .ok (.iinc 6 1, 3) := chkD_at okX7_goesFrom_1 12 rfl
theorem dX7_goesFrom_153 : decode cX7_goesFrom 153 = .ok (.goto (-29), 3) := chkD_at okX7_goesFrom_1 13 rfl
theorem dX7_goesFrom_156 : decode cX7_goesFrom 156 = .ok (.return_, 1) := chkD_at okX7_goesFrom_1 14 rfl
theorem okX7_findSteps_0 : chkD cX7_findSteps [(0, .aload_n 0, 1), (1, .invokevirtual 153, 3), (4, .iconst 0, 1), (5, .istore_n 2, 1), (6, .iload_n 2, 1), (7, .sipush 1840, 3), (10, .if_icmp .ge 27, 3), (13, .aload_n 0, 1), (14, .getfield 47, 3), (17, .iload_n 2, 1), (18, .iconst (-1), 1), (19, .iastore, 1), (20, .aload_n 0, 1), (21, .getfield 53, 3), (24, .iload_n 2, 1), (25, .aload_n 0, 1), (26, .iload_n 2, 1), (27, .invokevirtual 156, 3), (30, .bastore, 1), (31, .iinc 2 1, 3), (34, .goto (-28), 3), (37, .aload_n 0, 1), (38, .iconst 1, 1), (39, .putfield 206, 3), (42, .aload_n 0, 1), (43, .getfield 50, 3), (46, .iconst 0, 1), (47, .aload_n 0, 1), (48, .iload_n 1, 1), (49, .invokevirtual 213, 3), (52, .iastore, 1), (53, .aload_n 0, 1), (54, .getfield 47, 3), (57, .aload_n 0, 1), (58, .getfield 50, 3), (61, .iconst 0, 1), (62, .iaload, 1), (63, .iconst 0, 1), (64, .iastore, 1), (65, .iconst 0, 1), (66, .istore_n 2, 1), (67, .iload_n 2, 1), (68, .aload_n 0, 1), (69, .getfield 206, 3), (72, .if_icmp .ge 19, 3), (75, .aload_n 0, 1), (76, .aload_n 0, 1), (77, .getfield 50, 3), (80, .iload_n 2, 1), (81, .iaload, 1), (82, .invokevirtual 216, 3), (85, .iinc 2 1, 3), (88, .goto (-21), 3), (91, .return_, 1)] = true := by decide +kernel
theorem dX7_findSteps_0 : decode cX7_findSteps 0 = .ok (.aload_n 0, 1) := chkD_at okX7_findSteps_0 0 rfl
theorem dX7_findSteps_1 : decode cX7_findSteps 1 = .ok (.invokevirtual 153, 3) := chkD_at okX7_findSteps_0 1 rfl
theorem dX7_findSteps_4 : decode cX7_findSteps 4 = .ok (.iconst 0, 1) := chkD_at okX7_findSteps_0 2 rfl
theorem dX7_findSteps_5 : decode cX7_findSteps 5 = .ok (.istore_n 2, 1) := chkD_at okX7_findSteps_0 3 rfl
theorem dX7_findSteps_6 : decode cX7_findSteps 6 = .ok (.iload_n 2, 1) := chkD_at okX7_findSteps_0 4 rfl
theorem dX7_findSteps_7 : decode cX7_findSteps 7 = .ok (.sipush 1840, 3) := chkD_at okX7_findSteps_0 5 rfl
theorem dX7_findSteps_10 : decode cX7_findSteps 10 = .ok (.if_icmp .ge 27, 3) := chkD_at okX7_findSteps_0 6 rfl
theorem dX7_findSteps_13 : decode cX7_findSteps 13 = .ok (.aload_n 0, 1) := chkD_at okX7_findSteps_0 7 rfl
theorem dX7_findSteps_14 : decode cX7_findSteps 14 = .ok (.getfield 47, 3) := chkD_at okX7_findSteps_0 8 rfl
theorem dX7_findSteps_17 : decode cX7_findSteps 17 = .ok (.iload_n 2, 1) := chkD_at okX7_findSteps_0 9 rfl
theorem dX7_findSteps_18 : decode cX7_findSteps 18 = .ok (.iconst (-1), 1) := chkD_at okX7_findSteps_0 10 rfl
theorem dX7_findSteps_19 : decode cX7_findSteps 19 = .ok (.iastore, 1) := chkD_at okX7_findSteps_0 11 rfl
theorem dX7_findSteps_20 : decode cX7_findSteps 20 = .ok (.aload_n 0, 1) := chkD_at okX7_findSteps_0 12 rfl
theorem dX7_findSteps_21 : decode cX7_findSteps 21 = .ok (.getfield 53, 3) := chkD_at okX7_findSteps_0 13 rfl
theorem dX7_findSteps_24 : decode cX7_findSteps 24 = .ok (.iload_n 2, 1) := chkD_at okX7_findSteps_0 14 rfl
theorem dX7_findSteps_25 : decode cX7_findSteps 25 = .ok (.aload_n 0, 1) := chkD_at okX7_findSteps_0 15 rfl
theorem dX7_findSteps_26 : decode cX7_findSteps 26 = .ok (.iload_n 2, 1) := chkD_at okX7_findSteps_0 16 rfl
theorem dX7_findSteps_27 : decode cX7_findSteps 27 = .ok (.invokevirtual 156, 3) := chkD_at okX7_findSteps_0 17 rfl
theorem dX7_findSteps_30 : decode cX7_findSteps 30 = .ok (.bastore, 1) := chkD_at okX7_findSteps_0 18 rfl
theorem dX7_findSteps_31 : decode cX7_findSteps 31 = .ok (.iinc 2 1, 3) := chkD_at okX7_findSteps_0 19 rfl
theorem dX7_findSteps_34 : decode cX7_findSteps 34 = .ok (.goto (-28), 3) := chkD_at okX7_findSteps_0 20 rfl
theorem dX7_findSteps_37 : decode cX7_findSteps 37 = .ok (.aload_n 0, 1) := chkD_at okX7_findSteps_0 21 rfl
theorem dX7_findSteps_38 : decode cX7_findSteps 38 = .ok (.iconst 1, 1) := chkD_at okX7_findSteps_0 22 rfl
theorem dX7_findSteps_39 : decode cX7_findSteps 39 = .ok (.putfield 206, 3) := chkD_at okX7_findSteps_0 23 rfl
theorem dX7_findSteps_42 : decode cX7_findSteps 42 = .ok (.aload_n 0, 1) := chkD_at okX7_findSteps_0 24 rfl
theorem dX7_findSteps_43 : decode cX7_findSteps 43 = .ok (.getfield 50, 3) := chkD_at okX7_findSteps_0 25 rfl
theorem dX7_findSteps_46 : decode cX7_findSteps 46 = .ok (.iconst 0, 1) := chkD_at okX7_findSteps_0 26 rfl
theorem dX7_findSteps_47 : decode cX7_findSteps 47 = .ok (.aload_n 0, 1) := chkD_at okX7_findSteps_0 27 rfl
theorem dX7_findSteps_48 : decode cX7_findSteps 48 = .ok (.iload_n 1, 1) := chkD_at okX7_findSteps_0 28 rfl
theorem dX7_findSteps_49 : decode cX7_findSteps 49 = .ok (.invokevirtual 213, 3) := chkD_at okX7_findSteps_0 29 rfl
theorem dX7_findSteps_52 : decode cX7_findSteps 52 = .ok (.iastore, 1) := chkD_at okX7_findSteps_0 30 rfl
theorem dX7_findSteps_53 : decode cX7_findSteps 53 = .ok (.aload_n 0, 1) := chkD_at okX7_findSteps_0 31 rfl
theorem dX7_findSteps_54 : decode cX7_findSteps 54 = .ok (.getfield 47, 3) := chkD_at okX7_findSteps_0 32 rfl
theorem dX7_findSteps_57 : decode cX7_findSteps 57 = .ok (.aload_n 0, 1) := chkD_at okX7_findSteps_0 33 rfl
theorem dX7_findSteps_58 : decode cX7_findSteps 58 = .ok (.getfield 50, 3) := chkD_at okX7_findSteps_0 34 rfl
theorem dX7_findSteps_61 : decode cX7_findSteps 61 = .ok (.iconst 0, 1) := chkD_at okX7_findSteps_0 35 rfl
theorem dX7_findSteps_62 : decode cX7_findSteps 62 = .ok (.iaload, 1) := chkD_at okX7_findSteps_0 36 rfl
theorem dX7_findSteps_63 : decode cX7_findSteps 63 = .ok (.iconst 0, 1) := chkD_at okX7_findSteps_0 37 rfl
theorem dX7_findSteps_64 : decode cX7_findSteps 64 = .ok (.iastore, 1) := chkD_at okX7_findSteps_0 38 rfl
theorem dX7_findSteps_65 : decode cX7_findSteps 65 = .ok (.iconst 0, 1) := chkD_at okX7_findSteps_0 39 rfl
theorem dX7_findSteps_66 : decode cX7_findSteps 66 = .ok (.istore_n 2, 1) := chkD_at okX7_findSteps_0 40 rfl
theorem dX7_findSteps_67 : decode cX7_findSteps 67 = .ok (.iload_n 2, 1) := chkD_at okX7_findSteps_0 41 rfl
theorem dX7_findSteps_68 : decode cX7_findSteps 68 = .ok (.aload_n 0, 1) := chkD_at okX7_findSteps_0 42 rfl
theorem dX7_findSteps_69 : decode cX7_findSteps 69 = .ok (.getfield 206, 3) := chkD_at okX7_findSteps_0 43 rfl
theorem dX7_findSteps_72 : decode cX7_findSteps 72 = .ok (.if_icmp .ge 19, 3) := chkD_at okX7_findSteps_0 44 rfl
theorem dX7_findSteps_75 : decode cX7_findSteps 75 = .ok (.aload_n 0, 1) := chkD_at okX7_findSteps_0 45 rfl
theorem dX7_findSteps_76 : decode cX7_findSteps 76 = .ok (.aload_n 0, 1) := chkD_at okX7_findSteps_0 46 rfl
theorem dX7_findSteps_77 : decode cX7_findSteps 77 = .ok (.getfield 50, 3) := chkD_at okX7_findSteps_0 47 rfl
theorem dX7_findSteps_80 : decode cX7_findSteps 80 = .ok (.iload_n 2, 1) := chkD_at okX7_findSteps_0 48 rfl
theorem dX7_findSteps_81 : decode cX7_findSteps 81 = .ok (.iaload, 1) := chkD_at okX7_findSteps_0 49 rfl
theorem dX7_findSteps_82 : decode cX7_findSteps 82 = .ok (.invokevirtual 216, 3) := chkD_at okX7_findSteps_0 50 rfl
theorem dX7_findSteps_85 : decode cX7_findSteps 85 = .ok (.iinc 2 1, 3) := chkD_at okX7_findSteps_0 51 rfl
theorem dX7_findSteps_88 : decode cX7_findSteps 88 = .ok (.goto (-21), 3) := chkD_at okX7_findSteps_0 52 rfl
theorem dX7_findSteps_91 : decode cX7_findSteps 91 = .ok (.return_, 1) := chkD_at okX7_findSteps_0 53 rfl
theorem okX7_steps_0 : chkD cX7_steps [(0, .aload_n 0, 1), (1, .iload_n 1, 1), (2, .invokevirtual 131, 3), (5, .ifCond .eq 11, 3), (8, .aload_n 0, 1), (9, .iload_n 2, 1), (10, .invokevirtual 131, 3), (13, .ifCond .ne 10, 3), (16, .aload_n 0, 1), (17, .ldc 85, 2), (19, .invokevirtual 104, 3), (22, .ireturn, 1), (23, .aload_n 0, 1), (24, .iload_n 1, 1), (25, .invokevirtual 219, 3), (28, .aload_n 0, 1), (29, .getfield 47, 3), (32, .aload_n 0, 1), (33, .iload_n 2, 1), (34, .invokevirtual 213, 3), (37, .iaload, 1), (38, .istore_n 3, 1), (39, .iload_n 3, 1), (40, .ifCond .ge 12, 3), (43, .aload_n 0, 1), (44, .ldc 127, 2), (46, .invokevirtual 104, 3), (49, .goto 4, 3), (52, .iload_n 3, 1), (53, .ireturn, 1)] = true := by decide +kernel
theorem dX7_steps_0 : decode cX7_steps 0 = .ok (.aload_n 0, 1) := chkD_at okX7_steps_0 0 rfl
theorem dX7_steps_1 : decode cX7_steps 1 = .ok (.iload_n 1, 1) := chkD_at okX7_steps_0 1 rfl
theorem dX7_steps_2 : decode cX7_steps 2 = .ok (.invokevirtual 131, 3) := chkD_at okX7_steps_0 2 rfl
theorem dX7_steps_5 : decode cX7_steps 5 = .ok (.ifCond .eq 11, 3) := chkD_at okX7_steps_0 3 rfl
theorem dX7_steps_8 : decode cX7_steps 8 = .ok (.aload_n 0, 1) := chkD_at okX7_steps_0 4 rfl
theorem dX7_steps_9 : decode cX7_steps 9 = .ok (.iload_n 2, 1) := chkD_at okX7_steps_0 5 rfl
theorem dX7_steps_10 : decode cX7_steps 10 = .ok (.invokevirtual 131, 3) := chkD_at okX7_steps_0 6 rfl
theorem dX7_steps_13 : decode cX7_steps 13 = .ok (.ifCond .ne 10, 3) := chkD_at okX7_steps_0 7 rfl
theorem dX7_steps_16 : decode cX7_steps 16 = .ok (.aload_n 0, 1) := chkD_at okX7_steps_0 8 rfl
theorem dX7_steps_17 : decode cX7_steps 17 = .ok (.ldc 85, 2) := chkD_at okX7_steps_0 9 rfl
theorem dX7_steps_19 : decode cX7_steps 19 = .ok (.invokevirtual 104, 3) := chkD_at okX7_steps_0 10 rfl
theorem dX7_steps_22 : decode cX7_steps 22 = .ok (.ireturn, 1) := chkD_at okX7_steps_0 11 rfl
theorem dX7_steps_23 : decode cX7_steps 23 = .ok (.aload_n 0, 1) := chkD_at okX7_steps_0 12 rfl
theorem dX7_steps_24 : decode cX7_steps 24 = .ok (.iload_n 1, 1) := chkD_at okX7_steps_0 13 rfl
theorem dX7_steps_25 : decode cX7_steps 25 = .ok (.invokevirtual 219, 3) := chkD_at okX7_steps_0 14 rfl
theorem dX7_steps_28 : decode cX7_steps 28 = .ok (.aload_n 0, 1) := chkD_at okX7_steps_0 15 rfl
theorem dX7_steps_29 : decode cX7_steps 29 = .ok (.getfield 47, 3) := chkD_at okX7_steps_0 16 rfl
theorem dX7_steps_32 : decode cX7_steps 32 = .ok (.aload_n 0, 1) := chkD_at okX7_steps_0 17 rfl
theorem dX7_steps_33 : decode cX7_steps 33 = .ok (.iload_n 2, 1) := chkD_at okX7_steps_0 18 rfl
theorem dX7_steps_34 : decode cX7_steps 34 = .ok (.invokevirtual 213, 3) := chkD_at okX7_steps_0 19 rfl
theorem dX7_steps_37 : decode cX7_steps 37 = .ok (.iaload, 1) := chkD_at okX7_steps_0 20 rfl
theorem dX7_steps_38 : decode cX7_steps 38 = .ok (.istore_n 3, 1) := chkD_at okX7_steps_0 21 rfl
theorem dX7_steps_39 : decode cX7_steps 39 = .ok (.iload_n 3, 1) := chkD_at okX7_steps_0 22 rfl
theorem dX7_steps_40 : decode cX7_steps 40 = .ok (.ifCond .ge 12, 3) := chkD_at okX7_steps_0 23 rfl
theorem dX7_steps_43 : decode cX7_steps 43 = .ok (.aload_n 0, 1) := chkD_at okX7_steps_0 24 rfl
theorem dX7_steps_44 : decode cX7_steps 44 = .ok (.ldc 127, 2) := chkD_at okX7_steps_0 25 rfl
theorem dX7_steps_46 : decode cX7_steps 46 = .ok (.invokevirtual 104, 3) := chkD_at okX7_steps_0 26 rfl
theorem dX7_steps_49 : decode cX7_steps 49 = .ok (.goto 4, 3) := chkD_at okX7_steps_0 27 rfl
theorem dX7_steps_52 : decode cX7_steps 52 = .ok (.iload_n 3, 1) := chkD_at okX7_steps_0 28 rfl
theorem dX7_steps_53 : decode cX7_steps 53 = .ok (.ireturn, 1) := chkD_at okX7_steps_0 29 rfl
theorem okX7_within_0 : chkD cX7_within [(0, .aload_n 0, 1), (1, .iload_n 1, 1), (2, .invokevirtual 131, 3), (5, .ifCond .eq 13, 3), (8, .iload_n 2, 1), (9, .iconst 0, 1), (10, .bipush 12, 2), (12, .invokestatic 86, 3), (15, .ifCond .ne 10, 3), (18, .aload_n 0, 1), (19, .ldc 85, 2), (21, .invokevirtual 104, 3), (24, .ireturn, 1), (25, .aload_n 0, 1), (26, .iload_n 1, 1), (27, .invokevirtual 219, 3), (30, .iconst 0, 1), (31, .istore_n 3, 1), (32, .iconst 0, 1), (33, .istore 4, 2), (35, .iload 4, 2), (37, .aload_n 0, 1), (38, .getfield 206, 3), (41, .if_icmp .ge 33, 3), (44, .iload_n 3, 1), (45, .aload_n 0, 1), (46, .getfield 47, 3), (49, .aload_n 0, 1), (50, .getfield 50, 3), (53, .iload 4, 2), (55, .iaload, 1), (56, .iaload, 1), (57, .iload_n 2, 1), (58, .if_icmp .gt 7, 3), (61, .iconst 1, 1), (62, .goto 4, 3), (65, .iconst 0, 1), (66, .iadd, 1), (67, .istore_n 3, 1), (68, .iinc 4 1, 3), (71, .goto (-36), 3), (74, .iload_n 3, 1), (75, .ireturn, 1)] = true := by decide +kernel
theorem dX7_within_0 : decode cX7_within 0 = .ok (.aload_n 0, 1) := chkD_at okX7_within_0 0 rfl
theorem dX7_within_1 : decode cX7_within 1 = .ok (.iload_n 1, 1) := chkD_at okX7_within_0 1 rfl
theorem dX7_within_2 : decode cX7_within 2 = .ok (.invokevirtual 131, 3) := chkD_at okX7_within_0 2 rfl
theorem dX7_within_5 : decode cX7_within 5 = .ok (.ifCond .eq 13, 3) := chkD_at okX7_within_0 3 rfl
theorem dX7_within_8 : decode cX7_within 8 = .ok (.iload_n 2, 1) := chkD_at okX7_within_0 4 rfl
theorem dX7_within_9 : decode cX7_within 9 = .ok (.iconst 0, 1) := chkD_at okX7_within_0 5 rfl
theorem dX7_within_10 : decode cX7_within 10 = .ok (.bipush 12, 2) := chkD_at okX7_within_0 6 rfl
theorem dX7_within_12 : decode cX7_within 12 = .ok (.invokestatic 86, 3) := chkD_at okX7_within_0 7 rfl
theorem dX7_within_15 : decode cX7_within 15 = .ok (.ifCond .ne 10, 3) := chkD_at okX7_within_0 8 rfl
theorem dX7_within_18 : decode cX7_within 18 = .ok (.aload_n 0, 1) := chkD_at okX7_within_0 9 rfl
theorem dX7_within_19 : decode cX7_within 19 = .ok (.ldc 85, 2) := chkD_at okX7_within_0 10 rfl
theorem dX7_within_21 : decode cX7_within 21 = .ok (.invokevirtual 104, 3) := chkD_at okX7_within_0 11 rfl
theorem dX7_within_24 : decode cX7_within 24 = .ok (.ireturn, 1) := chkD_at okX7_within_0 12 rfl
theorem dX7_within_25 : decode cX7_within 25 = .ok (.aload_n 0, 1) := chkD_at okX7_within_0 13 rfl
theorem dX7_within_26 : decode cX7_within 26 = .ok (.iload_n 1, 1) := chkD_at okX7_within_0 14 rfl
theorem dX7_within_27 : decode cX7_within 27 = .ok (.invokevirtual 219, 3) := chkD_at okX7_within_0 15 rfl
theorem dX7_within_30 : decode cX7_within 30 = .ok (.iconst 0, 1) := chkD_at okX7_within_0 16 rfl
theorem dX7_within_31 : decode cX7_within 31 = .ok (.istore_n 3, 1) := chkD_at okX7_within_0 17 rfl
theorem dX7_within_32 : decode cX7_within 32 = .ok (.iconst 0, 1) := chkD_at okX7_within_0 18 rfl
theorem dX7_within_33 : decode cX7_within 33 = .ok (.istore 4, 2) := chkD_at okX7_within_0 19 rfl
theorem dX7_within_35 : decode cX7_within 35 = .ok (.iload 4, 2) := chkD_at okX7_within_0 20 rfl
theorem dX7_within_37 : decode cX7_within 37 = .ok (.aload_n 0, 1) := chkD_at okX7_within_0 21 rfl
theorem dX7_within_38 : decode cX7_within 38 = .ok (.getfield 206, 3) := chkD_at okX7_within_0 22 rfl
theorem dX7_within_41 : decode cX7_within 41 = .ok (.if_icmp .ge 33, 3) := chkD_at okX7_within_0 23 rfl
theorem dX7_within_44 : decode cX7_within 44 = .ok (.iload_n 3, 1) := chkD_at okX7_within_0 24 rfl
theorem dX7_within_45 : decode cX7_within 45 = .ok (.aload_n 0, 1) := chkD_at okX7_within_0 25 rfl
theorem dX7_within_46 : decode cX7_within 46 = .ok (.getfield 47, 3) := chkD_at okX7_within_0 26 rfl
theorem dX7_within_49 : decode cX7_within 49 = .ok (.aload_n 0, 1) := chkD_at okX7_within_0 27 rfl
theorem dX7_within_50 : decode cX7_within 50 = .ok (.getfield 50, 3) := chkD_at okX7_within_0 28 rfl
theorem dX7_within_53 : decode cX7_within 53 = .ok (.iload 4, 2) := chkD_at okX7_within_0 29 rfl
theorem dX7_within_55 : decode cX7_within 55 = .ok (.iaload, 1) := chkD_at okX7_within_0 30 rfl
theorem dX7_within_56 : decode cX7_within 56 = .ok (.iaload, 1) := chkD_at okX7_within_0 31 rfl
theorem dX7_within_57 : decode cX7_within 57 = .ok (.iload_n 2, 1) := chkD_at okX7_within_0 32 rfl
theorem dX7_within_58 : decode cX7_within 58 = .ok (.if_icmp .gt 7, 3) := chkD_at okX7_within_0 33 rfl
theorem dX7_within_61 : decode cX7_within 61 = .ok (.iconst 1, 1) := chkD_at okX7_within_0 34 rfl
theorem dX7_within_62 : decode cX7_within 62 = .ok (.goto 4, 3) := chkD_at okX7_within_0 35 rfl
theorem dX7_within_65 : decode cX7_within 65 = .ok (.iconst 0, 1) := chkD_at okX7_within_0 36 rfl
theorem dX7_within_66 : decode cX7_within 66 = .ok (.iadd, 1) := chkD_at okX7_within_0 37 rfl
theorem dX7_within_67 : decode cX7_within 67 = .ok (.istore_n 3, 1) := chkD_at okX7_within_0 38 rfl
theorem dX7_within_68 : decode cX7_within 68 = .ok (.iinc 4 1, 3) := chkD_at okX7_within_0 39 rfl
theorem dX7_within_71 : decode cX7_within 71 = .ok (.goto (-36), 3) := chkD_at okX7_within_0 40 rfl
theorem dX7_within_74 : decode cX7_within 74 = .ok (.iload_n 3, 1) := chkD_at okX7_within_0 41 rfl
theorem dX7_within_75 : decode cX7_within 75 = .ok (.ireturn, 1) := chkD_at okX7_within_0 42 rfl
theorem okX7_walk_0 : chkD cX7_walk [(0, .aload_n 0, 1), (1, .iload_n 1, 1), (2, .invokevirtual 131, 3), (5, .ifCond .eq 13, 3), (8, .iload_n 2, 1), (9, .iconst 1, 1), (10, .bipush 12, 2), (12, .invokestatic 86, 3), (15, .ifCond .ne 10, 3), (18, .aload_n 0, 1), (19, .ldc 85, 2), (21, .invokevirtual 104, 3), (24, .ireturn, 1), (25, .aload_n 0, 1), (26, .iload_n 1, 1), (27, .invokevirtual 219, 3), (30, .iconst (-1), 1), (31, .istore_n 3, 1), (32, .iconst 0, 1), (33, .istore 4, 2), (35, .iconst 0, 1), (36, .istore 5, 2), (38, .iload 5, 2), (40, .sipush 1840, 3), (43, .if_icmp .ge 63, 3), (46, .aload_n 0, 1), (47, .getfield 47, 3), (50, .iload 5, 2), (52, .iaload, 1), (53, .iconst 0, 1), (54, .iload_n 2, 1), (55, .invokestatic 86, 3), (58, .ifCond .eq 42, 3), (61, .aload_n 0, 1), (62, .iload 5, 2), (64, .invokevirtual 156, 3), (67, .ifCond .eq 33, 3), (70, .aload_n 0, 1), (71, .aload_n 0, 1), (72, .iload 5, 2), (74, .invokevirtual 150, 3), (77, .invokevirtual 134, 3), (80, .istore 6, 2), (82, .iload_n 3, 1), (83, .ifCond .lt 10, 3), (86, .iload 6, 2), (88, .iload 4, 2), (90, .if_icmp .le 10, 3), (93, .iload 5, 2), (95, .istore_n 3, 1), (96, .iload 6, 2), (98, .istore 4, 2), (100, .iinc 5 1, 3), (103, .goto (-65), 3), (106, .iload_n 3, 1), (107, .ifCond .ge 12, 3), (110, .aload_n 0, 1), (111, .ldc 127, 2), (113, .invokevirtual 104, 3), (116, .goto 8, 3), (119, .aload_n 0, 1), (120, .iload_n 3, 1), (121, .invokevirtual 150, 3), (124, .ireturn, 1)] = true := by decide +kernel
theorem dX7_walk_0 : decode cX7_walk 0 = .ok (.aload_n 0, 1) := chkD_at okX7_walk_0 0 rfl
theorem dX7_walk_1 : decode cX7_walk 1 = .ok (.iload_n 1, 1) := chkD_at okX7_walk_0 1 rfl
theorem dX7_walk_2 : decode cX7_walk 2 = .ok (.invokevirtual 131, 3) := chkD_at okX7_walk_0 2 rfl
theorem dX7_walk_5 : decode cX7_walk 5 = .ok (.ifCond .eq 13, 3) := chkD_at okX7_walk_0 3 rfl
theorem dX7_walk_8 : decode cX7_walk 8 = .ok (.iload_n 2, 1) := chkD_at okX7_walk_0 4 rfl
theorem dX7_walk_9 : decode cX7_walk 9 = .ok (.iconst 1, 1) := chkD_at okX7_walk_0 5 rfl
theorem dX7_walk_10 : decode cX7_walk 10 = .ok (.bipush 12, 2) := chkD_at okX7_walk_0 6 rfl
theorem dX7_walk_12 : decode cX7_walk 12 = .ok (.invokestatic 86, 3) := chkD_at okX7_walk_0 7 rfl
theorem dX7_walk_15 : decode cX7_walk 15 = .ok (.ifCond .ne 10, 3) := chkD_at okX7_walk_0 8 rfl
theorem dX7_walk_18 : decode cX7_walk 18 = .ok (.aload_n 0, 1) := chkD_at okX7_walk_0 9 rfl
theorem dX7_walk_19 : decode cX7_walk 19 = .ok (.ldc 85, 2) := chkD_at okX7_walk_0 10 rfl
theorem dX7_walk_21 : decode cX7_walk 21 = .ok (.invokevirtual 104, 3) := chkD_at okX7_walk_0 11 rfl
theorem dX7_walk_24 : decode cX7_walk 24 = .ok (.ireturn, 1) := chkD_at okX7_walk_0 12 rfl
theorem dX7_walk_25 : decode cX7_walk 25 = .ok (.aload_n 0, 1) := chkD_at okX7_walk_0 13 rfl
theorem dX7_walk_26 : decode cX7_walk 26 = .ok (.iload_n 1, 1) := chkD_at okX7_walk_0 14 rfl
theorem dX7_walk_27 : decode cX7_walk 27 = .ok (.invokevirtual 219, 3) := chkD_at okX7_walk_0 15 rfl
theorem dX7_walk_30 : decode cX7_walk 30 = .ok (.iconst (-1), 1) := chkD_at okX7_walk_0 16 rfl
theorem dX7_walk_31 : decode cX7_walk 31 = .ok (.istore_n 3, 1) := chkD_at okX7_walk_0 17 rfl
theorem dX7_walk_32 : decode cX7_walk 32 = .ok (.iconst 0, 1) := chkD_at okX7_walk_0 18 rfl
theorem dX7_walk_33 : decode cX7_walk 33 = .ok (.istore 4, 2) := chkD_at okX7_walk_0 19 rfl
theorem dX7_walk_35 : decode cX7_walk 35 = .ok (.iconst 0, 1) := chkD_at okX7_walk_0 20 rfl
theorem dX7_walk_36 : decode cX7_walk 36 = .ok (.istore 5, 2) := chkD_at okX7_walk_0 21 rfl
theorem dX7_walk_38 : decode cX7_walk 38 = .ok (.iload 5, 2) := chkD_at okX7_walk_0 22 rfl
theorem dX7_walk_40 : decode cX7_walk 40 = .ok (.sipush 1840, 3) := chkD_at okX7_walk_0 23 rfl
theorem dX7_walk_43 : decode cX7_walk 43 = .ok (.if_icmp .ge 63, 3) := chkD_at okX7_walk_0 24 rfl
theorem dX7_walk_46 : decode cX7_walk 46 = .ok (.aload_n 0, 1) := chkD_at okX7_walk_0 25 rfl
theorem dX7_walk_47 : decode cX7_walk 47 = .ok (.getfield 47, 3) := chkD_at okX7_walk_0 26 rfl
theorem dX7_walk_50 : decode cX7_walk 50 = .ok (.iload 5, 2) := chkD_at okX7_walk_0 27 rfl
theorem dX7_walk_52 : decode cX7_walk 52 = .ok (.iaload, 1) := chkD_at okX7_walk_0 28 rfl
theorem dX7_walk_53 : decode cX7_walk 53 = .ok (.iconst 0, 1) := chkD_at okX7_walk_0 29 rfl
theorem dX7_walk_54 : decode cX7_walk 54 = .ok (.iload_n 2, 1) := chkD_at okX7_walk_0 30 rfl
theorem dX7_walk_55 : decode cX7_walk 55 = .ok (.invokestatic 86, 3) := chkD_at okX7_walk_0 31 rfl
theorem dX7_walk_58 : decode cX7_walk 58 = .ok (.ifCond .eq 42, 3) := chkD_at okX7_walk_0 32 rfl
theorem dX7_walk_61 : decode cX7_walk 61 = .ok (.aload_n 0, 1) := chkD_at okX7_walk_0 33 rfl
theorem dX7_walk_62 : decode cX7_walk 62 = .ok (.iload 5, 2) := chkD_at okX7_walk_0 34 rfl
theorem dX7_walk_64 : decode cX7_walk 64 = .ok (.invokevirtual 156, 3) := chkD_at okX7_walk_0 35 rfl
theorem dX7_walk_67 : decode cX7_walk 67 = .ok (.ifCond .eq 33, 3) := chkD_at okX7_walk_0 36 rfl
theorem dX7_walk_70 : decode cX7_walk 70 = .ok (.aload_n 0, 1) := chkD_at okX7_walk_0 37 rfl
theorem dX7_walk_71 : decode cX7_walk 71 = .ok (.aload_n 0, 1) := chkD_at okX7_walk_0 38 rfl
theorem dX7_walk_72 : decode cX7_walk 72 = .ok (.iload 5, 2) := chkD_at okX7_walk_0 39 rfl
theorem dX7_walk_74 : decode cX7_walk 74 = .ok (.invokevirtual 150, 3) := chkD_at okX7_walk_0 40 rfl
theorem dX7_walk_77 : decode cX7_walk 77 = .ok (.invokevirtual 134, 3) := chkD_at okX7_walk_0 41 rfl
theorem dX7_walk_80 : decode cX7_walk 80 = .ok (.istore 6, 2) := chkD_at okX7_walk_0 42 rfl
theorem dX7_walk_82 : decode cX7_walk 82 = .ok (.iload_n 3, 1) := chkD_at okX7_walk_0 43 rfl
theorem dX7_walk_83 : decode cX7_walk 83 = .ok (.ifCond .lt 10, 3) := chkD_at okX7_walk_0 44 rfl
theorem dX7_walk_86 : decode cX7_walk 86 = .ok (.iload 6, 2) := chkD_at okX7_walk_0 45 rfl
theorem dX7_walk_88 : decode cX7_walk 88 = .ok (.iload 4, 2) := chkD_at okX7_walk_0 46 rfl
theorem dX7_walk_90 : decode cX7_walk 90 = .ok (.if_icmp .le 10, 3) := chkD_at okX7_walk_0 47 rfl
theorem dX7_walk_93 : decode cX7_walk 93 = .ok (.iload 5, 2) := chkD_at okX7_walk_0 48 rfl
theorem dX7_walk_95 : decode cX7_walk 95 = .ok (.istore_n 3, 1) := chkD_at okX7_walk_0 49 rfl
theorem dX7_walk_96 : decode cX7_walk 96 = .ok (.iload 6, 2) := chkD_at okX7_walk_0 50 rfl
theorem dX7_walk_98 : decode cX7_walk 98 = .ok (.istore 4, 2) := chkD_at okX7_walk_0 51 rfl
theorem dX7_walk_100 : decode cX7_walk 100 = .ok (.iinc 5 1, 3) := chkD_at okX7_walk_0 52 rfl
theorem dX7_walk_103 : decode cX7_walk 103 = .ok (.goto (-65), 3) := chkD_at okX7_walk_0 53 rfl
theorem dX7_walk_106 : decode cX7_walk 106 = .ok (.iload_n 3, 1) := chkD_at okX7_walk_0 54 rfl
theorem dX7_walk_107 : decode cX7_walk 107 = .ok (.ifCond .ge 12, 3) := chkD_at okX7_walk_0 55 rfl
theorem dX7_walk_110 : decode cX7_walk 110 = .ok (.aload_n 0, 1) := chkD_at okX7_walk_0 56 rfl
theorem dX7_walk_111 : decode cX7_walk 111 = .ok (.ldc 127, 2) := chkD_at okX7_walk_0 57 rfl
theorem dX7_walk_113 : decode cX7_walk 113 = .ok (.invokevirtual 104, 3) := chkD_at okX7_walk_0 58 rfl
theorem dX7_walk_116 : decode cX7_walk 116 = .ok (.goto 8, 3) := chkD_at okX7_walk_0 59 rfl
theorem dX7_walk_119 : decode cX7_walk 119 = .ok (.aload_n 0, 1) := chkD_at okX7_walk_0 60 rfl
theorem dX7_walk_120 : decode cX7_walk 120 = .ok (.iload_n 3, 1) := chkD_at okX7_walk_0 61 rfl
theorem dX7_walk_121 : decode cX7_walk 121 = .ok (.invokevirtual 150, 3) := chkD_at okX7_walk_0 62 rfl
theorem dX7_walk_124 : decode cX7_walk 124 = .ok (.ireturn, 1) := chkD_at okX7_walk_0 63 rfl
theorem okX7_now_0 : chkD cX7_now [(0, .iconst 0, 1), (1, .istore_n 2, 1), (2, .iload_n 1, 1), (3, .tableswitch 100 0 3 #[29, 34, 39, 75], 29), (32, .aload_n 0, 1), (33, .getfield 163, 3), (36, .ireturn, 1), (37, .aload_n 0, 1), (38, .getfield 93, 3), (41, .ireturn, 1), (42, .iconst 0, 1), (43, .istore_n 3, 1), (44, .iload_n 3, 1), (45, .aload_n 0, 1), (46, .getfield 93, 3), (49, .if_icmp .ge 27, 3), (52, .iload_n 2, 1), (53, .aload_n 0, 1), (54, .getfield 19, 3), (57, .iload_n 3, 1), (58, .iaload, 1), (59, .iconst 2, 1), (60, .if_icmp .ne 7, 3), (63, .iconst 1, 1), (64, .goto 4, 3), (67, .iconst 0, 1), (68, .iadd, 1), (69, .istore_n 2, 1), (70, .iinc 3 1, 3), (73, .goto (-29), 3), (76, .iload_n 2, 1), (77, .ireturn, 1), (78, .iconst 0, 1), (79, .istore_n 3, 1), (80, .iload_n 3, 1), (81, .bipush 8, 2), (83, .if_icmp .ge 18, 3), (86, .iload_n 2, 1), (87, .aload_n 0, 1), (88, .getfield 7, 3), (91, .iload_n 3, 1), (92, .iaload, 1), (93, .iadd, 1), (94, .istore_n 2, 1), (95, .iinc 3 1, 3), (98, .goto (-18), 3), (101, .iload_n 2, 1), (102, .ireturn, 1), (103, .aload_n 0, 1), (104, .ldc 85, 2), (106, .invokevirtual 104, 3), (109, .ireturn, 1)] = true := by decide +kernel
theorem dX7_now_0 : decode cX7_now 0 = .ok (.iconst 0, 1) := chkD_at okX7_now_0 0 rfl
theorem dX7_now_1 : decode cX7_now 1 = .ok (.istore_n 2, 1) := chkD_at okX7_now_0 1 rfl
theorem dX7_now_2 : decode cX7_now 2 = .ok (.iload_n 1, 1) := chkD_at okX7_now_0 2 rfl
theorem dX7_now_3 : decode cX7_now 3 = .ok (.tableswitch 100 0 3 #[29, 34, 39, 75], 29) := chkD_at okX7_now_0 3 rfl
theorem dX7_now_32 : decode cX7_now 32 = .ok (.aload_n 0, 1) := chkD_at okX7_now_0 4 rfl
theorem dX7_now_33 : decode cX7_now 33 = .ok (.getfield 163, 3) := chkD_at okX7_now_0 5 rfl
theorem dX7_now_36 : decode cX7_now 36 = .ok (.ireturn, 1) := chkD_at okX7_now_0 6 rfl
theorem dX7_now_37 : decode cX7_now 37 = .ok (.aload_n 0, 1) := chkD_at okX7_now_0 7 rfl
theorem dX7_now_38 : decode cX7_now 38 = .ok (.getfield 93, 3) := chkD_at okX7_now_0 8 rfl
theorem dX7_now_41 : decode cX7_now 41 = .ok (.ireturn, 1) := chkD_at okX7_now_0 9 rfl
theorem dX7_now_42 : decode cX7_now 42 = .ok (.iconst 0, 1) := chkD_at okX7_now_0 10 rfl
theorem dX7_now_43 : decode cX7_now 43 = .ok (.istore_n 3, 1) := chkD_at okX7_now_0 11 rfl
theorem dX7_now_44 : decode cX7_now 44 = .ok (.iload_n 3, 1) := chkD_at okX7_now_0 12 rfl
theorem dX7_now_45 : decode cX7_now 45 = .ok (.aload_n 0, 1) := chkD_at okX7_now_0 13 rfl
theorem dX7_now_46 : decode cX7_now 46 = .ok (.getfield 93, 3) := chkD_at okX7_now_0 14 rfl
theorem dX7_now_49 : decode cX7_now 49 = .ok (.if_icmp .ge 27, 3) := chkD_at okX7_now_0 15 rfl
theorem dX7_now_52 : decode cX7_now 52 = .ok (.iload_n 2, 1) := chkD_at okX7_now_0 16 rfl
theorem dX7_now_53 : decode cX7_now 53 = .ok (.aload_n 0, 1) := chkD_at okX7_now_0 17 rfl
theorem dX7_now_54 : decode cX7_now 54 = .ok (.getfield 19, 3) := chkD_at okX7_now_0 18 rfl
theorem dX7_now_57 : decode cX7_now 57 = .ok (.iload_n 3, 1) := chkD_at okX7_now_0 19 rfl
theorem dX7_now_58 : decode cX7_now 58 = .ok (.iaload, 1) := chkD_at okX7_now_0 20 rfl
theorem dX7_now_59 : decode cX7_now 59 = .ok (.iconst 2, 1) := chkD_at okX7_now_0 21 rfl
theorem dX7_now_60 : decode cX7_now 60 = .ok (.if_icmp .ne 7, 3) := chkD_at okX7_now_0 22 rfl
theorem dX7_now_63 : decode cX7_now 63 = .ok (.iconst 1, 1) := chkD_at okX7_now_0 23 rfl
theorem dX7_now_64 : decode cX7_now 64 = .ok (.goto 4, 3) := chkD_at okX7_now_0 24 rfl
theorem dX7_now_67 : decode cX7_now 67 = .ok (.iconst 0, 1) := chkD_at okX7_now_0 25 rfl
theorem dX7_now_68 : decode cX7_now 68 = .ok (.iadd, 1) := chkD_at okX7_now_0 26 rfl
theorem dX7_now_69 : decode cX7_now 69 = .ok (.istore_n 2, 1) := chkD_at okX7_now_0 27 rfl
theorem dX7_now_70 : decode cX7_now 70 = .ok (.iinc 3 1, 3) := chkD_at okX7_now_0 28 rfl
theorem dX7_now_73 : decode cX7_now 73 = .ok (.goto (-29), 3) := chkD_at okX7_now_0 29 rfl
theorem dX7_now_76 : decode cX7_now 76 = .ok (.iload_n 2, 1) := chkD_at okX7_now_0 30 rfl
theorem dX7_now_77 : decode cX7_now 77 = .ok (.ireturn, 1) := chkD_at okX7_now_0 31 rfl
theorem dX7_now_78 : decode cX7_now 78 = .ok (.iconst 0, 1) := chkD_at okX7_now_0 32 rfl
theorem dX7_now_79 : decode cX7_now 79 = .ok (.istore_n 3, 1) := chkD_at okX7_now_0 33 rfl
theorem dX7_now_80 : decode cX7_now 80 = .ok (.iload_n 3, 1) := chkD_at okX7_now_0 34 rfl
theorem dX7_now_81 : decode cX7_now 81 = .ok (.bipush 8, 2) := chkD_at okX7_now_0 35 rfl
theorem dX7_now_83 : decode cX7_now 83 = .ok (.if_icmp .ge 18, 3) := chkD_at okX7_now_0 36 rfl
theorem dX7_now_86 : decode cX7_now 86 = .ok (.iload_n 2, 1) := chkD_at okX7_now_0 37 rfl
theorem dX7_now_87 : decode cX7_now 87 = .ok (.aload_n 0, 1) := chkD_at okX7_now_0 38 rfl
theorem dX7_now_88 : decode cX7_now 88 = .ok (.getfield 7, 3) := chkD_at okX7_now_0 39 rfl
theorem dX7_now_91 : decode cX7_now 91 = .ok (.iload_n 3, 1) := chkD_at okX7_now_0 40 rfl
theorem dX7_now_92 : decode cX7_now 92 = .ok (.iaload, 1) := chkD_at okX7_now_0 41 rfl
theorem dX7_now_93 : decode cX7_now 93 = .ok (.iadd, 1) := chkD_at okX7_now_0 42 rfl
theorem dX7_now_94 : decode cX7_now 94 = .ok (.istore_n 2, 1) := chkD_at okX7_now_0 43 rfl
theorem dX7_now_95 : decode cX7_now 95 = .ok (.iinc 3 1, 3) := chkD_at okX7_now_0 44 rfl
theorem dX7_now_98 : decode cX7_now 98 = .ok (.goto (-18), 3) := chkD_at okX7_now_0 45 rfl
theorem dX7_now_101 : decode cX7_now 101 = .ok (.iload_n 2, 1) := chkD_at okX7_now_0 46 rfl
theorem dX7_now_102 : decode cX7_now 102 = .ok (.ireturn, 1) := chkD_at okX7_now_0 47 rfl
theorem dX7_now_103 : decode cX7_now 103 = .ok (.aload_n 0, 1) := chkD_at okX7_now_0 48 rfl
theorem dX7_now_104 : decode cX7_now 104 = .ok (.ldc 85, 2) := chkD_at okX7_now_0 49 rfl
theorem dX7_now_106 : decode cX7_now 106 = .ok (.invokevirtual 104, 3) := chkD_at okX7_now_0 50 rfl
theorem dX7_now_109 : decode cX7_now 109 = .ok (.ireturn, 1) := chkD_at okX7_now_0 51 rfl
theorem okX7_feed_0 : chkD cX7_feed [(0, .iload_n 2, 1), (1, .iconst 1, 1), (2, .iconst 4, 1), (3, .invokestatic 86, 3), (6, .ifCond .ne 10, 3), (9, .aload_n 0, 1), (10, .ldc 85, 2), (12, .invokevirtual 104, 3), (15, .ireturn, 1), (16, .aload_n 0, 1), (17, .getfield 222, 3), (20, .iload_n 2, 1), (21, .iadd, 1), (22, .bipush 120, 2), (24, .if_icmp .le 10, 3), (27, .aload_n 0, 1), (28, .ldc 162, 2), (30, .invokevirtual 104, 3), (33, .ireturn, 1), (34, .iload_n 2, 1), (35, .iconst 1, 1), (36, .isub, 1), (37, .istore_n 3, 1), (38, .iload_n 3, 1), (39, .ifCond .lt 38, 3), (42, .aload_n 0, 1), (43, .getfield 56, 3), (46, .aload_n 0, 1), (47, .getfield 222, 3), (50, .iload_n 1, 1), (51, .bipush 8, 2), (53, .iload_n 3, 1), (54, .imul, 1), (55, .ishr, 1), (56, .sipush 255, 3), (59, .iand, 1), (60, .iastore, 1), (61, .aload_n 0, 1), (62, .dup, 1), (63, .getfield 222, 3), (66, .iconst 1, 1), (67, .iadd, 1), (68, .putfield 222, 3), (71, .iinc 3 (-1), 3), (74, .goto (-36), 3), (77, .aload_n 0, 1), (78, .getfield 222, 3), (81, .ireturn, 1)] = true := by decide +kernel
theorem dX7_feed_0 : decode cX7_feed 0 = .ok (.iload_n 2, 1) := chkD_at okX7_feed_0 0 rfl
theorem dX7_feed_1 : decode cX7_feed 1 = .ok (.iconst 1, 1) := chkD_at okX7_feed_0 1 rfl
theorem dX7_feed_2 : decode cX7_feed 2 = .ok (.iconst 4, 1) := chkD_at okX7_feed_0 2 rfl
theorem dX7_feed_3 : decode cX7_feed 3 = .ok (.invokestatic 86, 3) := chkD_at okX7_feed_0 3 rfl
theorem dX7_feed_6 : decode cX7_feed 6 = .ok (.ifCond .ne 10, 3) := chkD_at okX7_feed_0 4 rfl
theorem dX7_feed_9 : decode cX7_feed 9 = .ok (.aload_n 0, 1) := chkD_at okX7_feed_0 5 rfl
theorem dX7_feed_10 : decode cX7_feed 10 = .ok (.ldc 85, 2) := chkD_at okX7_feed_0 6 rfl
theorem dX7_feed_12 : decode cX7_feed 12 = .ok (.invokevirtual 104, 3) := chkD_at okX7_feed_0 7 rfl
theorem dX7_feed_15 : decode cX7_feed 15 = .ok (.ireturn, 1) := chkD_at okX7_feed_0 8 rfl
theorem dX7_feed_16 : decode cX7_feed 16 = .ok (.aload_n 0, 1) := chkD_at okX7_feed_0 9 rfl
theorem dX7_feed_17 : decode cX7_feed 17 = .ok (.getfield 222, 3) := chkD_at okX7_feed_0 10 rfl
theorem dX7_feed_20 : decode cX7_feed 20 = .ok (.iload_n 2, 1) := chkD_at okX7_feed_0 11 rfl
theorem dX7_feed_21 : decode cX7_feed 21 = .ok (.iadd, 1) := chkD_at okX7_feed_0 12 rfl
theorem dX7_feed_22 : decode cX7_feed 22 = .ok (.bipush 120, 2) := chkD_at okX7_feed_0 13 rfl
theorem dX7_feed_24 : decode cX7_feed 24 = .ok (.if_icmp .le 10, 3) := chkD_at okX7_feed_0 14 rfl
theorem dX7_feed_27 : decode cX7_feed 27 = .ok (.aload_n 0, 1) := chkD_at okX7_feed_0 15 rfl
theorem dX7_feed_28 : decode cX7_feed 28 = .ok (.ldc 162, 2) := chkD_at okX7_feed_0 16 rfl
theorem dX7_feed_30 : decode cX7_feed 30 = .ok (.invokevirtual 104, 3) := chkD_at okX7_feed_0 17 rfl
theorem dX7_feed_33 : decode cX7_feed 33 = .ok (.ireturn, 1) := chkD_at okX7_feed_0 18 rfl
theorem dX7_feed_34 : decode cX7_feed 34 = .ok (.iload_n 2, 1) := chkD_at okX7_feed_0 19 rfl
theorem dX7_feed_35 : decode cX7_feed 35 = .ok (.iconst 1, 1) := chkD_at okX7_feed_0 20 rfl
theorem dX7_feed_36 : decode cX7_feed 36 = .ok (.isub, 1) := chkD_at okX7_feed_0 21 rfl
theorem dX7_feed_37 : decode cX7_feed 37 = .ok (.istore_n 3, 1) := chkD_at okX7_feed_0 22 rfl
theorem dX7_feed_38 : decode cX7_feed 38 = .ok (.iload_n 3, 1) := chkD_at okX7_feed_0 23 rfl
theorem dX7_feed_39 : decode cX7_feed 39 = .ok (.ifCond .lt 38, 3) := chkD_at okX7_feed_0 24 rfl
theorem dX7_feed_42 : decode cX7_feed 42 = .ok (.aload_n 0, 1) := chkD_at okX7_feed_0 25 rfl
theorem dX7_feed_43 : decode cX7_feed 43 = .ok (.getfield 56, 3) := chkD_at okX7_feed_0 26 rfl
theorem dX7_feed_46 : decode cX7_feed 46 = .ok (.aload_n 0, 1) := chkD_at okX7_feed_0 27 rfl
theorem dX7_feed_47 : decode cX7_feed 47 = .ok (.getfield 222, 3) := chkD_at okX7_feed_0 28 rfl
theorem dX7_feed_50 : decode cX7_feed 50 = .ok (.iload_n 1, 1) := chkD_at okX7_feed_0 29 rfl
theorem dX7_feed_51 : decode cX7_feed 51 = .ok (.bipush 8, 2) := chkD_at okX7_feed_0 30 rfl
theorem dX7_feed_53 : decode cX7_feed 53 = .ok (.iload_n 3, 1) := chkD_at okX7_feed_0 31 rfl
theorem dX7_feed_54 : decode cX7_feed 54 = .ok (.imul, 1) := chkD_at okX7_feed_0 32 rfl
theorem dX7_feed_55 : decode cX7_feed 55 = .ok (.ishr, 1) := chkD_at okX7_feed_0 33 rfl
theorem dX7_feed_56 : decode cX7_feed 56 = .ok (.sipush 255, 3) := chkD_at okX7_feed_0 34 rfl
theorem dX7_feed_59 : decode cX7_feed 59 = .ok (.iand, 1) := chkD_at okX7_feed_0 35 rfl
theorem dX7_feed_60 : decode cX7_feed 60 = .ok (.iastore, 1) := chkD_at okX7_feed_0 36 rfl
theorem dX7_feed_61 : decode cX7_feed 61 = .ok (.aload_n 0, 1) := chkD_at okX7_feed_0 37 rfl
theorem dX7_feed_62 : decode cX7_feed 62 = .ok (.dup, 1) := chkD_at okX7_feed_0 38 rfl
theorem dX7_feed_63 : decode cX7_feed 63 = .ok (.getfield 222, 3) := chkD_at okX7_feed_0 39 rfl
theorem dX7_feed_66 : decode cX7_feed 66 = .ok (.iconst 1, 1) := chkD_at okX7_feed_0 40 rfl
theorem dX7_feed_67 : decode cX7_feed 67 = .ok (.iadd, 1) := chkD_at okX7_feed_0 41 rfl
theorem dX7_feed_68 : decode cX7_feed 68 = .ok (.putfield 222, 3) := chkD_at okX7_feed_0 42 rfl
theorem dX7_feed_71 : decode cX7_feed 71 = .ok (.iinc 3 (-1), 3) := chkD_at okX7_feed_0 43 rfl
theorem dX7_feed_74 : decode cX7_feed 74 = .ok (.goto (-36), 3) := chkD_at okX7_feed_0 44 rfl
theorem dX7_feed_77 : decode cX7_feed 77 = .ok (.aload_n 0, 1) := chkD_at okX7_feed_0 45 rfl
theorem dX7_feed_78 : decode cX7_feed 78 = .ok (.getfield 222, 3) := chkD_at okX7_feed_0 46 rfl
theorem dX7_feed_81 : decode cX7_feed 81 = .ok (.ireturn, 1) := chkD_at okX7_feed_0 47 rfl
theorem okX7_wipe_0 : chkD cX7_wipe [(0, .aload_n 0, 1), (1, .getfield 222, 3), (4, .istore_n 1, 1), (5, .aload_n 0, 1), (6, .iconst 0, 1), (7, .putfield 222, 3), (10, .iload_n 1, 1), (11, .ireturn, 1)] = true := by decide +kernel
theorem dX7_wipe_0 : decode cX7_wipe 0 = .ok (.aload_n 0, 1) := chkD_at okX7_wipe_0 0 rfl
theorem dX7_wipe_1 : decode cX7_wipe 1 = .ok (.getfield 222, 3) := chkD_at okX7_wipe_0 1 rfl
theorem dX7_wipe_4 : decode cX7_wipe 4 = .ok (.istore_n 1, 1) := chkD_at okX7_wipe_0 2 rfl
theorem dX7_wipe_5 : decode cX7_wipe 5 = .ok (.aload_n 0, 1) := chkD_at okX7_wipe_0 3 rfl
theorem dX7_wipe_6 : decode cX7_wipe 6 = .ok (.iconst 0, 1) := chkD_at okX7_wipe_0 4 rfl
theorem dX7_wipe_7 : decode cX7_wipe 7 = .ok (.putfield 222, 3) := chkD_at okX7_wipe_0 5 rfl
theorem dX7_wipe_10 : decode cX7_wipe 10 = .ok (.iload_n 1, 1) := chkD_at okX7_wipe_0 6 rfl
theorem dX7_wipe_11 : decode cX7_wipe 11 = .ok (.ireturn, 1) := chkD_at okX7_wipe_0 7 rfl
theorem okX7_byteAt_0 : chkD cX7_byteAt [(0, .iload_n 1, 1), (1, .aload_n 0, 1), (2, .getfield 222, 3), (5, .if_icmp .ge 12, 3), (8, .aload_n 0, 1), (9, .getfield 56, 3), (12, .iload_n 1, 1), (13, .iaload, 1), (14, .goto 4, 3), (17, .iconst (-1), 1), (18, .ireturn, 1)] = true := by decide +kernel
theorem dX7_byteAt_0 : decode cX7_byteAt 0 = .ok (.iload_n 1, 1) := chkD_at okX7_byteAt_0 0 rfl
theorem dX7_byteAt_1 : decode cX7_byteAt 1 = .ok (.aload_n 0, 1) := chkD_at okX7_byteAt_0 1 rfl
theorem dX7_byteAt_2 : decode cX7_byteAt 2 = .ok (.getfield 222, 3) := chkD_at okX7_byteAt_0 2 rfl
theorem dX7_byteAt_5 : decode cX7_byteAt 5 = .ok (.if_icmp .ge 12, 3) := chkD_at okX7_byteAt_0 3 rfl
theorem dX7_byteAt_8 : decode cX7_byteAt 8 = .ok (.aload_n 0, 1) := chkD_at okX7_byteAt_0 4 rfl
theorem dX7_byteAt_9 : decode cX7_byteAt 9 = .ok (.getfield 56, 3) := chkD_at okX7_byteAt_0 5 rfl
theorem dX7_byteAt_12 : decode cX7_byteAt 12 = .ok (.iload_n 1, 1) := chkD_at okX7_byteAt_0 6 rfl
theorem dX7_byteAt_13 : decode cX7_byteAt 13 = .ok (.iaload, 1) := chkD_at okX7_byteAt_0 7 rfl
theorem dX7_byteAt_14 : decode cX7_byteAt 14 = .ok (.goto 4, 3) := chkD_at okX7_byteAt_0 8 rfl
theorem dX7_byteAt_17 : decode cX7_byteAt 17 = .ok (.iconst (-1), 1) := chkD_at okX7_byteAt_0 9 rfl
theorem dX7_byteAt_18 : decode cX7_byteAt 18 = .ok (.ireturn, 1) := chkD_at okX7_byteAt_0 10 rfl
theorem okX7_isLetter_0 : chkD cX7_isLetter [(0, .iload_n 0, 1), (1, .bipush 97, 2), (3, .bipush 122, 2), (5, .invokestatic 86, 3), (8, .ireturn, 1)] = true := by decide +kernel
theorem dX7_isLetter_0 : decode cX7_isLetter 0 = .ok (.iload_n 0, 1) := chkD_at okX7_isLetter_0 0 rfl
theorem dX7_isLetter_1 : decode cX7_isLetter 1 = .ok (.bipush 97, 2) := chkD_at okX7_isLetter_0 1 rfl
theorem dX7_isLetter_3 : decode cX7_isLetter 3 = .ok (.bipush 122, 2) := chkD_at okX7_isLetter_0 2 rfl
theorem dX7_isLetter_5 : decode cX7_isLetter 5 = .ok (.invokestatic 86, 3) := chkD_at okX7_isLetter_0 3 rfl
theorem dX7_isLetter_8 : decode cX7_isLetter 8 = .ok (.ireturn, 1) := chkD_at okX7_isLetter_0 4 rfl
theorem okX7_isDigit_0 : chkD cX7_isDigit [(0, .iload_n 0, 1), (1, .bipush 48, 2), (3, .bipush 57, 2), (5, .invokestatic 86, 3), (8, .ireturn, 1)] = true := by decide +kernel
theorem dX7_isDigit_0 : decode cX7_isDigit 0 = .ok (.iload_n 0, 1) := chkD_at okX7_isDigit_0 0 rfl
theorem dX7_isDigit_1 : decode cX7_isDigit 1 = .ok (.bipush 48, 2) := chkD_at okX7_isDigit_0 1 rfl
theorem dX7_isDigit_3 : decode cX7_isDigit 3 = .ok (.bipush 57, 2) := chkD_at okX7_isDigit_0 2 rfl
theorem dX7_isDigit_5 : decode cX7_isDigit 5 = .ok (.invokestatic 86, 3) := chkD_at okX7_isDigit_0 3 rfl
theorem dX7_isDigit_8 : decode cX7_isDigit 8 = .ok (.ireturn, 1) := chkD_at okX7_isDigit_0 4 rfl
theorem okX7_advance_0 : chkD cX7_advance [(0, .aload_n 0, 1), (1, .aload_n 0, 1), (2, .getfield 225, 3), (5, .putfield 228, 3), (8, .aload_n 0, 1), (9, .aload_n 0, 1), (10, .getfield 228, 3), (13, .invokevirtual 231, 3), (16, .bipush 32, 2), (18, .if_icmp .ne 16, 3), (21, .aload_n 0, 1), (22, .dup, 1), (23, .getfield 228, 3), (26, .iconst 1, 1), (27, .iadd, 1), (28, .putfield 228, 3), (31, .goto (-23), 3), (34, .aload_n 0, 1), (35, .aload_n 0, 1), (36, .getfield 228, 3), (39, .putfield 225, 3), (42, .aload_n 0, 1), (43, .aload_n 0, 1), (44, .getfield 228, 3), (47, .invokevirtual 231, 3), (50, .istore_n 1, 1), (51, .aload_n 0, 1), (52, .iload_n 1, 1), (53, .ifCond .ge 7, 3), (56, .iconst 0, 1), (57, .goto 26, 3), (60, .iload_n 1, 1), (61, .invokestatic 234, 3), (64, .ifCond .eq 7, 3), (67, .iconst 1, 1), (68, .goto 15, 3), (71, .iload_n 1, 1), (72, .invokestatic 237, 3), (75, .ifCond .eq 7, 3), (78, .iconst 2, 1), (79, .goto 4, 3), (82, .iconst 3, 1), (83, .putfield 240, 3), (86, .aload_n 0, 1), (87, .lconst 0, 1), (88, .putfield 243, 3), (91, .aload_n 0, 1), (92, .aload_n 0, 1), (93, .getfield 240, 3), (96, .iconst 2, 1), (97, .if_icmp .ne 7, 3), (100, .iconst 0, 1), (101, .goto 4, 3), (104, .iload_n 1, 1), (105, .putfield 247, 3), (108, .aload_n 0, 1), (109, .getfield 240, 3), (112, .iconst 3, 1), (113, .if_icmp .ne 13, 3), (116, .aload_n 0, 1), (117, .dup, 1), (118, .getfield 225, 3), (121, .iconst 1, 1), (122, .iadd, 1), (123, .putfield 225, 3), (126, .aload_n 0, 1), (127, .getfield 240, 3), (130, .iconst 1, 1), (131, .if_icmp .ne 76, 3), (134, .aload_n 0, 1), (135, .aload_n 0, 1), (136, .getfield 225, 3), (139, .invokevirtual 231, 3), (142, .invokestatic 234, 3), (145, .ifCond .eq 62, 3), (148, .aload_n 0, 1), (149, .aload_n 0, 1), (150, .getfield 225, 3), (153, .aload_n 0, 1), (154, .getfield 228, 3)] = true := by decide +kernel
theorem dX7_advance_0 : decode cX7_advance 0 = .ok (.aload_n 0, 1) := chkD_at okX7_advance_0 0 rfl
theorem dX7_advance_1 : decode cX7_advance 1 = .ok (.aload_n 0, 1) := chkD_at okX7_advance_0 1 rfl
theorem dX7_advance_2 : decode cX7_advance 2 = .ok (.getfield 225, 3) := chkD_at okX7_advance_0 2 rfl
theorem dX7_advance_5 : decode cX7_advance 5 = .ok (.putfield 228, 3) := chkD_at okX7_advance_0 3 rfl
theorem dX7_advance_8 : decode cX7_advance 8 = .ok (.aload_n 0, 1) := chkD_at okX7_advance_0 4 rfl
theorem dX7_advance_9 : decode cX7_advance 9 = .ok (.aload_n 0, 1) := chkD_at okX7_advance_0 5 rfl
theorem dX7_advance_10 : decode cX7_advance 10 = .ok (.getfield 228, 3) := chkD_at okX7_advance_0 6 rfl
theorem dX7_advance_13 : decode cX7_advance 13 = .ok (.invokevirtual 231, 3) := chkD_at okX7_advance_0 7 rfl
theorem dX7_advance_16 : decode cX7_advance 16 = .ok (.bipush 32, 2) := chkD_at okX7_advance_0 8 rfl
theorem dX7_advance_18 : decode cX7_advance 18 = .ok (.if_icmp .ne 16, 3) := chkD_at okX7_advance_0 9 rfl
theorem dX7_advance_21 : decode cX7_advance 21 = .ok (.aload_n 0, 1) := chkD_at okX7_advance_0 10 rfl
theorem dX7_advance_22 : decode cX7_advance 22 = .ok (.dup, 1) := chkD_at okX7_advance_0 11 rfl
theorem dX7_advance_23 : decode cX7_advance 23 = .ok (.getfield 228, 3) := chkD_at okX7_advance_0 12 rfl
theorem dX7_advance_26 : decode cX7_advance 26 = .ok (.iconst 1, 1) := chkD_at okX7_advance_0 13 rfl
theorem dX7_advance_27 : decode cX7_advance 27 = .ok (.iadd, 1) := chkD_at okX7_advance_0 14 rfl
theorem dX7_advance_28 : decode cX7_advance 28 = .ok (.putfield 228, 3) := chkD_at okX7_advance_0 15 rfl
theorem dX7_advance_31 : decode cX7_advance 31 = .ok (.goto (-23), 3) := chkD_at okX7_advance_0 16 rfl
theorem dX7_advance_34 : decode cX7_advance 34 = .ok (.aload_n 0, 1) := chkD_at okX7_advance_0 17 rfl
theorem dX7_advance_35 : decode cX7_advance 35 = .ok (.aload_n 0, 1) := chkD_at okX7_advance_0 18 rfl
theorem dX7_advance_36 : decode cX7_advance 36 = .ok (.getfield 228, 3) := chkD_at okX7_advance_0 19 rfl
theorem dX7_advance_39 : decode cX7_advance 39 = .ok (.putfield 225, 3) := chkD_at okX7_advance_0 20 rfl
theorem dX7_advance_42 : decode cX7_advance 42 = .ok (.aload_n 0, 1) := chkD_at okX7_advance_0 21 rfl
theorem dX7_advance_43 : decode cX7_advance 43 = .ok (.aload_n 0, 1) := chkD_at okX7_advance_0 22 rfl
theorem dX7_advance_44 : decode cX7_advance 44 = .ok (.getfield 228, 3) := chkD_at okX7_advance_0 23 rfl
theorem dX7_advance_47 : decode cX7_advance 47 = .ok (.invokevirtual 231, 3) := chkD_at okX7_advance_0 24 rfl
theorem dX7_advance_50 : decode cX7_advance 50 = .ok (.istore_n 1, 1) := chkD_at okX7_advance_0 25 rfl
theorem dX7_advance_51 : decode cX7_advance 51 = .ok (.aload_n 0, 1) := chkD_at okX7_advance_0 26 rfl
theorem dX7_advance_52 : decode cX7_advance 52 = .ok (.iload_n 1, 1) := chkD_at okX7_advance_0 27 rfl
theorem dX7_advance_53 : decode cX7_advance 53 = .ok (.ifCond .ge 7, 3) := chkD_at okX7_advance_0 28 rfl
theorem dX7_advance_56 : decode cX7_advance 56 = .ok (.iconst 0, 1) := chkD_at okX7_advance_0 29 rfl
theorem dX7_advance_57 : decode cX7_advance 57 = .ok (.goto 26, 3) := chkD_at okX7_advance_0 30 rfl
theorem dX7_advance_60 : decode cX7_advance 60 = .ok (.iload_n 1, 1) := chkD_at okX7_advance_0 31 rfl
theorem dX7_advance_61 : decode cX7_advance 61 = .ok (.invokestatic 234, 3) := chkD_at okX7_advance_0 32 rfl
theorem dX7_advance_64 : decode cX7_advance 64 = .ok (.ifCond .eq 7, 3) := chkD_at okX7_advance_0 33 rfl
theorem dX7_advance_67 : decode cX7_advance 67 = .ok (.iconst 1, 1) := chkD_at okX7_advance_0 34 rfl
theorem dX7_advance_68 : decode cX7_advance 68 = .ok (.goto 15, 3) := chkD_at okX7_advance_0 35 rfl
theorem dX7_advance_71 : decode cX7_advance 71 = .ok (.iload_n 1, 1) := chkD_at okX7_advance_0 36 rfl
theorem dX7_advance_72 : decode cX7_advance 72 = .ok (.invokestatic 237, 3) := chkD_at okX7_advance_0 37 rfl
theorem dX7_advance_75 : decode cX7_advance 75 = .ok (.ifCond .eq 7, 3) := chkD_at okX7_advance_0 38 rfl
theorem dX7_advance_78 : decode cX7_advance 78 = .ok (.iconst 2, 1) := chkD_at okX7_advance_0 39 rfl
theorem dX7_advance_79 : decode cX7_advance 79 = .ok (.goto 4, 3) := chkD_at okX7_advance_0 40 rfl
theorem dX7_advance_82 : decode cX7_advance 82 = .ok (.iconst 3, 1) := chkD_at okX7_advance_0 41 rfl
theorem dX7_advance_83 : decode cX7_advance 83 = .ok (.putfield 240, 3) := chkD_at okX7_advance_0 42 rfl
theorem dX7_advance_86 : decode cX7_advance 86 = .ok (.aload_n 0, 1) := chkD_at okX7_advance_0 43 rfl
theorem dX7_advance_87 : decode cX7_advance 87 = .ok (.lconst 0, 1) := chkD_at okX7_advance_0 44 rfl
theorem dX7_advance_88 : decode cX7_advance 88 = .ok (.putfield 243, 3) := chkD_at okX7_advance_0 45 rfl
theorem dX7_advance_91 : decode cX7_advance 91 = .ok (.aload_n 0, 1) := chkD_at okX7_advance_0 46 rfl
theorem dX7_advance_92 : decode cX7_advance 92 = .ok (.aload_n 0, 1) := chkD_at okX7_advance_0 47 rfl
theorem dX7_advance_93 : decode cX7_advance 93 = .ok (.getfield 240, 3) := chkD_at okX7_advance_0 48 rfl
theorem dX7_advance_96 : decode cX7_advance 96 = .ok (.iconst 2, 1) := chkD_at okX7_advance_0 49 rfl
theorem dX7_advance_97 : decode cX7_advance 97 = .ok (.if_icmp .ne 7, 3) := chkD_at okX7_advance_0 50 rfl
theorem dX7_advance_100 : decode cX7_advance 100 = .ok (.iconst 0, 1) := chkD_at okX7_advance_0 51 rfl
theorem dX7_advance_101 : decode cX7_advance 101 = .ok (.goto 4, 3) := chkD_at okX7_advance_0 52 rfl
theorem dX7_advance_104 : decode cX7_advance 104 = .ok (.iload_n 1, 1) := chkD_at okX7_advance_0 53 rfl
theorem dX7_advance_105 : decode cX7_advance 105 = .ok (.putfield 247, 3) := chkD_at okX7_advance_0 54 rfl
theorem dX7_advance_108 : decode cX7_advance 108 = .ok (.aload_n 0, 1) := chkD_at okX7_advance_0 55 rfl
theorem dX7_advance_109 : decode cX7_advance 109 = .ok (.getfield 240, 3) := chkD_at okX7_advance_0 56 rfl
theorem dX7_advance_112 : decode cX7_advance 112 = .ok (.iconst 3, 1) := chkD_at okX7_advance_0 57 rfl
theorem dX7_advance_113 : decode cX7_advance 113 = .ok (.if_icmp .ne 13, 3) := chkD_at okX7_advance_0 58 rfl
theorem dX7_advance_116 : decode cX7_advance 116 = .ok (.aload_n 0, 1) := chkD_at okX7_advance_0 59 rfl
theorem dX7_advance_117 : decode cX7_advance 117 = .ok (.dup, 1) := chkD_at okX7_advance_0 60 rfl
theorem dX7_advance_118 : decode cX7_advance 118 = .ok (.getfield 225, 3) := chkD_at okX7_advance_0 61 rfl
theorem dX7_advance_121 : decode cX7_advance 121 = .ok (.iconst 1, 1) := chkD_at okX7_advance_0 62 rfl
theorem dX7_advance_122 : decode cX7_advance 122 = .ok (.iadd, 1) := chkD_at okX7_advance_0 63 rfl
theorem dX7_advance_123 : decode cX7_advance 123 = .ok (.putfield 225, 3) := chkD_at okX7_advance_0 64 rfl
theorem dX7_advance_126 : decode cX7_advance 126 = .ok (.aload_n 0, 1) := chkD_at okX7_advance_0 65 rfl
theorem dX7_advance_127 : decode cX7_advance 127 = .ok (.getfield 240, 3) := chkD_at okX7_advance_0 66 rfl
theorem dX7_advance_130 : decode cX7_advance 130 = .ok (.iconst 1, 1) := chkD_at okX7_advance_0 67 rfl
theorem dX7_advance_131 : decode cX7_advance 131 = .ok (.if_icmp .ne 76, 3) := chkD_at okX7_advance_0 68 rfl
theorem dX7_advance_134 : decode cX7_advance 134 = .ok (.aload_n 0, 1) := chkD_at okX7_advance_0 69 rfl
theorem dX7_advance_135 : decode cX7_advance 135 = .ok (.aload_n 0, 1) := chkD_at okX7_advance_0 70 rfl
theorem dX7_advance_136 : decode cX7_advance 136 = .ok (.getfield 225, 3) := chkD_at okX7_advance_0 71 rfl
theorem dX7_advance_139 : decode cX7_advance 139 = .ok (.invokevirtual 231, 3) := chkD_at okX7_advance_0 72 rfl
theorem dX7_advance_142 : decode cX7_advance 142 = .ok (.invokestatic 234, 3) := chkD_at okX7_advance_0 73 rfl
theorem dX7_advance_145 : decode cX7_advance 145 = .ok (.ifCond .eq 62, 3) := chkD_at okX7_advance_0 74 rfl
theorem dX7_advance_148 : decode cX7_advance 148 = .ok (.aload_n 0, 1) := chkD_at okX7_advance_0 75 rfl
theorem dX7_advance_149 : decode cX7_advance 149 = .ok (.aload_n 0, 1) := chkD_at okX7_advance_0 76 rfl
theorem dX7_advance_150 : decode cX7_advance 150 = .ok (.getfield 225, 3) := chkD_at okX7_advance_0 77 rfl
theorem dX7_advance_153 : decode cX7_advance 153 = .ok (.aload_n 0, 1) := chkD_at okX7_advance_0 78 rfl
theorem dX7_advance_154 : decode cX7_advance 154 = .ok (.getfield 228, 3) := chkD_at okX7_advance_0 79 rfl
theorem okX7_advance_1 : chkD cX7_advance [(157, .isub, 1), (158, .bipush 12, 2), (160, .if_icmp .ge 28, 3), (163, .ldc2_w 250, 3), (166, .aload_n 0, 1), (167, .getfield 243, 3), (170, .lmul, 1), (171, .aload_n 0, 1), (172, .aload_n 0, 1), (173, .getfield 225, 3), (176, .invokevirtual 231, 3), (179, .i2l, 1), (180, .ladd, 1), (181, .ldc2_w 252, 3), (184, .lsub, 1), (185, .goto 6, 3), (188, .ldc2_w 254, 3), (191, .putfield 243, 3), (194, .aload_n 0, 1), (195, .dup, 1), (196, .getfield 225, 3), (199, .iconst 1, 1), (200, .iadd, 1), (201, .putfield 225, 3), (204, .goto (-78), 3), (207, .aload_n 0, 1), (208, .getfield 240, 3), (211, .iconst 2, 1), (212, .if_icmp .ne 69, 3), (215, .aload_n 0, 1), (216, .aload_n 0, 1), (217, .getfield 225, 3), (220, .invokevirtual 231, 3), (223, .invokestatic 237, 3), (226, .ifCond .eq 55, 3), (229, .aload_n 0, 1), (230, .aload_n 0, 1), (231, .getfield 247, 3), (234, .sipush 999, 3), (237, .if_icmp .le 9, 3), (240, .sipush 10000, 3), (243, .goto 22, 3), (246, .bipush 10, 2), (248, .aload_n 0, 1), (249, .getfield 247, 3), (252, .imul, 1), (253, .aload_n 0, 1), (254, .aload_n 0, 1), (255, .getfield 225, 3), (258, .invokevirtual 231, 3), (261, .iadd, 1), (262, .bipush 48, 2), (264, .isub, 1), (265, .putfield 247, 3), (268, .aload_n 0, 1), (269, .dup, 1), (270, .getfield 225, 3), (273, .iconst 1, 1), (274, .iadd, 1), (275, .putfield 225, 3), (278, .goto (-71), 3), (281, .return_, 1)] = true := by decide +kernel
theorem dX7_advance_157 : decode cX7_advance 157 = .ok (.isub, 1) := chkD_at okX7_advance_1 0 rfl
theorem dX7_advance_158 : decode cX7_advance 158 = .ok (.bipush 12, 2) := chkD_at okX7_advance_1 1 rfl
theorem dX7_advance_160 : decode cX7_advance 160 = .ok (.if_icmp .ge 28, 3) := chkD_at okX7_advance_1 2 rfl
theorem dX7_advance_163 : decode cX7_advance 163 = .ok (.ldc2_w 250, 3) := chkD_at okX7_advance_1 3 rfl
theorem dX7_advance_166 : decode cX7_advance 166 = .ok (.aload_n 0, 1) := chkD_at okX7_advance_1 4 rfl
theorem dX7_advance_167 : decode cX7_advance 167 = .ok (.getfield 243, 3) := chkD_at okX7_advance_1 5 rfl
theorem dX7_advance_170 : decode cX7_advance 170 = .ok (.lmul, 1) := chkD_at okX7_advance_1 6 rfl
theorem dX7_advance_171 : decode cX7_advance 171 = .ok (.aload_n 0, 1) := chkD_at okX7_advance_1 7 rfl
theorem dX7_advance_172 : decode cX7_advance 172 = .ok (.aload_n 0, 1) := chkD_at okX7_advance_1 8 rfl
theorem dX7_advance_173 : decode cX7_advance 173 = .ok (.getfield 225, 3) := chkD_at okX7_advance_1 9 rfl
theorem dX7_advance_176 : decode cX7_advance 176 = .ok (.invokevirtual 231, 3) := chkD_at okX7_advance_1 10 rfl
theorem dX7_advance_179 : decode cX7_advance 179 = .ok (.i2l, 1) := chkD_at okX7_advance_1 11 rfl
theorem dX7_advance_180 : decode cX7_advance 180 = .ok (.ladd, 1) := chkD_at okX7_advance_1 12 rfl
theorem dX7_advance_181 : decode cX7_advance 181 = .ok (.ldc2_w 252, 3) := chkD_at okX7_advance_1 13 rfl
theorem dX7_advance_184 : decode cX7_advance 184 = .ok (.lsub, 1) := chkD_at okX7_advance_1 14 rfl
theorem dX7_advance_185 : decode cX7_advance 185 = .ok (.goto 6, 3) := chkD_at okX7_advance_1 15 rfl
theorem dX7_advance_188 : decode cX7_advance 188 = .ok (.ldc2_w 254, 3) := chkD_at okX7_advance_1 16 rfl
theorem dX7_advance_191 : decode cX7_advance 191 = .ok (.putfield 243, 3) := chkD_at okX7_advance_1 17 rfl
theorem dX7_advance_194 : decode cX7_advance 194 = .ok (.aload_n 0, 1) := chkD_at okX7_advance_1 18 rfl
theorem dX7_advance_195 : decode cX7_advance 195 = .ok (.dup, 1) := chkD_at okX7_advance_1 19 rfl
theorem dX7_advance_196 : decode cX7_advance 196 = .ok (.getfield 225, 3) := chkD_at okX7_advance_1 20 rfl
theorem dX7_advance_199 : decode cX7_advance 199 = .ok (.iconst 1, 1) := chkD_at okX7_advance_1 21 rfl
theorem dX7_advance_200 : decode cX7_advance 200 = .ok (.iadd, 1) := chkD_at okX7_advance_1 22 rfl
theorem dX7_advance_201 : decode cX7_advance 201 = .ok (.putfield 225, 3) := chkD_at okX7_advance_1 23 rfl
theorem dX7_advance_204 : decode cX7_advance 204 = .ok (.goto (-78), 3) := chkD_at okX7_advance_1 24 rfl
theorem dX7_advance_207 : decode cX7_advance 207 = .ok (.aload_n 0, 1) := chkD_at okX7_advance_1 25 rfl
theorem dX7_advance_208 : decode cX7_advance 208 = .ok (.getfield 240, 3) := chkD_at okX7_advance_1 26 rfl
theorem dX7_advance_211 : decode cX7_advance 211 = .ok (.iconst 2, 1) := chkD_at okX7_advance_1 27 rfl
theorem dX7_advance_212 : decode cX7_advance 212 = .ok (.if_icmp .ne 69, 3) := chkD_at okX7_advance_1 28 rfl
theorem dX7_advance_215 : decode cX7_advance 215 = .ok (.aload_n 0, 1) := chkD_at okX7_advance_1 29 rfl
theorem dX7_advance_216 : decode cX7_advance 216 = .ok (.aload_n 0, 1) := chkD_at okX7_advance_1 30 rfl
theorem dX7_advance_217 : decode cX7_advance 217 = .ok (.getfield 225, 3) := chkD_at okX7_advance_1 31 rfl
theorem dX7_advance_220 : decode cX7_advance 220 = .ok (.invokevirtual 231, 3) := chkD_at okX7_advance_1 32 rfl
theorem dX7_advance_223 : decode cX7_advance 223 = .ok (.invokestatic 237, 3) := chkD_at okX7_advance_1 33 rfl
theorem dX7_advance_226 : decode cX7_advance 226 = .ok (.ifCond .eq 55, 3) := chkD_at okX7_advance_1 34 rfl
theorem dX7_advance_229 : decode cX7_advance 229 = .ok (.aload_n 0, 1) := chkD_at okX7_advance_1 35 rfl
theorem dX7_advance_230 : decode cX7_advance 230 = .ok (.aload_n 0, 1) := chkD_at okX7_advance_1 36 rfl
theorem dX7_advance_231 : decode cX7_advance 231 = .ok (.getfield 247, 3) := chkD_at okX7_advance_1 37 rfl
theorem dX7_advance_234 : decode cX7_advance 234 = .ok (.sipush 999, 3) := chkD_at okX7_advance_1 38 rfl
theorem dX7_advance_237 : decode cX7_advance 237 = .ok (.if_icmp .le 9, 3) := chkD_at okX7_advance_1 39 rfl
theorem dX7_advance_240 : decode cX7_advance 240 = .ok (.sipush 10000, 3) := chkD_at okX7_advance_1 40 rfl
theorem dX7_advance_243 : decode cX7_advance 243 = .ok (.goto 22, 3) := chkD_at okX7_advance_1 41 rfl
theorem dX7_advance_246 : decode cX7_advance 246 = .ok (.bipush 10, 2) := chkD_at okX7_advance_1 42 rfl
theorem dX7_advance_248 : decode cX7_advance 248 = .ok (.aload_n 0, 1) := chkD_at okX7_advance_1 43 rfl
theorem dX7_advance_249 : decode cX7_advance 249 = .ok (.getfield 247, 3) := chkD_at okX7_advance_1 44 rfl
theorem dX7_advance_252 : decode cX7_advance 252 = .ok (.imul, 1) := chkD_at okX7_advance_1 45 rfl
theorem dX7_advance_253 : decode cX7_advance 253 = .ok (.aload_n 0, 1) := chkD_at okX7_advance_1 46 rfl
theorem dX7_advance_254 : decode cX7_advance 254 = .ok (.aload_n 0, 1) := chkD_at okX7_advance_1 47 rfl
theorem dX7_advance_255 : decode cX7_advance 255 = .ok (.getfield 225, 3) := chkD_at okX7_advance_1 48 rfl
theorem dX7_advance_258 : decode cX7_advance 258 = .ok (.invokevirtual 231, 3) := chkD_at okX7_advance_1 49 rfl
theorem dX7_advance_261 : decode cX7_advance 261 = .ok (.iadd, 1) := chkD_at okX7_advance_1 50 rfl
theorem dX7_advance_262 : decode cX7_advance 262 = .ok (.bipush 48, 2) := chkD_at okX7_advance_1 51 rfl
theorem dX7_advance_264 : decode cX7_advance 264 = .ok (.isub, 1) := chkD_at okX7_advance_1 52 rfl
theorem dX7_advance_265 : decode cX7_advance 265 = .ok (.putfield 247, 3) := chkD_at okX7_advance_1 53 rfl
theorem dX7_advance_268 : decode cX7_advance 268 = .ok (.aload_n 0, 1) := chkD_at okX7_advance_1 54 rfl
theorem dX7_advance_269 : decode cX7_advance 269 = .ok (.dup, 1) := chkD_at okX7_advance_1 55 rfl
theorem dX7_advance_270 : decode cX7_advance 270 = .ok (.getfield 225, 3) := chkD_at okX7_advance_1 56 rfl
theorem dX7_advance_273 : decode cX7_advance 273 = .ok (.iconst 1, 1) := chkD_at okX7_advance_1 57 rfl
theorem dX7_advance_274 : decode cX7_advance 274 = .ok (.iadd, 1) := chkD_at okX7_advance_1 58 rfl
theorem dX7_advance_275 : decode cX7_advance 275 = .ok (.putfield 225, 3) := chkD_at okX7_advance_1 59 rfl
theorem dX7_advance_278 : decode cX7_advance 278 = .ok (.goto (-71), 3) := chkD_at okX7_advance_1 60 rfl
theorem dX7_advance_281 : decode cX7_advance 281 = .ok (.return_, 1) := chkD_at okX7_advance_1 61 rfl
theorem okX7_isWord_0 : chkD cX7_isWord [(0, .aload_n 0, 1), (1, .getfield 240, 3), (4, .iconst 1, 1), (5, .if_icmp .ne 16, 3), (8, .aload_n 0, 1), (9, .getfield 243, 3), (12, .lload_n 1, 1), (13, .lcmp, 1), (14, .ifCond .ne 7, 3), (17, .iconst 1, 1), (18, .goto 4, 3), (21, .iconst 0, 1), (22, .ireturn, 1)] = true := by decide +kernel
theorem dX7_isWord_0 : decode cX7_isWord 0 = .ok (.aload_n 0, 1) := chkD_at okX7_isWord_0 0 rfl
theorem dX7_isWord_1 : decode cX7_isWord 1 = .ok (.getfield 240, 3) := chkD_at okX7_isWord_0 1 rfl
theorem dX7_isWord_4 : decode cX7_isWord 4 = .ok (.iconst 1, 1) := chkD_at okX7_isWord_0 2 rfl
theorem dX7_isWord_5 : decode cX7_isWord 5 = .ok (.if_icmp .ne 16, 3) := chkD_at okX7_isWord_0 3 rfl
theorem dX7_isWord_8 : decode cX7_isWord 8 = .ok (.aload_n 0, 1) := chkD_at okX7_isWord_0 4 rfl
theorem dX7_isWord_9 : decode cX7_isWord 9 = .ok (.getfield 243, 3) := chkD_at okX7_isWord_0 5 rfl
theorem dX7_isWord_12 : decode cX7_isWord 12 = .ok (.lload_n 1, 1) := chkD_at okX7_isWord_0 6 rfl
theorem dX7_isWord_13 : decode cX7_isWord 13 = .ok (.lcmp, 1) := chkD_at okX7_isWord_0 7 rfl
theorem dX7_isWord_14 : decode cX7_isWord 14 = .ok (.ifCond .ne 7, 3) := chkD_at okX7_isWord_0 8 rfl
theorem dX7_isWord_17 : decode cX7_isWord 17 = .ok (.iconst 1, 1) := chkD_at okX7_isWord_0 9 rfl
theorem dX7_isWord_18 : decode cX7_isWord 18 = .ok (.goto 4, 3) := chkD_at okX7_isWord_0 10 rfl
theorem dX7_isWord_21 : decode cX7_isWord 21 = .ok (.iconst 0, 1) := chkD_at okX7_isWord_0 11 rfl
theorem dX7_isWord_22 : decode cX7_isWord 22 = .ok (.ireturn, 1) := chkD_at okX7_isWord_0 12 rfl
theorem okX7_kindHere_0 : chkD cX7_kindHere [(0, .aload_n 0, 1), (1, .ldc2_w 256, 3), (4, .invokevirtual 258, 3), (7, .ifCond .eq 7, 3), (10, .iconst 0, 1), (11, .goto 74, 3), (14, .aload_n 0, 1), (15, .ldc2_w 262, 3), (18, .invokevirtual 258, 3), (21, .ifCond .eq 7, 3), (24, .iconst 1, 1), (25, .goto 60, 3), (28, .aload_n 0, 1), (29, .ldc2_w 264, 3), (32, .invokevirtual 258, 3), (35, .ifCond .eq 7, 3), (38, .iconst 2, 1), (39, .goto 46, 3), (42, .aload_n 0, 1), (43, .ldc2_w 266, 3), (46, .invokevirtual 258, 3), (49, .ifCond .eq 7, 3), (52, .iconst 3, 1), (53, .goto 32, 3), (56, .aload_n 0, 1), (57, .ldc2_w 268, 3), (60, .invokevirtual 258, 3), (63, .ifCond .eq 7, 3), (66, .iconst 4, 1), (67, .goto 18, 3), (70, .aload_n 0, 1), (71, .ldc2_w 270, 3), (74, .invokevirtual 258, 3), (77, .ifCond .eq 7, 3), (80, .iconst 5, 1), (81, .goto 4, 3), (84, .iconst (-1), 1), (85, .ireturn, 1)] = true := by decide +kernel
theorem dX7_kindHere_0 : decode cX7_kindHere 0 = .ok (.aload_n 0, 1) := chkD_at okX7_kindHere_0 0 rfl
theorem dX7_kindHere_1 : decode cX7_kindHere 1 = .ok (.ldc2_w 256, 3) := chkD_at okX7_kindHere_0 1 rfl
theorem dX7_kindHere_4 : decode cX7_kindHere 4 = .ok (.invokevirtual 258, 3) := chkD_at okX7_kindHere_0 2 rfl
theorem dX7_kindHere_7 : decode cX7_kindHere 7 = .ok (.ifCond .eq 7, 3) := chkD_at okX7_kindHere_0 3 rfl
theorem dX7_kindHere_10 : decode cX7_kindHere 10 = .ok (.iconst 0, 1) := chkD_at okX7_kindHere_0 4 rfl
theorem dX7_kindHere_11 : decode cX7_kindHere 11 = .ok (.goto 74, 3) := chkD_at okX7_kindHere_0 5 rfl
theorem dX7_kindHere_14 : decode cX7_kindHere 14 = .ok (.aload_n 0, 1) := chkD_at okX7_kindHere_0 6 rfl
theorem dX7_kindHere_15 : decode cX7_kindHere 15 = .ok (.ldc2_w 262, 3) := chkD_at okX7_kindHere_0 7 rfl
theorem dX7_kindHere_18 : decode cX7_kindHere 18 = .ok (.invokevirtual 258, 3) := chkD_at okX7_kindHere_0 8 rfl
theorem dX7_kindHere_21 : decode cX7_kindHere 21 = .ok (.ifCond .eq 7, 3) := chkD_at okX7_kindHere_0 9 rfl
theorem dX7_kindHere_24 : decode cX7_kindHere 24 = .ok (.iconst 1, 1) := chkD_at okX7_kindHere_0 10 rfl
theorem dX7_kindHere_25 : decode cX7_kindHere 25 = .ok (.goto 60, 3) := chkD_at okX7_kindHere_0 11 rfl
theorem dX7_kindHere_28 : decode cX7_kindHere 28 = .ok (.aload_n 0, 1) := chkD_at okX7_kindHere_0 12 rfl
theorem dX7_kindHere_29 : decode cX7_kindHere 29 = .ok (.ldc2_w 264, 3) := chkD_at okX7_kindHere_0 13 rfl
theorem dX7_kindHere_32 : decode cX7_kindHere 32 = .ok (.invokevirtual 258, 3) := chkD_at okX7_kindHere_0 14 rfl
theorem dX7_kindHere_35 : decode cX7_kindHere 35 = .ok (.ifCond .eq 7, 3) := chkD_at okX7_kindHere_0 15 rfl
theorem dX7_kindHere_38 : decode cX7_kindHere 38 = .ok (.iconst 2, 1) := chkD_at okX7_kindHere_0 16 rfl
theorem dX7_kindHere_39 : decode cX7_kindHere 39 = .ok (.goto 46, 3) := chkD_at okX7_kindHere_0 17 rfl
theorem dX7_kindHere_42 : decode cX7_kindHere 42 = .ok (.aload_n 0, 1) := chkD_at okX7_kindHere_0 18 rfl
theorem dX7_kindHere_43 : decode cX7_kindHere 43 = .ok (.ldc2_w 266, 3) := chkD_at okX7_kindHere_0 19 rfl
theorem dX7_kindHere_46 : decode cX7_kindHere 46 = .ok (.invokevirtual 258, 3) := chkD_at okX7_kindHere_0 20 rfl
theorem dX7_kindHere_49 : decode cX7_kindHere 49 = .ok (.ifCond .eq 7, 3) := chkD_at okX7_kindHere_0 21 rfl
theorem dX7_kindHere_52 : decode cX7_kindHere 52 = .ok (.iconst 3, 1) := chkD_at okX7_kindHere_0 22 rfl
theorem dX7_kindHere_53 : decode cX7_kindHere 53 = .ok (.goto 32, 3) := chkD_at okX7_kindHere_0 23 rfl
theorem dX7_kindHere_56 : decode cX7_kindHere 56 = .ok (.aload_n 0, 1) := chkD_at okX7_kindHere_0 24 rfl
theorem dX7_kindHere_57 : decode cX7_kindHere 57 = .ok (.ldc2_w 268, 3) := chkD_at okX7_kindHere_0 25 rfl
theorem dX7_kindHere_60 : decode cX7_kindHere 60 = .ok (.invokevirtual 258, 3) := chkD_at okX7_kindHere_0 26 rfl
theorem dX7_kindHere_63 : decode cX7_kindHere 63 = .ok (.ifCond .eq 7, 3) := chkD_at okX7_kindHere_0 27 rfl
theorem dX7_kindHere_66 : decode cX7_kindHere 66 = .ok (.iconst 4, 1) := chkD_at okX7_kindHere_0 28 rfl
theorem dX7_kindHere_67 : decode cX7_kindHere 67 = .ok (.goto 18, 3) := chkD_at okX7_kindHere_0 29 rfl
theorem dX7_kindHere_70 : decode cX7_kindHere 70 = .ok (.aload_n 0, 1) := chkD_at okX7_kindHere_0 30 rfl
theorem dX7_kindHere_71 : decode cX7_kindHere 71 = .ok (.ldc2_w 270, 3) := chkD_at okX7_kindHere_0 31 rfl
theorem dX7_kindHere_74 : decode cX7_kindHere 74 = .ok (.invokevirtual 258, 3) := chkD_at okX7_kindHere_0 32 rfl
theorem dX7_kindHere_77 : decode cX7_kindHere 77 = .ok (.ifCond .eq 7, 3) := chkD_at okX7_kindHere_0 33 rfl
theorem dX7_kindHere_80 : decode cX7_kindHere 80 = .ok (.iconst 5, 1) := chkD_at okX7_kindHere_0 34 rfl
theorem dX7_kindHere_81 : decode cX7_kindHere 81 = .ok (.goto 4, 3) := chkD_at okX7_kindHere_0 35 rfl
theorem dX7_kindHere_84 : decode cX7_kindHere 84 = .ok (.iconst (-1), 1) := chkD_at okX7_kindHere_0 36 rfl
theorem dX7_kindHere_85 : decode cX7_kindHere 85 = .ok (.ireturn, 1) := chkD_at okX7_kindHere_0 37 rfl
theorem okX7_wantNumber_0 : chkD cX7_wantNumber [(0, .aload_n 0, 1), (1, .getfield 247, 3), (4, .istore_n 3, 1), (5, .aload_n 0, 1), (6, .aload_n 0, 1), (7, .getfield 272, 3), (10, .ifCond .eq 24, 3), (13, .aload_n 0, 1), (14, .getfield 240, 3), (17, .iconst 2, 1), (18, .if_icmp .ne 16, 3), (21, .iload_n 3, 1), (22, .iload_n 1, 1), (23, .iload_n 2, 1), (24, .invokestatic 86, 3), (27, .ifCond .eq 7, 3), (30, .iconst 1, 1), (31, .goto 4, 3), (34, .iconst 0, 1), (35, .putfield 272, 3), (38, .aload_n 0, 1), (39, .getfield 272, 3), (42, .ifCond .eq 7, 3), (45, .aload_n 0, 1), (46, .invokevirtual 276, 3), (49, .iload_n 3, 1), (50, .ireturn, 1)] = true := by decide +kernel
theorem dX7_wantNumber_0 : decode cX7_wantNumber 0 = .ok (.aload_n 0, 1) := chkD_at okX7_wantNumber_0 0 rfl
theorem dX7_wantNumber_1 : decode cX7_wantNumber 1 = .ok (.getfield 247, 3) := chkD_at okX7_wantNumber_0 1 rfl
theorem dX7_wantNumber_4 : decode cX7_wantNumber 4 = .ok (.istore_n 3, 1) := chkD_at okX7_wantNumber_0 2 rfl
theorem dX7_wantNumber_5 : decode cX7_wantNumber 5 = .ok (.aload_n 0, 1) := chkD_at okX7_wantNumber_0 3 rfl
theorem dX7_wantNumber_6 : decode cX7_wantNumber 6 = .ok (.aload_n 0, 1) := chkD_at okX7_wantNumber_0 4 rfl
theorem dX7_wantNumber_7 : decode cX7_wantNumber 7 = .ok (.getfield 272, 3) := chkD_at okX7_wantNumber_0 5 rfl
theorem dX7_wantNumber_10 : decode cX7_wantNumber 10 = .ok (.ifCond .eq 24, 3) := chkD_at okX7_wantNumber_0 6 rfl
theorem dX7_wantNumber_13 : decode cX7_wantNumber 13 = .ok (.aload_n 0, 1) := chkD_at okX7_wantNumber_0 7 rfl
theorem dX7_wantNumber_14 : decode cX7_wantNumber 14 = .ok (.getfield 240, 3) := chkD_at okX7_wantNumber_0 8 rfl
theorem dX7_wantNumber_17 : decode cX7_wantNumber 17 = .ok (.iconst 2, 1) := chkD_at okX7_wantNumber_0 9 rfl
theorem dX7_wantNumber_18 : decode cX7_wantNumber 18 = .ok (.if_icmp .ne 16, 3) := chkD_at okX7_wantNumber_0 10 rfl
theorem dX7_wantNumber_21 : decode cX7_wantNumber 21 = .ok (.iload_n 3, 1) := chkD_at okX7_wantNumber_0 11 rfl
theorem dX7_wantNumber_22 : decode cX7_wantNumber 22 = .ok (.iload_n 1, 1) := chkD_at okX7_wantNumber_0 12 rfl
theorem dX7_wantNumber_23 : decode cX7_wantNumber 23 = .ok (.iload_n 2, 1) := chkD_at okX7_wantNumber_0 13 rfl
theorem dX7_wantNumber_24 : decode cX7_wantNumber 24 = .ok (.invokestatic 86, 3) := chkD_at okX7_wantNumber_0 14 rfl
theorem dX7_wantNumber_27 : decode cX7_wantNumber 27 = .ok (.ifCond .eq 7, 3) := chkD_at okX7_wantNumber_0 15 rfl
theorem dX7_wantNumber_30 : decode cX7_wantNumber 30 = .ok (.iconst 1, 1) := chkD_at okX7_wantNumber_0 16 rfl
theorem dX7_wantNumber_31 : decode cX7_wantNumber 31 = .ok (.goto 4, 3) := chkD_at okX7_wantNumber_0 17 rfl
theorem dX7_wantNumber_34 : decode cX7_wantNumber 34 = .ok (.iconst 0, 1) := chkD_at okX7_wantNumber_0 18 rfl
theorem dX7_wantNumber_35 : decode cX7_wantNumber 35 = .ok (.putfield 272, 3) := chkD_at okX7_wantNumber_0 19 rfl
theorem dX7_wantNumber_38 : decode cX7_wantNumber 38 = .ok (.aload_n 0, 1) := chkD_at okX7_wantNumber_0 20 rfl
theorem dX7_wantNumber_39 : decode cX7_wantNumber 39 = .ok (.getfield 272, 3) := chkD_at okX7_wantNumber_0 21 rfl
theorem dX7_wantNumber_42 : decode cX7_wantNumber 42 = .ok (.ifCond .eq 7, 3) := chkD_at okX7_wantNumber_0 22 rfl
theorem dX7_wantNumber_45 : decode cX7_wantNumber 45 = .ok (.aload_n 0, 1) := chkD_at okX7_wantNumber_0 23 rfl
theorem dX7_wantNumber_46 : decode cX7_wantNumber 46 = .ok (.invokevirtual 276, 3) := chkD_at okX7_wantNumber_0 24 rfl
theorem dX7_wantNumber_49 : decode cX7_wantNumber 49 = .ok (.iload_n 3, 1) := chkD_at okX7_wantNumber_0 25 rfl
theorem dX7_wantNumber_50 : decode cX7_wantNumber 50 = .ok (.ireturn, 1) := chkD_at okX7_wantNumber_0 26 rfl
theorem okX7_wantWord_0 : chkD cX7_wantWord [(0, .aload_n 0, 1), (1, .aload_n 0, 1), (2, .getfield 272, 3), (5, .ifCond .eq 15, 3), (8, .aload_n 0, 1), (9, .lload_n 1, 1), (10, .invokevirtual 258, 3), (13, .ifCond .eq 7, 3), (16, .iconst 1, 1), (17, .goto 4, 3), (20, .iconst 0, 1), (21, .putfield 272, 3), (24, .aload_n 0, 1), (25, .getfield 272, 3), (28, .ifCond .eq 7, 3), (31, .aload_n 0, 1), (32, .invokevirtual 276, 3), (35, .return_, 1)] = true := by decide +kernel
theorem dX7_wantWord_0 : decode cX7_wantWord 0 = .ok (.aload_n 0, 1) := chkD_at okX7_wantWord_0 0 rfl
theorem dX7_wantWord_1 : decode cX7_wantWord 1 = .ok (.aload_n 0, 1) := chkD_at okX7_wantWord_0 1 rfl
theorem dX7_wantWord_2 : decode cX7_wantWord 2 = .ok (.getfield 272, 3) := chkD_at okX7_wantWord_0 2 rfl
theorem dX7_wantWord_5 : decode cX7_wantWord 5 = .ok (.ifCond .eq 15, 3) := chkD_at okX7_wantWord_0 3 rfl
theorem dX7_wantWord_8 : decode cX7_wantWord 8 = .ok (.aload_n 0, 1) := chkD_at okX7_wantWord_0 4 rfl
theorem dX7_wantWord_9 : decode cX7_wantWord 9 = .ok (.lload_n 1, 1) := chkD_at okX7_wantWord_0 5 rfl
theorem dX7_wantWord_10 : decode cX7_wantWord 10 = .ok (.invokevirtual 258, 3) := chkD_at okX7_wantWord_0 6 rfl
theorem dX7_wantWord_13 : decode cX7_wantWord 13 = .ok (.ifCond .eq 7, 3) := chkD_at okX7_wantWord_0 7 rfl
theorem dX7_wantWord_16 : decode cX7_wantWord 16 = .ok (.iconst 1, 1) := chkD_at okX7_wantWord_0 8 rfl
theorem dX7_wantWord_17 : decode cX7_wantWord 17 = .ok (.goto 4, 3) := chkD_at okX7_wantWord_0 9 rfl
theorem dX7_wantWord_20 : decode cX7_wantWord 20 = .ok (.iconst 0, 1) := chkD_at okX7_wantWord_0 10 rfl
theorem dX7_wantWord_21 : decode cX7_wantWord 21 = .ok (.putfield 272, 3) := chkD_at okX7_wantWord_0 11 rfl
theorem dX7_wantWord_24 : decode cX7_wantWord 24 = .ok (.aload_n 0, 1) := chkD_at okX7_wantWord_0 12 rfl
theorem dX7_wantWord_25 : decode cX7_wantWord 25 = .ok (.getfield 272, 3) := chkD_at okX7_wantWord_0 13 rfl
theorem dX7_wantWord_28 : decode cX7_wantWord 28 = .ok (.ifCond .eq 7, 3) := chkD_at okX7_wantWord_0 14 rfl
theorem dX7_wantWord_31 : decode cX7_wantWord 31 = .ok (.aload_n 0, 1) := chkD_at okX7_wantWord_0 15 rfl
theorem dX7_wantWord_32 : decode cX7_wantWord 32 = .ok (.invokevirtual 276, 3) := chkD_at okX7_wantWord_0 16 rfl
theorem dX7_wantWord_35 : decode cX7_wantWord 35 = .ok (.return_, 1) := chkD_at okX7_wantWord_0 17 rfl
theorem okX7_wantEither_0 : chkD cX7_wantEither [(0, .aload_n 0, 1), (1, .lload_n 1, 1), (2, .invokevirtual 258, 3), (5, .istore 5, 2), (7, .aload_n 0, 1), (8, .aload_n 0, 1), (9, .getfield 272, 3), (12, .ifCond .eq 20, 3), (15, .iload 5, 2), (17, .ifCond .ne 11, 3), (20, .aload_n 0, 1), (21, .lload_n 3, 1), (22, .invokevirtual 258, 3), (25, .ifCond .eq 7, 3), (28, .iconst 1, 1), (29, .goto 4, 3), (32, .iconst 0, 1), (33, .putfield 272, 3), (36, .aload_n 0, 1), (37, .getfield 272, 3), (40, .ifCond .eq 7, 3), (43, .aload_n 0, 1), (44, .invokevirtual 276, 3), (47, .iload 5, 2), (49, .ireturn, 1)] = true := by decide +kernel
theorem dX7_wantEither_0 : decode cX7_wantEither 0 = .ok (.aload_n 0, 1) := chkD_at okX7_wantEither_0 0 rfl
theorem dX7_wantEither_1 : decode cX7_wantEither 1 = .ok (.lload_n 1, 1) := chkD_at okX7_wantEither_0 1 rfl
theorem dX7_wantEither_2 : decode cX7_wantEither 2 = .ok (.invokevirtual 258, 3) := chkD_at okX7_wantEither_0 2 rfl
theorem dX7_wantEither_5 : decode cX7_wantEither 5 = .ok (.istore 5, 2) := chkD_at okX7_wantEither_0 3 rfl
theorem dX7_wantEither_7 : decode cX7_wantEither 7 = .ok (.aload_n 0, 1) := chkD_at okX7_wantEither_0 4 rfl
theorem dX7_wantEither_8 : decode cX7_wantEither 8 = .ok (.aload_n 0, 1) := chkD_at okX7_wantEither_0 5 rfl
theorem dX7_wantEither_9 : decode cX7_wantEither 9 = .ok (.getfield 272, 3) := chkD_at okX7_wantEither_0 6 rfl
theorem dX7_wantEither_12 : decode cX7_wantEither 12 = .ok (.ifCond .eq 20, 3) := chkD_at okX7_wantEither_0 7 rfl
theorem dX7_wantEither_15 : decode cX7_wantEither 15 = .ok (.iload 5, 2) := chkD_at okX7_wantEither_0 8 rfl
theorem dX7_wantEither_17 : decode cX7_wantEither 17 = .ok (.ifCond .ne 11, 3) := chkD_at okX7_wantEither_0 9 rfl
theorem dX7_wantEither_20 : decode cX7_wantEither 20 = .ok (.aload_n 0, 1) := chkD_at okX7_wantEither_0 10 rfl
theorem dX7_wantEither_21 : decode cX7_wantEither 21 = .ok (.lload_n 3, 1) := chkD_at okX7_wantEither_0 11 rfl
theorem dX7_wantEither_22 : decode cX7_wantEither 22 = .ok (.invokevirtual 258, 3) := chkD_at okX7_wantEither_0 12 rfl
theorem dX7_wantEither_25 : decode cX7_wantEither 25 = .ok (.ifCond .eq 7, 3) := chkD_at okX7_wantEither_0 13 rfl
theorem dX7_wantEither_28 : decode cX7_wantEither 28 = .ok (.iconst 1, 1) := chkD_at okX7_wantEither_0 14 rfl
theorem dX7_wantEither_29 : decode cX7_wantEither 29 = .ok (.goto 4, 3) := chkD_at okX7_wantEither_0 15 rfl
theorem dX7_wantEither_32 : decode cX7_wantEither 32 = .ok (.iconst 0, 1) := chkD_at okX7_wantEither_0 16 rfl
theorem dX7_wantEither_33 : decode cX7_wantEither 33 = .ok (.putfield 272, 3) := chkD_at okX7_wantEither_0 17 rfl
theorem dX7_wantEither_36 : decode cX7_wantEither 36 = .ok (.aload_n 0, 1) := chkD_at okX7_wantEither_0 18 rfl
theorem dX7_wantEither_37 : decode cX7_wantEither 37 = .ok (.getfield 272, 3) := chkD_at okX7_wantEither_0 19 rfl
theorem dX7_wantEither_40 : decode cX7_wantEither 40 = .ok (.ifCond .eq 7, 3) := chkD_at okX7_wantEither_0 20 rfl
theorem dX7_wantEither_43 : decode cX7_wantEither 43 = .ok (.aload_n 0, 1) := chkD_at okX7_wantEither_0 21 rfl
theorem dX7_wantEither_44 : decode cX7_wantEither 44 = .ok (.invokevirtual 276, 3) := chkD_at okX7_wantEither_0 22 rfl
theorem dX7_wantEither_47 : decode cX7_wantEither 47 = .ok (.iload 5, 2) := chkD_at okX7_wantEither_0 23 rfl
theorem dX7_wantEither_49 : decode cX7_wantEither 49 = .ok (.ireturn, 1) := chkD_at okX7_wantEither_0 24 rfl
theorem okX7_wantEntry_0 : chkD cX7_wantEntry [(0, .aload_n 0, 1), (1, .aload_n 0, 1), (2, .getfield 93, 3), (5, .bipush 30, 2), (7, .if_icmp .ge 7, 3), (10, .iconst 1, 1), (11, .goto 4, 3), (14, .iconst 0, 1), (15, .putfield 272, 3), (18, .aload_n 0, 1), (19, .getfield 272, 3), (22, .ifCond .eq 7, 3), (25, .aload_n 0, 1), (26, .invokevirtual 276, 3), (29, .iconst 0, 1), (30, .istore_n 2, 1), (31, .aload_n 0, 1), (32, .aload_n 0, 1), (33, .getfield 272, 3), (36, .ifCond .eq 15, 3), (39, .aload_n 0, 1), (40, .getfield 240, 3), (43, .iconst 2, 1), (44, .if_icmp .ne 7, 3), (47, .iconst 1, 1), (48, .goto 4, 3), (51, .iconst 0, 1), (52, .putfield 272, 3), (55, .aload_n 0, 1), (56, .getfield 272, 3), (59, .ifCond .eq 86, 3), (62, .aload_n 0, 1), (63, .getfield 240, 3), (66, .iconst 2, 1), (67, .if_icmp .ne 78, 3), (70, .aload_n 0, 1), (71, .aload_n 0, 1), (72, .getfield 247, 3), (75, .invokestatic 97, 3), (78, .ifCond .eq 40, 3), (81, .iload_n 2, 1), (82, .invokestatic 81, 3), (85, .iconst 3, 1), (86, .if_icmp .ge 32, 3), (89, .iload_n 2, 1), (90, .aload_n 0, 1), (91, .getfield 247, 3), (94, .invokestatic 97, 3), (97, .ifCond .eq 10, 3), (100, .aload_n 0, 1), (101, .getfield 247, 3), (104, .goto 4, 3), (107, .iconst 0, 1), (108, .invokestatic 120, 3), (111, .ifCond .ne 7, 3), (114, .iconst 1, 1), (115, .goto 4, 3), (118, .iconst 0, 1), (119, .putfield 272, 3), (122, .aload_n 0, 1), (123, .getfield 272, 3), (126, .ifCond .eq (-71), 3), (129, .iload_n 2, 1), (130, .iconst 1, 1), (131, .aload_n 0, 1), (132, .getfield 247, 3), (135, .ishl, 1), (136, .ior, 1), (137, .istore_n 2, 1), (138, .aload_n 0, 1), (139, .invokevirtual 276, 3), (142, .goto (-87), 3), (145, .aload_n 0, 1), (146, .ldc2_w 279, 3), (149, .invokevirtual 281, 3), (152, .aload_n 0, 1), (153, .iconst 0, 1), (154, .iconst 4, 1), (155, .invokevirtual 285, 3), (158, .istore_n 3, 1)] = true := by decide +kernel
theorem dX7_wantEntry_0 : decode cX7_wantEntry 0 = .ok (.aload_n 0, 1) := chkD_at okX7_wantEntry_0 0 rfl
theorem dX7_wantEntry_1 : decode cX7_wantEntry 1 = .ok (.aload_n 0, 1) := chkD_at okX7_wantEntry_0 1 rfl
theorem dX7_wantEntry_2 : decode cX7_wantEntry 2 = .ok (.getfield 93, 3) := chkD_at okX7_wantEntry_0 2 rfl
theorem dX7_wantEntry_5 : decode cX7_wantEntry 5 = .ok (.bipush 30, 2) := chkD_at okX7_wantEntry_0 3 rfl
theorem dX7_wantEntry_7 : decode cX7_wantEntry 7 = .ok (.if_icmp .ge 7, 3) := chkD_at okX7_wantEntry_0 4 rfl
theorem dX7_wantEntry_10 : decode cX7_wantEntry 10 = .ok (.iconst 1, 1) := chkD_at okX7_wantEntry_0 5 rfl
theorem dX7_wantEntry_11 : decode cX7_wantEntry 11 = .ok (.goto 4, 3) := chkD_at okX7_wantEntry_0 6 rfl
theorem dX7_wantEntry_14 : decode cX7_wantEntry 14 = .ok (.iconst 0, 1) := chkD_at okX7_wantEntry_0 7 rfl
theorem dX7_wantEntry_15 : decode cX7_wantEntry 15 = .ok (.putfield 272, 3) := chkD_at okX7_wantEntry_0 8 rfl
theorem dX7_wantEntry_18 : decode cX7_wantEntry 18 = .ok (.aload_n 0, 1) := chkD_at okX7_wantEntry_0 9 rfl
theorem dX7_wantEntry_19 : decode cX7_wantEntry 19 = .ok (.getfield 272, 3) := chkD_at okX7_wantEntry_0 10 rfl
theorem dX7_wantEntry_22 : decode cX7_wantEntry 22 = .ok (.ifCond .eq 7, 3) := chkD_at okX7_wantEntry_0 11 rfl
theorem dX7_wantEntry_25 : decode cX7_wantEntry 25 = .ok (.aload_n 0, 1) := chkD_at okX7_wantEntry_0 12 rfl
theorem dX7_wantEntry_26 : decode cX7_wantEntry 26 = .ok (.invokevirtual 276, 3) := chkD_at okX7_wantEntry_0 13 rfl
theorem dX7_wantEntry_29 : decode cX7_wantEntry 29 = .ok (.iconst 0, 1) := chkD_at okX7_wantEntry_0 14 rfl
theorem dX7_wantEntry_30 : decode cX7_wantEntry 30 = .ok (.istore_n 2, 1) := chkD_at okX7_wantEntry_0 15 rfl
theorem dX7_wantEntry_31 : decode cX7_wantEntry 31 = .ok (.aload_n 0, 1) := chkD_at okX7_wantEntry_0 16 rfl
theorem dX7_wantEntry_32 : decode cX7_wantEntry 32 = .ok (.aload_n 0, 1) := chkD_at okX7_wantEntry_0 17 rfl
theorem dX7_wantEntry_33 : decode cX7_wantEntry 33 = .ok (.getfield 272, 3) := chkD_at okX7_wantEntry_0 18 rfl
theorem dX7_wantEntry_36 : decode cX7_wantEntry 36 = .ok (.ifCond .eq 15, 3) := chkD_at okX7_wantEntry_0 19 rfl
theorem dX7_wantEntry_39 : decode cX7_wantEntry 39 = .ok (.aload_n 0, 1) := chkD_at okX7_wantEntry_0 20 rfl
theorem dX7_wantEntry_40 : decode cX7_wantEntry 40 = .ok (.getfield 240, 3) := chkD_at okX7_wantEntry_0 21 rfl
theorem dX7_wantEntry_43 : decode cX7_wantEntry 43 = .ok (.iconst 2, 1) := chkD_at okX7_wantEntry_0 22 rfl
theorem dX7_wantEntry_44 : decode cX7_wantEntry 44 = .ok (.if_icmp .ne 7, 3) := chkD_at okX7_wantEntry_0 23 rfl
theorem dX7_wantEntry_47 : decode cX7_wantEntry 47 = .ok (.iconst 1, 1) := chkD_at okX7_wantEntry_0 24 rfl
theorem dX7_wantEntry_48 : decode cX7_wantEntry 48 = .ok (.goto 4, 3) := chkD_at okX7_wantEntry_0 25 rfl
theorem dX7_wantEntry_51 : decode cX7_wantEntry 51 = .ok (.iconst 0, 1) := chkD_at okX7_wantEntry_0 26 rfl
theorem dX7_wantEntry_52 : decode cX7_wantEntry 52 = .ok (.putfield 272, 3) := chkD_at okX7_wantEntry_0 27 rfl
theorem dX7_wantEntry_55 : decode cX7_wantEntry 55 = .ok (.aload_n 0, 1) := chkD_at okX7_wantEntry_0 28 rfl
theorem dX7_wantEntry_56 : decode cX7_wantEntry 56 = .ok (.getfield 272, 3) := chkD_at okX7_wantEntry_0 29 rfl
theorem dX7_wantEntry_59 : decode cX7_wantEntry 59 = .ok (.ifCond .eq 86, 3) := chkD_at okX7_wantEntry_0 30 rfl
theorem dX7_wantEntry_62 : decode cX7_wantEntry 62 = .ok (.aload_n 0, 1) := chkD_at okX7_wantEntry_0 31 rfl
theorem dX7_wantEntry_63 : decode cX7_wantEntry 63 = .ok (.getfield 240, 3) := chkD_at okX7_wantEntry_0 32 rfl
theorem dX7_wantEntry_66 : decode cX7_wantEntry 66 = .ok (.iconst 2, 1) := chkD_at okX7_wantEntry_0 33 rfl
theorem dX7_wantEntry_67 : decode cX7_wantEntry 67 = .ok (.if_icmp .ne 78, 3) := chkD_at okX7_wantEntry_0 34 rfl
theorem dX7_wantEntry_70 : decode cX7_wantEntry 70 = .ok (.aload_n 0, 1) := chkD_at okX7_wantEntry_0 35 rfl
theorem dX7_wantEntry_71 : decode cX7_wantEntry 71 = .ok (.aload_n 0, 1) := chkD_at okX7_wantEntry_0 36 rfl
theorem dX7_wantEntry_72 : decode cX7_wantEntry 72 = .ok (.getfield 247, 3) := chkD_at okX7_wantEntry_0 37 rfl
theorem dX7_wantEntry_75 : decode cX7_wantEntry 75 = .ok (.invokestatic 97, 3) := chkD_at okX7_wantEntry_0 38 rfl
theorem dX7_wantEntry_78 : decode cX7_wantEntry 78 = .ok (.ifCond .eq 40, 3) := chkD_at okX7_wantEntry_0 39 rfl
theorem dX7_wantEntry_81 : decode cX7_wantEntry 81 = .ok (.iload_n 2, 1) := chkD_at okX7_wantEntry_0 40 rfl
theorem dX7_wantEntry_82 : decode cX7_wantEntry 82 = .ok (.invokestatic 81, 3) := chkD_at okX7_wantEntry_0 41 rfl
theorem dX7_wantEntry_85 : decode cX7_wantEntry 85 = .ok (.iconst 3, 1) := chkD_at okX7_wantEntry_0 42 rfl
theorem dX7_wantEntry_86 : decode cX7_wantEntry 86 = .ok (.if_icmp .ge 32, 3) := chkD_at okX7_wantEntry_0 43 rfl
theorem dX7_wantEntry_89 : decode cX7_wantEntry 89 = .ok (.iload_n 2, 1) := chkD_at okX7_wantEntry_0 44 rfl
theorem dX7_wantEntry_90 : decode cX7_wantEntry 90 = .ok (.aload_n 0, 1) := chkD_at okX7_wantEntry_0 45 rfl
theorem dX7_wantEntry_91 : decode cX7_wantEntry 91 = .ok (.getfield 247, 3) := chkD_at okX7_wantEntry_0 46 rfl
theorem dX7_wantEntry_94 : decode cX7_wantEntry 94 = .ok (.invokestatic 97, 3) := chkD_at okX7_wantEntry_0 47 rfl
theorem dX7_wantEntry_97 : decode cX7_wantEntry 97 = .ok (.ifCond .eq 10, 3) := chkD_at okX7_wantEntry_0 48 rfl
theorem dX7_wantEntry_100 : decode cX7_wantEntry 100 = .ok (.aload_n 0, 1) := chkD_at okX7_wantEntry_0 49 rfl
theorem dX7_wantEntry_101 : decode cX7_wantEntry 101 = .ok (.getfield 247, 3) := chkD_at okX7_wantEntry_0 50 rfl
theorem dX7_wantEntry_104 : decode cX7_wantEntry 104 = .ok (.goto 4, 3) := chkD_at okX7_wantEntry_0 51 rfl
theorem dX7_wantEntry_107 : decode cX7_wantEntry 107 = .ok (.iconst 0, 1) := chkD_at okX7_wantEntry_0 52 rfl
theorem dX7_wantEntry_108 : decode cX7_wantEntry 108 = .ok (.invokestatic 120, 3) := chkD_at okX7_wantEntry_0 53 rfl
theorem dX7_wantEntry_111 : decode cX7_wantEntry 111 = .ok (.ifCond .ne 7, 3) := chkD_at okX7_wantEntry_0 54 rfl
theorem dX7_wantEntry_114 : decode cX7_wantEntry 114 = .ok (.iconst 1, 1) := chkD_at okX7_wantEntry_0 55 rfl
theorem dX7_wantEntry_115 : decode cX7_wantEntry 115 = .ok (.goto 4, 3) := chkD_at okX7_wantEntry_0 56 rfl
theorem dX7_wantEntry_118 : decode cX7_wantEntry 118 = .ok (.iconst 0, 1) := chkD_at okX7_wantEntry_0 57 rfl
theorem dX7_wantEntry_119 : decode cX7_wantEntry 119 = .ok (.putfield 272, 3) := chkD_at okX7_wantEntry_0 58 rfl
theorem dX7_wantEntry_122 : decode cX7_wantEntry 122 = .ok (.aload_n 0, 1) := chkD_at okX7_wantEntry_0 59 rfl
theorem dX7_wantEntry_123 : decode cX7_wantEntry 123 = .ok (.getfield 272, 3) := chkD_at okX7_wantEntry_0 60 rfl
theorem dX7_wantEntry_126 : decode cX7_wantEntry 126 = .ok (.ifCond .eq (-71), 3) := chkD_at okX7_wantEntry_0 61 rfl
theorem dX7_wantEntry_129 : decode cX7_wantEntry 129 = .ok (.iload_n 2, 1) := chkD_at okX7_wantEntry_0 62 rfl
theorem dX7_wantEntry_130 : decode cX7_wantEntry 130 = .ok (.iconst 1, 1) := chkD_at okX7_wantEntry_0 63 rfl
theorem dX7_wantEntry_131 : decode cX7_wantEntry 131 = .ok (.aload_n 0, 1) := chkD_at okX7_wantEntry_0 64 rfl
theorem dX7_wantEntry_132 : decode cX7_wantEntry 132 = .ok (.getfield 247, 3) := chkD_at okX7_wantEntry_0 65 rfl
theorem dX7_wantEntry_135 : decode cX7_wantEntry 135 = .ok (.ishl, 1) := chkD_at okX7_wantEntry_0 66 rfl
theorem dX7_wantEntry_136 : decode cX7_wantEntry 136 = .ok (.ior, 1) := chkD_at okX7_wantEntry_0 67 rfl
theorem dX7_wantEntry_137 : decode cX7_wantEntry 137 = .ok (.istore_n 2, 1) := chkD_at okX7_wantEntry_0 68 rfl
theorem dX7_wantEntry_138 : decode cX7_wantEntry 138 = .ok (.aload_n 0, 1) := chkD_at okX7_wantEntry_0 69 rfl
theorem dX7_wantEntry_139 : decode cX7_wantEntry 139 = .ok (.invokevirtual 276, 3) := chkD_at okX7_wantEntry_0 70 rfl
theorem dX7_wantEntry_142 : decode cX7_wantEntry 142 = .ok (.goto (-87), 3) := chkD_at okX7_wantEntry_0 71 rfl
theorem dX7_wantEntry_145 : decode cX7_wantEntry 145 = .ok (.aload_n 0, 1) := chkD_at okX7_wantEntry_0 72 rfl
theorem dX7_wantEntry_146 : decode cX7_wantEntry 146 = .ok (.ldc2_w 279, 3) := chkD_at okX7_wantEntry_0 73 rfl
theorem dX7_wantEntry_149 : decode cX7_wantEntry 149 = .ok (.invokevirtual 281, 3) := chkD_at okX7_wantEntry_0 74 rfl
theorem dX7_wantEntry_152 : decode cX7_wantEntry 152 = .ok (.aload_n 0, 1) := chkD_at okX7_wantEntry_0 75 rfl
theorem dX7_wantEntry_153 : decode cX7_wantEntry 153 = .ok (.iconst 0, 1) := chkD_at okX7_wantEntry_0 76 rfl
theorem dX7_wantEntry_154 : decode cX7_wantEntry 154 = .ok (.iconst 4, 1) := chkD_at okX7_wantEntry_0 77 rfl
theorem dX7_wantEntry_155 : decode cX7_wantEntry 155 = .ok (.invokevirtual 285, 3) := chkD_at okX7_wantEntry_0 78 rfl
theorem dX7_wantEntry_158 : decode cX7_wantEntry 158 = .ok (.istore_n 3, 1) := chkD_at okX7_wantEntry_0 79 rfl
theorem okX7_wantEntry_1 : chkD cX7_wantEntry [(159, .aload_n 0, 1), (160, .ldc2_w 288, 3), (163, .invokevirtual 281, 3), (166, .aload_n 0, 1), (167, .iconst 0, 1), (168, .iconst 3, 1), (169, .invokevirtual 285, 3), (172, .istore 4, 2), (174, .aload_n 0, 1), (175, .getfield 272, 3), (178, .ifCond .eq 23, 3), (181, .aload_n 0, 1), (182, .iload_n 1, 1), (183, .bipush 20, 2), (185, .iload_n 2, 1), (186, .imul, 1), (187, .iconst 4, 1), (188, .iload_n 3, 1), (189, .imul, 1), (190, .iadd, 1), (191, .iload 4, 2), (193, .iadd, 1), (194, .aload_n 0, 1), (195, .getfield 163, 3), (198, .invokevirtual 166, 3), (201, .return_, 1)] = true := by decide +kernel
theorem dX7_wantEntry_159 : decode cX7_wantEntry 159 = .ok (.aload_n 0, 1) := chkD_at okX7_wantEntry_1 0 rfl
theorem dX7_wantEntry_160 : decode cX7_wantEntry 160 = .ok (.ldc2_w 288, 3) := chkD_at okX7_wantEntry_1 1 rfl
theorem dX7_wantEntry_163 : decode cX7_wantEntry 163 = .ok (.invokevirtual 281, 3) := chkD_at okX7_wantEntry_1 2 rfl
theorem dX7_wantEntry_166 : decode cX7_wantEntry 166 = .ok (.aload_n 0, 1) := chkD_at okX7_wantEntry_1 3 rfl
theorem dX7_wantEntry_167 : decode cX7_wantEntry 167 = .ok (.iconst 0, 1) := chkD_at okX7_wantEntry_1 4 rfl
theorem dX7_wantEntry_168 : decode cX7_wantEntry 168 = .ok (.iconst 3, 1) := chkD_at okX7_wantEntry_1 5 rfl
theorem dX7_wantEntry_169 : decode cX7_wantEntry 169 = .ok (.invokevirtual 285, 3) := chkD_at okX7_wantEntry_1 6 rfl
theorem dX7_wantEntry_172 : decode cX7_wantEntry 172 = .ok (.istore 4, 2) := chkD_at okX7_wantEntry_1 7 rfl
theorem dX7_wantEntry_174 : decode cX7_wantEntry 174 = .ok (.aload_n 0, 1) := chkD_at okX7_wantEntry_1 8 rfl
theorem dX7_wantEntry_175 : decode cX7_wantEntry 175 = .ok (.getfield 272, 3) := chkD_at okX7_wantEntry_1 9 rfl
theorem dX7_wantEntry_178 : decode cX7_wantEntry 178 = .ok (.ifCond .eq 23, 3) := chkD_at okX7_wantEntry_1 10 rfl
theorem dX7_wantEntry_181 : decode cX7_wantEntry 181 = .ok (.aload_n 0, 1) := chkD_at okX7_wantEntry_1 11 rfl
theorem dX7_wantEntry_182 : decode cX7_wantEntry 182 = .ok (.iload_n 1, 1) := chkD_at okX7_wantEntry_1 12 rfl
theorem dX7_wantEntry_183 : decode cX7_wantEntry 183 = .ok (.bipush 20, 2) := chkD_at okX7_wantEntry_1 13 rfl
theorem dX7_wantEntry_185 : decode cX7_wantEntry 185 = .ok (.iload_n 2, 1) := chkD_at okX7_wantEntry_1 14 rfl
theorem dX7_wantEntry_186 : decode cX7_wantEntry 186 = .ok (.imul, 1) := chkD_at okX7_wantEntry_1 15 rfl
theorem dX7_wantEntry_187 : decode cX7_wantEntry 187 = .ok (.iconst 4, 1) := chkD_at okX7_wantEntry_1 16 rfl
theorem dX7_wantEntry_188 : decode cX7_wantEntry 188 = .ok (.iload_n 3, 1) := chkD_at okX7_wantEntry_1 17 rfl
theorem dX7_wantEntry_189 : decode cX7_wantEntry 189 = .ok (.imul, 1) := chkD_at okX7_wantEntry_1 18 rfl
theorem dX7_wantEntry_190 : decode cX7_wantEntry 190 = .ok (.iadd, 1) := chkD_at okX7_wantEntry_1 19 rfl
theorem dX7_wantEntry_191 : decode cX7_wantEntry 191 = .ok (.iload 4, 2) := chkD_at okX7_wantEntry_1 20 rfl
theorem dX7_wantEntry_193 : decode cX7_wantEntry 193 = .ok (.iadd, 1) := chkD_at okX7_wantEntry_1 21 rfl
theorem dX7_wantEntry_194 : decode cX7_wantEntry 194 = .ok (.aload_n 0, 1) := chkD_at okX7_wantEntry_1 22 rfl
theorem dX7_wantEntry_195 : decode cX7_wantEntry 195 = .ok (.getfield 163, 3) := chkD_at okX7_wantEntry_1 23 rfl
theorem dX7_wantEntry_198 : decode cX7_wantEntry 198 = .ok (.invokevirtual 166, 3) := chkD_at okX7_wantEntry_1 24 rfl
theorem dX7_wantEntry_201 : decode cX7_wantEntry 201 = .ok (.return_, 1) := chkD_at okX7_wantEntry_1 25 rfl
theorem okX7_wantStore_0 : chkD cX7_wantStore [(0, .aload_n 0, 1), (1, .invokevirtual 276, 3), (4, .aload_n 0, 1), (5, .iconst 0, 1), (6, .bipush 7, 2), (8, .invokevirtual 285, 3), (11, .istore_n 1, 1), (12, .aload_n 0, 1), (13, .iconst 0, 1), (14, .bipush 99, 2), (16, .invokevirtual 285, 3), (19, .istore_n 2, 1), (20, .aload_n 0, 1), (21, .getfield 272, 3), (24, .ifCond .eq 10, 3), (27, .aload_n 0, 1), (28, .getfield 7, 3), (31, .iload_n 1, 1), (32, .iload_n 2, 1), (33, .iastore, 1), (34, .return_, 1)] = true := by decide +kernel
theorem dX7_wantStore_0 : decode cX7_wantStore 0 = .ok (.aload_n 0, 1) := chkD_at okX7_wantStore_0 0 rfl
theorem dX7_wantStore_1 : decode cX7_wantStore 1 = .ok (.invokevirtual 276, 3) := chkD_at okX7_wantStore_0 1 rfl
theorem dX7_wantStore_4 : decode cX7_wantStore 4 = .ok (.aload_n 0, 1) := chkD_at okX7_wantStore_0 2 rfl
theorem dX7_wantStore_5 : decode cX7_wantStore 5 = .ok (.iconst 0, 1) := chkD_at okX7_wantStore_0 3 rfl
theorem dX7_wantStore_6 : decode cX7_wantStore 6 = .ok (.bipush 7, 2) := chkD_at okX7_wantStore_0 4 rfl
theorem dX7_wantStore_8 : decode cX7_wantStore 8 = .ok (.invokevirtual 285, 3) := chkD_at okX7_wantStore_0 5 rfl
theorem dX7_wantStore_11 : decode cX7_wantStore 11 = .ok (.istore_n 1, 1) := chkD_at okX7_wantStore_0 6 rfl
theorem dX7_wantStore_12 : decode cX7_wantStore 12 = .ok (.aload_n 0, 1) := chkD_at okX7_wantStore_0 7 rfl
theorem dX7_wantStore_13 : decode cX7_wantStore 13 = .ok (.iconst 0, 1) := chkD_at okX7_wantStore_0 8 rfl
theorem dX7_wantStore_14 : decode cX7_wantStore 14 = .ok (.bipush 99, 2) := chkD_at okX7_wantStore_0 9 rfl
theorem dX7_wantStore_16 : decode cX7_wantStore 16 = .ok (.invokevirtual 285, 3) := chkD_at okX7_wantStore_0 10 rfl
theorem dX7_wantStore_19 : decode cX7_wantStore 19 = .ok (.istore_n 2, 1) := chkD_at okX7_wantStore_0 11 rfl
theorem dX7_wantStore_20 : decode cX7_wantStore 20 = .ok (.aload_n 0, 1) := chkD_at okX7_wantStore_0 12 rfl
theorem dX7_wantStore_21 : decode cX7_wantStore 21 = .ok (.getfield 272, 3) := chkD_at okX7_wantStore_0 13 rfl
theorem dX7_wantStore_24 : decode cX7_wantStore 24 = .ok (.ifCond .eq 10, 3) := chkD_at okX7_wantStore_0 14 rfl
theorem dX7_wantStore_27 : decode cX7_wantStore 27 = .ok (.aload_n 0, 1) := chkD_at okX7_wantStore_0 15 rfl
theorem dX7_wantStore_28 : decode cX7_wantStore 28 = .ok (.getfield 7, 3) := chkD_at okX7_wantStore_0 16 rfl
theorem dX7_wantStore_31 : decode cX7_wantStore 31 = .ok (.iload_n 1, 1) := chkD_at okX7_wantStore_0 17 rfl
theorem dX7_wantStore_32 : decode cX7_wantStore 32 = .ok (.iload_n 2, 1) := chkD_at okX7_wantStore_0 18 rfl
theorem dX7_wantStore_33 : decode cX7_wantStore 33 = .ok (.iastore, 1) := chkD_at okX7_wantStore_0 19 rfl
theorem dX7_wantStore_34 : decode cX7_wantStore 34 = .ok (.return_, 1) := chkD_at okX7_wantStore_0 20 rfl
theorem okX7_wantLiking_0 : chkD cX7_wantLiking [(0, .aload_n 0, 1), (1, .invokevirtual 276, 3), (4, .aload_n 0, 1), (5, .ldc2_w 290, 3), (8, .invokevirtual 258, 3), (11, .ifCond .eq 7, 3), (14, .iconst 0, 1), (15, .goto 32, 3), (18, .aload_n 0, 1), (19, .ldc2_w 279, 3), (22, .invokevirtual 258, 3), (25, .ifCond .eq 7, 3), (28, .iconst 1, 1), (29, .goto 18, 3), (32, .aload_n 0, 1), (33, .ldc2_w 288, 3), (36, .invokevirtual 258, 3), (39, .ifCond .eq 7, 3), (42, .iconst 2, 1), (43, .goto 4, 3), (46, .iconst (-1), 1), (47, .istore_n 2, 1), (48, .aload_n 0, 1), (49, .iload_n 2, 1), (50, .ifCond .lt 7, 3), (53, .iconst 1, 1), (54, .goto 4, 3), (57, .iconst 0, 1), (58, .putfield 272, 3), (61, .aload_n 0, 1), (62, .getfield 272, 3), (65, .ifCond .eq 7, 3), (68, .aload_n 0, 1), (69, .invokevirtual 276, 3), (72, .aload_n 0, 1), (73, .iconst 0, 1), (74, .iload_n 2, 1), (75, .invokestatic 107, 3), (78, .invokevirtual 285, 3), (81, .istore_n 3, 1), (82, .aload_n 0, 1), (83, .iconst 0, 1), (84, .bipush 9, 2), (86, .invokevirtual 285, 3), (89, .istore 4, 2), (91, .aload_n 0, 1), (92, .getfield 272, 3), (95, .ifCond .eq 26, 3), (98, .aload_n 0, 1), (99, .getfield 13, 3), (102, .iload_n 2, 1), (103, .iload_n 3, 1), (104, .invokestatic 110, 3), (107, .iload_n 1, 1), (108, .ifCond .eq 8, 3), (111, .iload 4, 2), (113, .goto 7, 3), (116, .iconst 0, 1), (117, .iload 4, 2), (119, .isub, 1), (120, .iastore, 1), (121, .return_, 1)] = true := by decide +kernel
theorem dX7_wantLiking_0 : decode cX7_wantLiking 0 = .ok (.aload_n 0, 1) := chkD_at okX7_wantLiking_0 0 rfl
theorem dX7_wantLiking_1 : decode cX7_wantLiking 1 = .ok (.invokevirtual 276, 3) := chkD_at okX7_wantLiking_0 1 rfl
theorem dX7_wantLiking_4 : decode cX7_wantLiking 4 = .ok (.aload_n 0, 1) := chkD_at okX7_wantLiking_0 2 rfl
theorem dX7_wantLiking_5 : decode cX7_wantLiking 5 = .ok (.ldc2_w 290, 3) := chkD_at okX7_wantLiking_0 3 rfl
theorem dX7_wantLiking_8 : decode cX7_wantLiking 8 = .ok (.invokevirtual 258, 3) := chkD_at okX7_wantLiking_0 4 rfl
theorem dX7_wantLiking_11 : decode cX7_wantLiking 11 = .ok (.ifCond .eq 7, 3) := chkD_at okX7_wantLiking_0 5 rfl
theorem dX7_wantLiking_14 : decode cX7_wantLiking 14 = .ok (.iconst 0, 1) := chkD_at okX7_wantLiking_0 6 rfl
theorem dX7_wantLiking_15 : decode cX7_wantLiking 15 = .ok (.goto 32, 3) := chkD_at okX7_wantLiking_0 7 rfl
theorem dX7_wantLiking_18 : decode cX7_wantLiking 18 = .ok (.aload_n 0, 1) := chkD_at okX7_wantLiking_0 8 rfl
theorem dX7_wantLiking_19 : decode cX7_wantLiking 19 = .ok (.ldc2_w 279, 3) := chkD_at okX7_wantLiking_0 9 rfl
theorem dX7_wantLiking_22 : decode cX7_wantLiking 22 = .ok (.invokevirtual 258, 3) := chkD_at okX7_wantLiking_0 10 rfl
theorem dX7_wantLiking_25 : decode cX7_wantLiking 25 = .ok (.ifCond .eq 7, 3) := chkD_at okX7_wantLiking_0 11 rfl
theorem dX7_wantLiking_28 : decode cX7_wantLiking 28 = .ok (.iconst 1, 1) := chkD_at okX7_wantLiking_0 12 rfl
theorem dX7_wantLiking_29 : decode cX7_wantLiking 29 = .ok (.goto 18, 3) := chkD_at okX7_wantLiking_0 13 rfl
theorem dX7_wantLiking_32 : decode cX7_wantLiking 32 = .ok (.aload_n 0, 1) := chkD_at okX7_wantLiking_0 14 rfl
theorem dX7_wantLiking_33 : decode cX7_wantLiking 33 = .ok (.ldc2_w 288, 3) := chkD_at okX7_wantLiking_0 15 rfl
theorem dX7_wantLiking_36 : decode cX7_wantLiking 36 = .ok (.invokevirtual 258, 3) := chkD_at okX7_wantLiking_0 16 rfl
theorem dX7_wantLiking_39 : decode cX7_wantLiking 39 = .ok (.ifCond .eq 7, 3) := chkD_at okX7_wantLiking_0 17 rfl
theorem dX7_wantLiking_42 : decode cX7_wantLiking 42 = .ok (.iconst 2, 1) := chkD_at okX7_wantLiking_0 18 rfl
theorem dX7_wantLiking_43 : decode cX7_wantLiking 43 = .ok (.goto 4, 3) := chkD_at okX7_wantLiking_0 19 rfl
theorem dX7_wantLiking_46 : decode cX7_wantLiking 46 = .ok (.iconst (-1), 1) := chkD_at okX7_wantLiking_0 20 rfl
theorem dX7_wantLiking_47 : decode cX7_wantLiking 47 = .ok (.istore_n 2, 1) := chkD_at okX7_wantLiking_0 21 rfl
theorem dX7_wantLiking_48 : decode cX7_wantLiking 48 = .ok (.aload_n 0, 1) := chkD_at okX7_wantLiking_0 22 rfl
theorem dX7_wantLiking_49 : decode cX7_wantLiking 49 = .ok (.iload_n 2, 1) := chkD_at okX7_wantLiking_0 23 rfl
theorem dX7_wantLiking_50 : decode cX7_wantLiking 50 = .ok (.ifCond .lt 7, 3) := chkD_at okX7_wantLiking_0 24 rfl
theorem dX7_wantLiking_53 : decode cX7_wantLiking 53 = .ok (.iconst 1, 1) := chkD_at okX7_wantLiking_0 25 rfl
theorem dX7_wantLiking_54 : decode cX7_wantLiking 54 = .ok (.goto 4, 3) := chkD_at okX7_wantLiking_0 26 rfl
theorem dX7_wantLiking_57 : decode cX7_wantLiking 57 = .ok (.iconst 0, 1) := chkD_at okX7_wantLiking_0 27 rfl
theorem dX7_wantLiking_58 : decode cX7_wantLiking 58 = .ok (.putfield 272, 3) := chkD_at okX7_wantLiking_0 28 rfl
theorem dX7_wantLiking_61 : decode cX7_wantLiking 61 = .ok (.aload_n 0, 1) := chkD_at okX7_wantLiking_0 29 rfl
theorem dX7_wantLiking_62 : decode cX7_wantLiking 62 = .ok (.getfield 272, 3) := chkD_at okX7_wantLiking_0 30 rfl
theorem dX7_wantLiking_65 : decode cX7_wantLiking 65 = .ok (.ifCond .eq 7, 3) := chkD_at okX7_wantLiking_0 31 rfl
theorem dX7_wantLiking_68 : decode cX7_wantLiking 68 = .ok (.aload_n 0, 1) := chkD_at okX7_wantLiking_0 32 rfl
theorem dX7_wantLiking_69 : decode cX7_wantLiking 69 = .ok (.invokevirtual 276, 3) := chkD_at okX7_wantLiking_0 33 rfl
theorem dX7_wantLiking_72 : decode cX7_wantLiking 72 = .ok (.aload_n 0, 1) := chkD_at okX7_wantLiking_0 34 rfl
theorem dX7_wantLiking_73 : decode cX7_wantLiking 73 = .ok (.iconst 0, 1) := chkD_at okX7_wantLiking_0 35 rfl
theorem dX7_wantLiking_74 : decode cX7_wantLiking 74 = .ok (.iload_n 2, 1) := chkD_at okX7_wantLiking_0 36 rfl
theorem dX7_wantLiking_75 : decode cX7_wantLiking 75 = .ok (.invokestatic 107, 3) := chkD_at okX7_wantLiking_0 37 rfl
theorem dX7_wantLiking_78 : decode cX7_wantLiking 78 = .ok (.invokevirtual 285, 3) := chkD_at okX7_wantLiking_0 38 rfl
theorem dX7_wantLiking_81 : decode cX7_wantLiking 81 = .ok (.istore_n 3, 1) := chkD_at okX7_wantLiking_0 39 rfl
theorem dX7_wantLiking_82 : decode cX7_wantLiking 82 = .ok (.aload_n 0, 1) := chkD_at okX7_wantLiking_0 40 rfl
theorem dX7_wantLiking_83 : decode cX7_wantLiking 83 = .ok (.iconst 0, 1) := chkD_at okX7_wantLiking_0 41 rfl
theorem dX7_wantLiking_84 : decode cX7_wantLiking 84 = .ok (.bipush 9, 2) := chkD_at okX7_wantLiking_0 42 rfl
theorem dX7_wantLiking_86 : decode cX7_wantLiking 86 = .ok (.invokevirtual 285, 3) := chkD_at okX7_wantLiking_0 43 rfl
theorem dX7_wantLiking_89 : decode cX7_wantLiking 89 = .ok (.istore 4, 2) := chkD_at okX7_wantLiking_0 44 rfl
theorem dX7_wantLiking_91 : decode cX7_wantLiking 91 = .ok (.aload_n 0, 1) := chkD_at okX7_wantLiking_0 45 rfl
theorem dX7_wantLiking_92 : decode cX7_wantLiking 92 = .ok (.getfield 272, 3) := chkD_at okX7_wantLiking_0 46 rfl
theorem dX7_wantLiking_95 : decode cX7_wantLiking 95 = .ok (.ifCond .eq 26, 3) := chkD_at okX7_wantLiking_0 47 rfl
theorem dX7_wantLiking_98 : decode cX7_wantLiking 98 = .ok (.aload_n 0, 1) := chkD_at okX7_wantLiking_0 48 rfl
theorem dX7_wantLiking_99 : decode cX7_wantLiking 99 = .ok (.getfield 13, 3) := chkD_at okX7_wantLiking_0 49 rfl
theorem dX7_wantLiking_102 : decode cX7_wantLiking 102 = .ok (.iload_n 2, 1) := chkD_at okX7_wantLiking_0 50 rfl
theorem dX7_wantLiking_103 : decode cX7_wantLiking 103 = .ok (.iload_n 3, 1) := chkD_at okX7_wantLiking_0 51 rfl
theorem dX7_wantLiking_104 : decode cX7_wantLiking 104 = .ok (.invokestatic 110, 3) := chkD_at okX7_wantLiking_0 52 rfl
theorem dX7_wantLiking_107 : decode cX7_wantLiking 107 = .ok (.iload_n 1, 1) := chkD_at okX7_wantLiking_0 53 rfl
theorem dX7_wantLiking_108 : decode cX7_wantLiking 108 = .ok (.ifCond .eq 8, 3) := chkD_at okX7_wantLiking_0 54 rfl
theorem dX7_wantLiking_111 : decode cX7_wantLiking 111 = .ok (.iload 4, 2) := chkD_at okX7_wantLiking_0 55 rfl
theorem dX7_wantLiking_113 : decode cX7_wantLiking 113 = .ok (.goto 7, 3) := chkD_at okX7_wantLiking_0 56 rfl
theorem dX7_wantLiking_116 : decode cX7_wantLiking 116 = .ok (.iconst 0, 1) := chkD_at okX7_wantLiking_0 57 rfl
theorem dX7_wantLiking_117 : decode cX7_wantLiking 117 = .ok (.iload 4, 2) := chkD_at okX7_wantLiking_0 58 rfl
theorem dX7_wantLiking_119 : decode cX7_wantLiking 119 = .ok (.isub, 1) := chkD_at okX7_wantLiking_0 59 rfl
theorem dX7_wantLiking_120 : decode cX7_wantLiking 120 = .ok (.iastore, 1) := chkD_at okX7_wantLiking_0 60 rfl
theorem dX7_wantLiking_121 : decode cX7_wantLiking 121 = .ok (.return_, 1) := chkD_at okX7_wantLiking_0 61 rfl
theorem okX7_wantEdict_0 : chkD cX7_wantEdict [(0, .aload_n 0, 1), (1, .invokevirtual 276, 3), (4, .aload_n 0, 1), (5, .ldc2_w 292, 3), (8, .ldc2_w 294, 3), (11, .invokevirtual 296, 3), (14, .istore_n 1, 1), (15, .aload_n 0, 1), (16, .ldc2_w 300, 3), (19, .ldc2_w 302, 3), (22, .invokevirtual 296, 3), (25, .istore_n 2, 1), (26, .aload_n 0, 1), (27, .getfield 272, 3), (30, .ifCond .eq 26, 3), (33, .aload_n 0, 1), (34, .getfield 16, 3), (37, .iload_n 1, 1), (38, .ifCond .eq 7, 3), (41, .iconst 0, 1), (42, .goto 4, 3), (45, .iconst 1, 1), (46, .iload_n 2, 1), (47, .ifCond .eq 7, 3), (50, .iconst 1, 1), (51, .goto 4, 3), (54, .iconst 0, 1), (55, .iastore, 1), (56, .return_, 1)] = true := by decide +kernel
theorem dX7_wantEdict_0 : decode cX7_wantEdict 0 = .ok (.aload_n 0, 1) := chkD_at okX7_wantEdict_0 0 rfl
theorem dX7_wantEdict_1 : decode cX7_wantEdict 1 = .ok (.invokevirtual 276, 3) := chkD_at okX7_wantEdict_0 1 rfl
theorem dX7_wantEdict_4 : decode cX7_wantEdict 4 = .ok (.aload_n 0, 1) := chkD_at okX7_wantEdict_0 2 rfl
theorem dX7_wantEdict_5 : decode cX7_wantEdict 5 = .ok (.ldc2_w 292, 3) := chkD_at okX7_wantEdict_0 3 rfl
theorem dX7_wantEdict_8 : decode cX7_wantEdict 8 = .ok (.ldc2_w 294, 3) := chkD_at okX7_wantEdict_0 4 rfl
theorem dX7_wantEdict_11 : decode cX7_wantEdict 11 = .ok (.invokevirtual 296, 3) := chkD_at okX7_wantEdict_0 5 rfl
theorem dX7_wantEdict_14 : decode cX7_wantEdict 14 = .ok (.istore_n 1, 1) := chkD_at okX7_wantEdict_0 6 rfl
theorem dX7_wantEdict_15 : decode cX7_wantEdict 15 = .ok (.aload_n 0, 1) := chkD_at okX7_wantEdict_0 7 rfl
theorem dX7_wantEdict_16 : decode cX7_wantEdict 16 = .ok (.ldc2_w 300, 3) := chkD_at okX7_wantEdict_0 8 rfl
theorem dX7_wantEdict_19 : decode cX7_wantEdict 19 = .ok (.ldc2_w 302, 3) := chkD_at okX7_wantEdict_0 9 rfl
theorem dX7_wantEdict_22 : decode cX7_wantEdict 22 = .ok (.invokevirtual 296, 3) := chkD_at okX7_wantEdict_0 10 rfl
theorem dX7_wantEdict_25 : decode cX7_wantEdict 25 = .ok (.istore_n 2, 1) := chkD_at okX7_wantEdict_0 11 rfl
theorem dX7_wantEdict_26 : decode cX7_wantEdict 26 = .ok (.aload_n 0, 1) := chkD_at okX7_wantEdict_0 12 rfl
theorem dX7_wantEdict_27 : decode cX7_wantEdict 27 = .ok (.getfield 272, 3) := chkD_at okX7_wantEdict_0 13 rfl
theorem dX7_wantEdict_30 : decode cX7_wantEdict 30 = .ok (.ifCond .eq 26, 3) := chkD_at okX7_wantEdict_0 14 rfl
theorem dX7_wantEdict_33 : decode cX7_wantEdict 33 = .ok (.aload_n 0, 1) := chkD_at okX7_wantEdict_0 15 rfl
theorem dX7_wantEdict_34 : decode cX7_wantEdict 34 = .ok (.getfield 16, 3) := chkD_at okX7_wantEdict_0 16 rfl
theorem dX7_wantEdict_37 : decode cX7_wantEdict 37 = .ok (.iload_n 1, 1) := chkD_at okX7_wantEdict_0 17 rfl
theorem dX7_wantEdict_38 : decode cX7_wantEdict 38 = .ok (.ifCond .eq 7, 3) := chkD_at okX7_wantEdict_0 18 rfl
theorem dX7_wantEdict_41 : decode cX7_wantEdict 41 = .ok (.iconst 0, 1) := chkD_at okX7_wantEdict_0 19 rfl
theorem dX7_wantEdict_42 : decode cX7_wantEdict 42 = .ok (.goto 4, 3) := chkD_at okX7_wantEdict_0 20 rfl
theorem dX7_wantEdict_45 : decode cX7_wantEdict 45 = .ok (.iconst 1, 1) := chkD_at okX7_wantEdict_0 21 rfl
theorem dX7_wantEdict_46 : decode cX7_wantEdict 46 = .ok (.iload_n 2, 1) := chkD_at okX7_wantEdict_0 22 rfl
theorem dX7_wantEdict_47 : decode cX7_wantEdict 47 = .ok (.ifCond .eq 7, 3) := chkD_at okX7_wantEdict_0 23 rfl
theorem dX7_wantEdict_50 : decode cX7_wantEdict 50 = .ok (.iconst 1, 1) := chkD_at okX7_wantEdict_0 24 rfl
theorem dX7_wantEdict_51 : decode cX7_wantEdict 51 = .ok (.goto 4, 3) := chkD_at okX7_wantEdict_0 25 rfl
theorem dX7_wantEdict_54 : decode cX7_wantEdict 54 = .ok (.iconst 0, 1) := chkD_at okX7_wantEdict_0 26 rfl
theorem dX7_wantEdict_55 : decode cX7_wantEdict 55 = .ok (.iastore, 1) := chkD_at okX7_wantEdict_0 27 rfl
theorem dX7_wantEdict_56 : decode cX7_wantEdict 56 = .ok (.return_, 1) := chkD_at okX7_wantEdict_0 28 rfl
theorem okX7_wantDay_0 : chkD cX7_wantDay [(0, .aload_n 0, 1), (1, .invokevirtual 276, 3), (4, .aload_n 0, 1), (5, .iconst 0, 1), (6, .sipush 9999, 3), (9, .invokevirtual 285, 3), (12, .istore_n 1, 1), (13, .aload_n 0, 1), (14, .getfield 272, 3), (17, .ifCond .eq 8, 3), (20, .aload_n 0, 1), (21, .iload_n 1, 1), (22, .putfield 163, 3), (25, .return_, 1)] = true := by decide +kernel
theorem dX7_wantDay_0 : decode cX7_wantDay 0 = .ok (.aload_n 0, 1) := chkD_at okX7_wantDay_0 0 rfl
theorem dX7_wantDay_1 : decode cX7_wantDay 1 = .ok (.invokevirtual 276, 3) := chkD_at okX7_wantDay_0 1 rfl
theorem dX7_wantDay_4 : decode cX7_wantDay 4 = .ok (.aload_n 0, 1) := chkD_at okX7_wantDay_0 2 rfl
theorem dX7_wantDay_5 : decode cX7_wantDay 5 = .ok (.iconst 0, 1) := chkD_at okX7_wantDay_0 3 rfl
theorem dX7_wantDay_6 : decode cX7_wantDay 6 = .ok (.sipush 9999, 3) := chkD_at okX7_wantDay_0 4 rfl
theorem dX7_wantDay_9 : decode cX7_wantDay 9 = .ok (.invokevirtual 285, 3) := chkD_at okX7_wantDay_0 5 rfl
theorem dX7_wantDay_12 : decode cX7_wantDay 12 = .ok (.istore_n 1, 1) := chkD_at okX7_wantDay_0 6 rfl
theorem dX7_wantDay_13 : decode cX7_wantDay 13 = .ok (.aload_n 0, 1) := chkD_at okX7_wantDay_0 7 rfl
theorem dX7_wantDay_14 : decode cX7_wantDay 14 = .ok (.getfield 272, 3) := chkD_at okX7_wantDay_0 8 rfl
theorem dX7_wantDay_17 : decode cX7_wantDay 17 = .ok (.ifCond .eq 8, 3) := chkD_at okX7_wantDay_0 9 rfl
theorem dX7_wantDay_20 : decode cX7_wantDay 20 = .ok (.aload_n 0, 1) := chkD_at okX7_wantDay_0 10 rfl
theorem dX7_wantDay_21 : decode cX7_wantDay 21 = .ok (.iload_n 1, 1) := chkD_at okX7_wantDay_0 11 rfl
theorem dX7_wantDay_22 : decode cX7_wantDay 22 = .ok (.putfield 163, 3) := chkD_at okX7_wantDay_0 12 rfl
theorem dX7_wantDay_25 : decode cX7_wantDay 25 = .ok (.return_, 1) := chkD_at okX7_wantDay_0 13 rfl
theorem okX7_wantItem_0 : chkD cX7_wantItem [(0, .aload_n 0, 1), (1, .invokevirtual 304, 3), (4, .ifCond .lt 14, 3), (7, .aload_n 0, 1), (8, .aload_n 0, 1), (9, .invokevirtual 304, 3), (12, .invokevirtual 307, 3), (15, .goto 93, 3), (18, .aload_n 0, 1), (19, .ldc2_w 310, 3), (22, .invokevirtual 258, 3), (25, .ifCond .eq 10, 3), (28, .aload_n 0, 1), (29, .invokevirtual 312, 3), (32, .goto 76, 3), (35, .aload_n 0, 1), (36, .ldc2_w 315, 3), (39, .invokevirtual 258, 3), (42, .ifCond .ne 13, 3), (45, .aload_n 0, 1), (46, .ldc2_w 317, 3), (49, .invokevirtual 258, 3), (52, .ifCond .eq 17, 3), (55, .aload_n 0, 1), (56, .aload_n 0, 1), (57, .ldc2_w 315, 3), (60, .invokevirtual 258, 3), (63, .invokevirtual 319, 3), (66, .goto 42, 3), (69, .aload_n 0, 1), (70, .ldc2_w 323, 3), (73, .invokevirtual 258, 3), (76, .ifCond .eq 10, 3), (79, .aload_n 0, 1), (80, .invokevirtual 325, 3), (83, .goto 25, 3), (86, .aload_n 0, 1), (87, .ldc2_w 328, 3), (90, .invokevirtual 258, 3), (93, .ifCond .eq 10, 3), (96, .aload_n 0, 1), (97, .invokevirtual 330, 3), (100, .goto 8, 3), (103, .aload_n 0, 1), (104, .iconst 0, 1), (105, .putfield 272, 3), (108, .return_, 1)] = true := by decide +kernel
theorem dX7_wantItem_0 : decode cX7_wantItem 0 = .ok (.aload_n 0, 1) := chkD_at okX7_wantItem_0 0 rfl
theorem dX7_wantItem_1 : decode cX7_wantItem 1 = .ok (.invokevirtual 304, 3) := chkD_at okX7_wantItem_0 1 rfl
theorem dX7_wantItem_4 : decode cX7_wantItem 4 = .ok (.ifCond .lt 14, 3) := chkD_at okX7_wantItem_0 2 rfl
theorem dX7_wantItem_7 : decode cX7_wantItem 7 = .ok (.aload_n 0, 1) := chkD_at okX7_wantItem_0 3 rfl
theorem dX7_wantItem_8 : decode cX7_wantItem 8 = .ok (.aload_n 0, 1) := chkD_at okX7_wantItem_0 4 rfl
theorem dX7_wantItem_9 : decode cX7_wantItem 9 = .ok (.invokevirtual 304, 3) := chkD_at okX7_wantItem_0 5 rfl
theorem dX7_wantItem_12 : decode cX7_wantItem 12 = .ok (.invokevirtual 307, 3) := chkD_at okX7_wantItem_0 6 rfl
theorem dX7_wantItem_15 : decode cX7_wantItem 15 = .ok (.goto 93, 3) := chkD_at okX7_wantItem_0 7 rfl
theorem dX7_wantItem_18 : decode cX7_wantItem 18 = .ok (.aload_n 0, 1) := chkD_at okX7_wantItem_0 8 rfl
theorem dX7_wantItem_19 : decode cX7_wantItem 19 = .ok (.ldc2_w 310, 3) := chkD_at okX7_wantItem_0 9 rfl
theorem dX7_wantItem_22 : decode cX7_wantItem 22 = .ok (.invokevirtual 258, 3) := chkD_at okX7_wantItem_0 10 rfl
theorem dX7_wantItem_25 : decode cX7_wantItem 25 = .ok (.ifCond .eq 10, 3) := chkD_at okX7_wantItem_0 11 rfl
theorem dX7_wantItem_28 : decode cX7_wantItem 28 = .ok (.aload_n 0, 1) := chkD_at okX7_wantItem_0 12 rfl
theorem dX7_wantItem_29 : decode cX7_wantItem 29 = .ok (.invokevirtual 312, 3) := chkD_at okX7_wantItem_0 13 rfl
theorem dX7_wantItem_32 : decode cX7_wantItem 32 = .ok (.goto 76, 3) := chkD_at okX7_wantItem_0 14 rfl
theorem dX7_wantItem_35 : decode cX7_wantItem 35 = .ok (.aload_n 0, 1) := chkD_at okX7_wantItem_0 15 rfl
theorem dX7_wantItem_36 : decode cX7_wantItem 36 = .ok (.ldc2_w 315, 3) := chkD_at okX7_wantItem_0 16 rfl
theorem dX7_wantItem_39 : decode cX7_wantItem 39 = .ok (.invokevirtual 258, 3) := chkD_at okX7_wantItem_0 17 rfl
theorem dX7_wantItem_42 : decode cX7_wantItem 42 = .ok (.ifCond .ne 13, 3) := chkD_at okX7_wantItem_0 18 rfl
theorem dX7_wantItem_45 : decode cX7_wantItem 45 = .ok (.aload_n 0, 1) := chkD_at okX7_wantItem_0 19 rfl
theorem dX7_wantItem_46 : decode cX7_wantItem 46 = .ok (.ldc2_w 317, 3) := chkD_at okX7_wantItem_0 20 rfl
theorem dX7_wantItem_49 : decode cX7_wantItem 49 = .ok (.invokevirtual 258, 3) := chkD_at okX7_wantItem_0 21 rfl
theorem dX7_wantItem_52 : decode cX7_wantItem 52 = .ok (.ifCond .eq 17, 3) := chkD_at okX7_wantItem_0 22 rfl
theorem dX7_wantItem_55 : decode cX7_wantItem 55 = .ok (.aload_n 0, 1) := chkD_at okX7_wantItem_0 23 rfl
theorem dX7_wantItem_56 : decode cX7_wantItem 56 = .ok (.aload_n 0, 1) := chkD_at okX7_wantItem_0 24 rfl
theorem dX7_wantItem_57 : decode cX7_wantItem 57 = .ok (.ldc2_w 315, 3) := chkD_at okX7_wantItem_0 25 rfl
theorem dX7_wantItem_60 : decode cX7_wantItem 60 = .ok (.invokevirtual 258, 3) := chkD_at okX7_wantItem_0 26 rfl
theorem dX7_wantItem_63 : decode cX7_wantItem 63 = .ok (.invokevirtual 319, 3) := chkD_at okX7_wantItem_0 27 rfl
theorem dX7_wantItem_66 : decode cX7_wantItem 66 = .ok (.goto 42, 3) := chkD_at okX7_wantItem_0 28 rfl
theorem dX7_wantItem_69 : decode cX7_wantItem 69 = .ok (.aload_n 0, 1) := chkD_at okX7_wantItem_0 29 rfl
theorem dX7_wantItem_70 : decode cX7_wantItem 70 = .ok (.ldc2_w 323, 3) := chkD_at okX7_wantItem_0 30 rfl
theorem dX7_wantItem_73 : decode cX7_wantItem 73 = .ok (.invokevirtual 258, 3) := chkD_at okX7_wantItem_0 31 rfl
theorem dX7_wantItem_76 : decode cX7_wantItem 76 = .ok (.ifCond .eq 10, 3) := chkD_at okX7_wantItem_0 32 rfl
theorem dX7_wantItem_79 : decode cX7_wantItem 79 = .ok (.aload_n 0, 1) := chkD_at okX7_wantItem_0 33 rfl
theorem dX7_wantItem_80 : decode cX7_wantItem 80 = .ok (.invokevirtual 325, 3) := chkD_at okX7_wantItem_0 34 rfl
theorem dX7_wantItem_83 : decode cX7_wantItem 83 = .ok (.goto 25, 3) := chkD_at okX7_wantItem_0 35 rfl
theorem dX7_wantItem_86 : decode cX7_wantItem 86 = .ok (.aload_n 0, 1) := chkD_at okX7_wantItem_0 36 rfl
theorem dX7_wantItem_87 : decode cX7_wantItem 87 = .ok (.ldc2_w 328, 3) := chkD_at okX7_wantItem_0 37 rfl
theorem dX7_wantItem_90 : decode cX7_wantItem 90 = .ok (.invokevirtual 258, 3) := chkD_at okX7_wantItem_0 38 rfl
theorem dX7_wantItem_93 : decode cX7_wantItem 93 = .ok (.ifCond .eq 10, 3) := chkD_at okX7_wantItem_0 39 rfl
theorem dX7_wantItem_96 : decode cX7_wantItem 96 = .ok (.aload_n 0, 1) := chkD_at okX7_wantItem_0 40 rfl
theorem dX7_wantItem_97 : decode cX7_wantItem 97 = .ok (.invokevirtual 330, 3) := chkD_at okX7_wantItem_0 41 rfl
theorem dX7_wantItem_100 : decode cX7_wantItem 100 = .ok (.goto 8, 3) := chkD_at okX7_wantItem_0 42 rfl
theorem dX7_wantItem_103 : decode cX7_wantItem 103 = .ok (.aload_n 0, 1) := chkD_at okX7_wantItem_0 43 rfl
theorem dX7_wantItem_104 : decode cX7_wantItem 104 = .ok (.iconst 0, 1) := chkD_at okX7_wantItem_0 44 rfl
theorem dX7_wantItem_105 : decode cX7_wantItem 105 = .ok (.putfield 272, 3) := chkD_at okX7_wantItem_0 45 rfl
theorem dX7_wantItem_108 : decode cX7_wantItem 108 = .ok (.return_, 1) := chkD_at okX7_wantItem_0 46 rfl
theorem okX7_book_0 : chkD cX7_book [(0, .aload_n 0, 1), (1, .iconst 1, 1), (2, .aload_n 0, 1), (3, .getfield 75, 3), (6, .invokevirtual 333, 3), (9, .aload_n 0, 1), (10, .iconst 0, 1), (11, .putfield 225, 3), (14, .aload_n 0, 1), (15, .iconst 1, 1), (16, .putfield 272, 3), (19, .iconst 0, 1), (20, .istore_n 1, 1), (21, .iconst 1, 1), (22, .istore_n 2, 1), (23, .iload_n 2, 1), (24, .ifCond .eq 47, 3), (27, .aload_n 0, 1), (28, .invokevirtual 276, 3), (31, .aload_n 0, 1), (32, .invokevirtual 337, 3), (35, .iinc 1 1, 3), (38, .aload_n 0, 1), (39, .getfield 272, 3), (42, .ifCond .eq 24, 3), (45, .aload_n 0, 1), (46, .getfield 240, 3), (49, .iconst 3, 1), (50, .if_icmp .ne 16, 3), (53, .aload_n 0, 1), (54, .getfield 247, 3), (57, .bipush 59, 2), (59, .if_icmp .ne 7, 3), (62, .iconst 1, 1), (63, .goto 4, 3), (66, .iconst 0, 1), (67, .istore_n 2, 1), (68, .goto (-45), 3), (71, .aload_n 0, 1), (72, .aload_n 0, 1), (73, .getfield 272, 3), (76, .ifCond .eq 14, 3), (79, .aload_n 0, 1), (80, .getfield 240, 3), (83, .ifCond .ne 7, 3), (86, .iconst 1, 1), (87, .goto 4, 3), (90, .iconst 0, 1), (91, .putfield 272, 3), (94, .aload_n 0, 1), (95, .iconst 0, 1), (96, .putfield 222, 3), (99, .aload_n 0, 1), (100, .getfield 272, 3), (103, .ifCond .ne 19, 3), (106, .aload_n 0, 1), (107, .iconst 0, 1), (108, .aload_n 0, 1), (109, .getfield 75, 3), (112, .invokevirtual 333, 3), (115, .iconst (-1), 1), (116, .aload_n 0, 1), (117, .getfield 228, 3), (120, .isub, 1), (121, .ireturn, 1), (122, .iload_n 1, 1), (123, .ireturn, 1)] = true := by decide +kernel
theorem dX7_book_0 : decode cX7_book 0 = .ok (.aload_n 0, 1) := chkD_at okX7_book_0 0 rfl
theorem dX7_book_1 : decode cX7_book 1 = .ok (.iconst 1, 1) := chkD_at okX7_book_0 1 rfl
theorem dX7_book_2 : decode cX7_book 2 = .ok (.aload_n 0, 1) := chkD_at okX7_book_0 2 rfl
theorem dX7_book_3 : decode cX7_book 3 = .ok (.getfield 75, 3) := chkD_at okX7_book_0 3 rfl
theorem dX7_book_6 : decode cX7_book 6 = .ok (.invokevirtual 333, 3) := chkD_at okX7_book_0 4 rfl
theorem dX7_book_9 : decode cX7_book 9 = .ok (.aload_n 0, 1) := chkD_at okX7_book_0 5 rfl
theorem dX7_book_10 : decode cX7_book 10 = .ok (.iconst 0, 1) := chkD_at okX7_book_0 6 rfl
theorem dX7_book_11 : decode cX7_book 11 = .ok (.putfield 225, 3) := chkD_at okX7_book_0 7 rfl
theorem dX7_book_14 : decode cX7_book 14 = .ok (.aload_n 0, 1) := chkD_at okX7_book_0 8 rfl
theorem dX7_book_15 : decode cX7_book 15 = .ok (.iconst 1, 1) := chkD_at okX7_book_0 9 rfl
theorem dX7_book_16 : decode cX7_book 16 = .ok (.putfield 272, 3) := chkD_at okX7_book_0 10 rfl
theorem dX7_book_19 : decode cX7_book 19 = .ok (.iconst 0, 1) := chkD_at okX7_book_0 11 rfl
theorem dX7_book_20 : decode cX7_book 20 = .ok (.istore_n 1, 1) := chkD_at okX7_book_0 12 rfl
theorem dX7_book_21 : decode cX7_book 21 = .ok (.iconst 1, 1) := chkD_at okX7_book_0 13 rfl
theorem dX7_book_22 : decode cX7_book 22 = .ok (.istore_n 2, 1) := chkD_at okX7_book_0 14 rfl
theorem dX7_book_23 : decode cX7_book 23 = .ok (.iload_n 2, 1) := chkD_at okX7_book_0 15 rfl
theorem dX7_book_24 : decode cX7_book 24 = .ok (.ifCond .eq 47, 3) := chkD_at okX7_book_0 16 rfl
theorem dX7_book_27 : decode cX7_book 27 = .ok (.aload_n 0, 1) := chkD_at okX7_book_0 17 rfl
theorem dX7_book_28 : decode cX7_book 28 = .ok (.invokevirtual 276, 3) := chkD_at okX7_book_0 18 rfl
theorem dX7_book_31 : decode cX7_book 31 = .ok (.aload_n 0, 1) := chkD_at okX7_book_0 19 rfl
theorem dX7_book_32 : decode cX7_book 32 = .ok (.invokevirtual 337, 3) := chkD_at okX7_book_0 20 rfl
theorem dX7_book_35 : decode cX7_book 35 = .ok (.iinc 1 1, 3) := chkD_at okX7_book_0 21 rfl
theorem dX7_book_38 : decode cX7_book 38 = .ok (.aload_n 0, 1) := chkD_at okX7_book_0 22 rfl
theorem dX7_book_39 : decode cX7_book 39 = .ok (.getfield 272, 3) := chkD_at okX7_book_0 23 rfl
theorem dX7_book_42 : decode cX7_book 42 = .ok (.ifCond .eq 24, 3) := chkD_at okX7_book_0 24 rfl
theorem dX7_book_45 : decode cX7_book 45 = .ok (.aload_n 0, 1) := chkD_at okX7_book_0 25 rfl
theorem dX7_book_46 : decode cX7_book 46 = .ok (.getfield 240, 3) := chkD_at okX7_book_0 26 rfl
theorem dX7_book_49 : decode cX7_book 49 = .ok (.iconst 3, 1) := chkD_at okX7_book_0 27 rfl
theorem dX7_book_50 : decode cX7_book 50 = .ok (.if_icmp .ne 16, 3) := chkD_at okX7_book_0 28 rfl
theorem dX7_book_53 : decode cX7_book 53 = .ok (.aload_n 0, 1) := chkD_at okX7_book_0 29 rfl
theorem dX7_book_54 : decode cX7_book 54 = .ok (.getfield 247, 3) := chkD_at okX7_book_0 30 rfl
theorem dX7_book_57 : decode cX7_book 57 = .ok (.bipush 59, 2) := chkD_at okX7_book_0 31 rfl
theorem dX7_book_59 : decode cX7_book 59 = .ok (.if_icmp .ne 7, 3) := chkD_at okX7_book_0 32 rfl
theorem dX7_book_62 : decode cX7_book 62 = .ok (.iconst 1, 1) := chkD_at okX7_book_0 33 rfl
theorem dX7_book_63 : decode cX7_book 63 = .ok (.goto 4, 3) := chkD_at okX7_book_0 34 rfl
theorem dX7_book_66 : decode cX7_book 66 = .ok (.iconst 0, 1) := chkD_at okX7_book_0 35 rfl
theorem dX7_book_67 : decode cX7_book 67 = .ok (.istore_n 2, 1) := chkD_at okX7_book_0 36 rfl
theorem dX7_book_68 : decode cX7_book 68 = .ok (.goto (-45), 3) := chkD_at okX7_book_0 37 rfl
theorem dX7_book_71 : decode cX7_book 71 = .ok (.aload_n 0, 1) := chkD_at okX7_book_0 38 rfl
theorem dX7_book_72 : decode cX7_book 72 = .ok (.aload_n 0, 1) := chkD_at okX7_book_0 39 rfl
theorem dX7_book_73 : decode cX7_book 73 = .ok (.getfield 272, 3) := chkD_at okX7_book_0 40 rfl
theorem dX7_book_76 : decode cX7_book 76 = .ok (.ifCond .eq 14, 3) := chkD_at okX7_book_0 41 rfl
theorem dX7_book_79 : decode cX7_book 79 = .ok (.aload_n 0, 1) := chkD_at okX7_book_0 42 rfl
theorem dX7_book_80 : decode cX7_book 80 = .ok (.getfield 240, 3) := chkD_at okX7_book_0 43 rfl
theorem dX7_book_83 : decode cX7_book 83 = .ok (.ifCond .ne 7, 3) := chkD_at okX7_book_0 44 rfl
theorem dX7_book_86 : decode cX7_book 86 = .ok (.iconst 1, 1) := chkD_at okX7_book_0 45 rfl
theorem dX7_book_87 : decode cX7_book 87 = .ok (.goto 4, 3) := chkD_at okX7_book_0 46 rfl
theorem dX7_book_90 : decode cX7_book 90 = .ok (.iconst 0, 1) := chkD_at okX7_book_0 47 rfl
theorem dX7_book_91 : decode cX7_book 91 = .ok (.putfield 272, 3) := chkD_at okX7_book_0 48 rfl
theorem dX7_book_94 : decode cX7_book 94 = .ok (.aload_n 0, 1) := chkD_at okX7_book_0 49 rfl
theorem dX7_book_95 : decode cX7_book 95 = .ok (.iconst 0, 1) := chkD_at okX7_book_0 50 rfl
theorem dX7_book_96 : decode cX7_book 96 = .ok (.putfield 222, 3) := chkD_at okX7_book_0 51 rfl
theorem dX7_book_99 : decode cX7_book 99 = .ok (.aload_n 0, 1) := chkD_at okX7_book_0 52 rfl
theorem dX7_book_100 : decode cX7_book 100 = .ok (.getfield 272, 3) := chkD_at okX7_book_0 53 rfl
theorem dX7_book_103 : decode cX7_book 103 = .ok (.ifCond .ne 19, 3) := chkD_at okX7_book_0 54 rfl
theorem dX7_book_106 : decode cX7_book 106 = .ok (.aload_n 0, 1) := chkD_at okX7_book_0 55 rfl
theorem dX7_book_107 : decode cX7_book 107 = .ok (.iconst 0, 1) := chkD_at okX7_book_0 56 rfl
theorem dX7_book_108 : decode cX7_book 108 = .ok (.aload_n 0, 1) := chkD_at okX7_book_0 57 rfl
theorem dX7_book_109 : decode cX7_book 109 = .ok (.getfield 75, 3) := chkD_at okX7_book_0 58 rfl
theorem dX7_book_112 : decode cX7_book 112 = .ok (.invokevirtual 333, 3) := chkD_at okX7_book_0 59 rfl
theorem dX7_book_115 : decode cX7_book 115 = .ok (.iconst (-1), 1) := chkD_at okX7_book_0 60 rfl
theorem dX7_book_116 : decode cX7_book 116 = .ok (.aload_n 0, 1) := chkD_at okX7_book_0 61 rfl
theorem dX7_book_117 : decode cX7_book 117 = .ok (.getfield 228, 3) := chkD_at okX7_book_0 62 rfl
theorem dX7_book_120 : decode cX7_book 120 = .ok (.isub, 1) := chkD_at okX7_book_0 63 rfl
theorem dX7_book_121 : decode cX7_book 121 = .ok (.ireturn, 1) := chkD_at okX7_book_0 64 rfl
theorem dX7_book_122 : decode cX7_book 122 = .ok (.iload_n 1, 1) := chkD_at okX7_book_0 65 rfl
theorem dX7_book_123 : decode cX7_book 123 = .ok (.ireturn, 1) := chkD_at okX7_book_0 66 rfl
theorem okX7_isSheet_0 : chkD cX7_isSheet [(0, .iload_n 0, 1), (1, .iconst 0, 1), (2, .iconst 3, 1), (3, .invokestatic 86, 3), (6, .ireturn, 1)] = true := by decide +kernel
theorem dX7_isSheet_0 : decode cX7_isSheet 0 = .ok (.iload_n 0, 1) := chkD_at okX7_isSheet_0 0 rfl
theorem dX7_isSheet_1 : decode cX7_isSheet 1 = .ok (.iconst 0, 1) := chkD_at okX7_isSheet_0 1 rfl
theorem dX7_isSheet_2 : decode cX7_isSheet 2 = .ok (.iconst 3, 1) := chkD_at okX7_isSheet_0 2 rfl
theorem dX7_isSheet_3 : decode cX7_isSheet 3 = .ok (.invokestatic 86, 3) := chkD_at okX7_isSheet_0 3 rfl
theorem dX7_isSheet_6 : decode cX7_isSheet 6 = .ok (.ireturn, 1) := chkD_at okX7_isSheet_0 4 rfl
theorem okX7_narrow_0 : chkD cX7_narrow [(0, .iload_n 0, 1), (1, .bipush 8, 2), (3, .if_icmp .ne 13, 3), (6, .lload_n 1, 1), (7, .bipush 56, 2), (9, .lshl, 1), (10, .bipush 56, 2), (12, .lshr, 1), (13, .goto 20, 3), (16, .iload_n 0, 1), (17, .bipush 16, 2), (19, .if_icmp .ne 13, 3), (22, .lload_n 1, 1), (23, .bipush 48, 2), (25, .lshl, 1), (26, .bipush 48, 2), (28, .lshr, 1), (29, .goto 4, 3), (32, .lload_n 1, 1), (33, .lreturn, 1)] = true := by decide +kernel
theorem dX7_narrow_0 : decode cX7_narrow 0 = .ok (.iload_n 0, 1) := chkD_at okX7_narrow_0 0 rfl
theorem dX7_narrow_1 : decode cX7_narrow 1 = .ok (.bipush 8, 2) := chkD_at okX7_narrow_0 1 rfl
theorem dX7_narrow_3 : decode cX7_narrow 3 = .ok (.if_icmp .ne 13, 3) := chkD_at okX7_narrow_0 2 rfl
theorem dX7_narrow_6 : decode cX7_narrow 6 = .ok (.lload_n 1, 1) := chkD_at okX7_narrow_0 3 rfl
theorem dX7_narrow_7 : decode cX7_narrow 7 = .ok (.bipush 56, 2) := chkD_at okX7_narrow_0 4 rfl
theorem dX7_narrow_9 : decode cX7_narrow 9 = .ok (.lshl, 1) := chkD_at okX7_narrow_0 5 rfl
theorem dX7_narrow_10 : decode cX7_narrow 10 = .ok (.bipush 56, 2) := chkD_at okX7_narrow_0 6 rfl
theorem dX7_narrow_12 : decode cX7_narrow 12 = .ok (.lshr, 1) := chkD_at okX7_narrow_0 7 rfl
theorem dX7_narrow_13 : decode cX7_narrow 13 = .ok (.goto 20, 3) := chkD_at okX7_narrow_0 8 rfl
theorem dX7_narrow_16 : decode cX7_narrow 16 = .ok (.iload_n 0, 1) := chkD_at okX7_narrow_0 9 rfl
theorem dX7_narrow_17 : decode cX7_narrow 17 = .ok (.bipush 16, 2) := chkD_at okX7_narrow_0 10 rfl
theorem dX7_narrow_19 : decode cX7_narrow 19 = .ok (.if_icmp .ne 13, 3) := chkD_at okX7_narrow_0 11 rfl
theorem dX7_narrow_22 : decode cX7_narrow 22 = .ok (.lload_n 1, 1) := chkD_at okX7_narrow_0 12 rfl
theorem dX7_narrow_23 : decode cX7_narrow 23 = .ok (.bipush 48, 2) := chkD_at okX7_narrow_0 13 rfl
theorem dX7_narrow_25 : decode cX7_narrow 25 = .ok (.lshl, 1) := chkD_at okX7_narrow_0 14 rfl
theorem dX7_narrow_26 : decode cX7_narrow 26 = .ok (.bipush 48, 2) := chkD_at okX7_narrow_0 15 rfl
theorem dX7_narrow_28 : decode cX7_narrow 28 = .ok (.lshr, 1) := chkD_at okX7_narrow_0 16 rfl
theorem dX7_narrow_29 : decode cX7_narrow 29 = .ok (.goto 4, 3) := chkD_at okX7_narrow_0 17 rfl
theorem dX7_narrow_32 : decode cX7_narrow 32 = .ok (.lload_n 1, 1) := chkD_at okX7_narrow_0 18 rfl
theorem dX7_narrow_33 : decode cX7_narrow 33 = .ok (.lreturn, 1) := chkD_at okX7_narrow_0 19 rfl
theorem okX7_sheet_0 : chkD cX7_sheet [(0, .iload_n 1, 1), (1, .invokestatic 340, 3), (4, .ifCond .eq 25, 3), (7, .iload_n 2, 1), (8, .ifCond .eq 28, 3), (11, .iload_n 2, 1), (12, .bipush 8, 2), (14, .if_icmp .eq 22, 3), (17, .iload_n 2, 1), (18, .bipush 16, 2), (20, .if_icmp .eq 16, 3), (23, .iload_n 2, 1), (24, .bipush 64, 2), (26, .if_icmp .eq 10, 3), (29, .aload_n 0, 1), (30, .ldc 85, 2), (32, .invokevirtual 104, 3), (35, .ireturn, 1), (36, .iload_n 3, 1), (37, .ifCond .ge 11, 3), (40, .aload_n 0, 1), (41, .ldc_w 343, 3), (44, .invokevirtual 104, 3), (47, .ireturn, 1), (48, .iload_n 3, 1), (49, .bipush 40, 2), (51, .if_icmp .le 10, 3), (54, .aload_n 0, 1), (55, .ldc 85, 2), (57, .invokevirtual 104, 3), (60, .ireturn, 1), (61, .aload_n 0, 1), (62, .getfield 59, 3), (65, .iload_n 1, 1), (66, .iload_n 2, 1), (67, .iastore, 1), (68, .aload_n 0, 1), (69, .getfield 62, 3), (72, .iload_n 1, 1), (73, .iload_n 2, 1), (74, .ifCond .ne 7, 3), (77, .iconst 0, 1), (78, .goto 4, 3), (81, .iload_n 3, 1), (82, .iastore, 1), (83, .iconst 0, 1), (84, .istore 4, 2), (86, .iload 4, 2), (88, .bipush 40, 2), (90, .if_icmp .ge 22, 3), (93, .aload_n 0, 1), (94, .getfield 65, 3), (97, .bipush 40, 2), (99, .iload_n 1, 1), (100, .imul, 1), (101, .iload 4, 2), (103, .iadd, 1), (104, .lconst 0, 1), (105, .lastore, 1), (106, .iinc 4 1, 3), (109, .goto (-23), 3), (112, .aload_n 0, 1), (113, .getfield 62, 3), (116, .iload_n 1, 1), (117, .iaload, 1), (118, .ireturn, 1)] = true := by decide +kernel
theorem dX7_sheet_0 : decode cX7_sheet 0 = .ok (.iload_n 1, 1) := chkD_at okX7_sheet_0 0 rfl
theorem dX7_sheet_1 : decode cX7_sheet 1 = .ok (.invokestatic 340, 3) := chkD_at okX7_sheet_0 1 rfl
theorem dX7_sheet_4 : decode cX7_sheet 4 = .ok (.ifCond .eq 25, 3) := chkD_at okX7_sheet_0 2 rfl
theorem dX7_sheet_7 : decode cX7_sheet 7 = .ok (.iload_n 2, 1) := chkD_at okX7_sheet_0 3 rfl
theorem dX7_sheet_8 : decode cX7_sheet 8 = .ok (.ifCond .eq 28, 3) := chkD_at okX7_sheet_0 4 rfl
theorem dX7_sheet_11 : decode cX7_sheet 11 = .ok (.iload_n 2, 1) := chkD_at okX7_sheet_0 5 rfl
theorem dX7_sheet_12 : decode cX7_sheet 12 = .ok (.bipush 8, 2) := chkD_at okX7_sheet_0 6 rfl
theorem dX7_sheet_14 : decode cX7_sheet 14 = .ok (.if_icmp .eq 22, 3) := chkD_at okX7_sheet_0 7 rfl
theorem dX7_sheet_17 : decode cX7_sheet 17 = .ok (.iload_n 2, 1) := chkD_at okX7_sheet_0 8 rfl
theorem dX7_sheet_18 : decode cX7_sheet 18 = .ok (.bipush 16, 2) := chkD_at okX7_sheet_0 9 rfl
theorem dX7_sheet_20 : decode cX7_sheet 20 = .ok (.if_icmp .eq 16, 3) := chkD_at okX7_sheet_0 10 rfl
theorem dX7_sheet_23 : decode cX7_sheet 23 = .ok (.iload_n 2, 1) := chkD_at okX7_sheet_0 11 rfl
theorem dX7_sheet_24 : decode cX7_sheet 24 = .ok (.bipush 64, 2) := chkD_at okX7_sheet_0 12 rfl
theorem dX7_sheet_26 : decode cX7_sheet 26 = .ok (.if_icmp .eq 10, 3) := chkD_at okX7_sheet_0 13 rfl
theorem dX7_sheet_29 : decode cX7_sheet 29 = .ok (.aload_n 0, 1) := chkD_at okX7_sheet_0 14 rfl
theorem dX7_sheet_30 : decode cX7_sheet 30 = .ok (.ldc 85, 2) := chkD_at okX7_sheet_0 15 rfl
theorem dX7_sheet_32 : decode cX7_sheet 32 = .ok (.invokevirtual 104, 3) := chkD_at okX7_sheet_0 16 rfl
theorem dX7_sheet_35 : decode cX7_sheet 35 = .ok (.ireturn, 1) := chkD_at okX7_sheet_0 17 rfl
theorem dX7_sheet_36 : decode cX7_sheet 36 = .ok (.iload_n 3, 1) := chkD_at okX7_sheet_0 18 rfl
theorem dX7_sheet_37 : decode cX7_sheet 37 = .ok (.ifCond .ge 11, 3) := chkD_at okX7_sheet_0 19 rfl
theorem dX7_sheet_40 : decode cX7_sheet 40 = .ok (.aload_n 0, 1) := chkD_at okX7_sheet_0 20 rfl
theorem dX7_sheet_41 : decode cX7_sheet 41 = .ok (.ldc_w 343, 3) := chkD_at okX7_sheet_0 21 rfl
theorem dX7_sheet_44 : decode cX7_sheet 44 = .ok (.invokevirtual 104, 3) := chkD_at okX7_sheet_0 22 rfl
theorem dX7_sheet_47 : decode cX7_sheet 47 = .ok (.ireturn, 1) := chkD_at okX7_sheet_0 23 rfl
theorem dX7_sheet_48 : decode cX7_sheet 48 = .ok (.iload_n 3, 1) := chkD_at okX7_sheet_0 24 rfl
theorem dX7_sheet_49 : decode cX7_sheet 49 = .ok (.bipush 40, 2) := chkD_at okX7_sheet_0 25 rfl
theorem dX7_sheet_51 : decode cX7_sheet 51 = .ok (.if_icmp .le 10, 3) := chkD_at okX7_sheet_0 26 rfl
theorem dX7_sheet_54 : decode cX7_sheet 54 = .ok (.aload_n 0, 1) := chkD_at okX7_sheet_0 27 rfl
theorem dX7_sheet_55 : decode cX7_sheet 55 = .ok (.ldc 85, 2) := chkD_at okX7_sheet_0 28 rfl
theorem dX7_sheet_57 : decode cX7_sheet 57 = .ok (.invokevirtual 104, 3) := chkD_at okX7_sheet_0 29 rfl
theorem dX7_sheet_60 : decode cX7_sheet 60 = .ok (.ireturn, 1) := chkD_at okX7_sheet_0 30 rfl
theorem dX7_sheet_61 : decode cX7_sheet 61 = .ok (.aload_n 0, 1) := chkD_at okX7_sheet_0 31 rfl
theorem dX7_sheet_62 : decode cX7_sheet 62 = .ok (.getfield 59, 3) := chkD_at okX7_sheet_0 32 rfl
theorem dX7_sheet_65 : decode cX7_sheet 65 = .ok (.iload_n 1, 1) := chkD_at okX7_sheet_0 33 rfl
theorem dX7_sheet_66 : decode cX7_sheet 66 = .ok (.iload_n 2, 1) := chkD_at okX7_sheet_0 34 rfl
theorem dX7_sheet_67 : decode cX7_sheet 67 = .ok (.iastore, 1) := chkD_at okX7_sheet_0 35 rfl
theorem dX7_sheet_68 : decode cX7_sheet 68 = .ok (.aload_n 0, 1) := chkD_at okX7_sheet_0 36 rfl
theorem dX7_sheet_69 : decode cX7_sheet 69 = .ok (.getfield 62, 3) := chkD_at okX7_sheet_0 37 rfl
theorem dX7_sheet_72 : decode cX7_sheet 72 = .ok (.iload_n 1, 1) := chkD_at okX7_sheet_0 38 rfl
theorem dX7_sheet_73 : decode cX7_sheet 73 = .ok (.iload_n 2, 1) := chkD_at okX7_sheet_0 39 rfl
theorem dX7_sheet_74 : decode cX7_sheet 74 = .ok (.ifCond .ne 7, 3) := chkD_at okX7_sheet_0 40 rfl
theorem dX7_sheet_77 : decode cX7_sheet 77 = .ok (.iconst 0, 1) := chkD_at okX7_sheet_0 41 rfl
theorem dX7_sheet_78 : decode cX7_sheet 78 = .ok (.goto 4, 3) := chkD_at okX7_sheet_0 42 rfl
theorem dX7_sheet_81 : decode cX7_sheet 81 = .ok (.iload_n 3, 1) := chkD_at okX7_sheet_0 43 rfl
theorem dX7_sheet_82 : decode cX7_sheet 82 = .ok (.iastore, 1) := chkD_at okX7_sheet_0 44 rfl
theorem dX7_sheet_83 : decode cX7_sheet 83 = .ok (.iconst 0, 1) := chkD_at okX7_sheet_0 45 rfl
theorem dX7_sheet_84 : decode cX7_sheet 84 = .ok (.istore 4, 2) := chkD_at okX7_sheet_0 46 rfl
theorem dX7_sheet_86 : decode cX7_sheet 86 = .ok (.iload 4, 2) := chkD_at okX7_sheet_0 47 rfl
theorem dX7_sheet_88 : decode cX7_sheet 88 = .ok (.bipush 40, 2) := chkD_at okX7_sheet_0 48 rfl
theorem dX7_sheet_90 : decode cX7_sheet 90 = .ok (.if_icmp .ge 22, 3) := chkD_at okX7_sheet_0 49 rfl
theorem dX7_sheet_93 : decode cX7_sheet 93 = .ok (.aload_n 0, 1) := chkD_at okX7_sheet_0 50 rfl
theorem dX7_sheet_94 : decode cX7_sheet 94 = .ok (.getfield 65, 3) := chkD_at okX7_sheet_0 51 rfl
theorem dX7_sheet_97 : decode cX7_sheet 97 = .ok (.bipush 40, 2) := chkD_at okX7_sheet_0 52 rfl
theorem dX7_sheet_99 : decode cX7_sheet 99 = .ok (.iload_n 1, 1) := chkD_at okX7_sheet_0 53 rfl
theorem dX7_sheet_100 : decode cX7_sheet 100 = .ok (.imul, 1) := chkD_at okX7_sheet_0 54 rfl
theorem dX7_sheet_101 : decode cX7_sheet 101 = .ok (.iload 4, 2) := chkD_at okX7_sheet_0 55 rfl
theorem dX7_sheet_103 : decode cX7_sheet 103 = .ok (.iadd, 1) := chkD_at okX7_sheet_0 56 rfl
theorem dX7_sheet_104 : decode cX7_sheet 104 = .ok (.lconst 0, 1) := chkD_at okX7_sheet_0 57 rfl
theorem dX7_sheet_105 : decode cX7_sheet 105 = .ok (.lastore, 1) := chkD_at okX7_sheet_0 58 rfl
theorem dX7_sheet_106 : decode cX7_sheet 106 = .ok (.iinc 4 1, 3) := chkD_at okX7_sheet_0 59 rfl
theorem dX7_sheet_109 : decode cX7_sheet 109 = .ok (.goto (-23), 3) := chkD_at okX7_sheet_0 60 rfl
theorem dX7_sheet_112 : decode cX7_sheet 112 = .ok (.aload_n 0, 1) := chkD_at okX7_sheet_0 61 rfl
theorem dX7_sheet_113 : decode cX7_sheet 113 = .ok (.getfield 62, 3) := chkD_at okX7_sheet_0 62 rfl
theorem dX7_sheet_116 : decode cX7_sheet 116 = .ok (.iload_n 1, 1) := chkD_at okX7_sheet_0 63 rfl
theorem dX7_sheet_117 : decode cX7_sheet 117 = .ok (.iaload, 1) := chkD_at okX7_sheet_0 64 rfl
theorem dX7_sheet_118 : decode cX7_sheet 118 = .ok (.ireturn, 1) := chkD_at okX7_sheet_0 65 rfl
theorem okX7_write_0 : chkD cX7_write [(0, .iload_n 1, 1), (1, .invokestatic 340, 3), (4, .ifCond .ne 11, 3), (7, .aload_n 0, 1), (8, .ldc 85, 2), (10, .invokevirtual 104, 3), (13, .i2l, 1), (14, .lreturn, 1), (15, .aload_n 0, 1), (16, .getfield 59, 3), (19, .iload_n 1, 1), (20, .iaload, 1), (21, .ifCond .ne 12, 3), (24, .aload_n 0, 1), (25, .ldc_w 344, 3), (28, .invokevirtual 104, 3), (31, .i2l, 1), (32, .lreturn, 1), (33, .iload_n 2, 1), (34, .iconst 0, 1), (35, .aload_n 0, 1), (36, .getfield 62, 3), (39, .iload_n 1, 1), (40, .iaload, 1), (41, .iconst 1, 1), (42, .isub, 1), (43, .invokestatic 86, 3), (46, .ifCond .ne 11, 3), (49, .aload_n 0, 1), (50, .ldc 85, 2), (52, .invokevirtual 104, 3), (55, .i2l, 1), (56, .lreturn, 1), (57, .aload_n 0, 1), (58, .getfield 65, 3), (61, .bipush 40, 2), (63, .iload_n 1, 1), (64, .imul, 1), (65, .iload_n 2, 1), (66, .iadd, 1), (67, .laload, 1), (68, .lstore 5, 2), (70, .aload_n 0, 1), (71, .getfield 65, 3), (74, .bipush 40, 2), (76, .iload_n 1, 1), (77, .imul, 1), (78, .iload_n 2, 1), (79, .iadd, 1), (80, .aload_n 0, 1), (81, .getfield 59, 3), (84, .iload_n 1, 1), (85, .iaload, 1), (86, .lload_n 3, 1), (87, .invokestatic 345, 3), (90, .lastore, 1), (91, .lload 5, 2), (93, .lreturn, 1)] = true := by decide +kernel
theorem dX7_write_0 : decode cX7_write 0 = .ok (.iload_n 1, 1) := chkD_at okX7_write_0 0 rfl
theorem dX7_write_1 : decode cX7_write 1 = .ok (.invokestatic 340, 3) := chkD_at okX7_write_0 1 rfl
theorem dX7_write_4 : decode cX7_write 4 = .ok (.ifCond .ne 11, 3) := chkD_at okX7_write_0 2 rfl
theorem dX7_write_7 : decode cX7_write 7 = .ok (.aload_n 0, 1) := chkD_at okX7_write_0 3 rfl
theorem dX7_write_8 : decode cX7_write 8 = .ok (.ldc 85, 2) := chkD_at okX7_write_0 4 rfl
theorem dX7_write_10 : decode cX7_write 10 = .ok (.invokevirtual 104, 3) := chkD_at okX7_write_0 5 rfl
theorem dX7_write_13 : decode cX7_write 13 = .ok (.i2l, 1) := chkD_at okX7_write_0 6 rfl
theorem dX7_write_14 : decode cX7_write 14 = .ok (.lreturn, 1) := chkD_at okX7_write_0 7 rfl
theorem dX7_write_15 : decode cX7_write 15 = .ok (.aload_n 0, 1) := chkD_at okX7_write_0 8 rfl
theorem dX7_write_16 : decode cX7_write 16 = .ok (.getfield 59, 3) := chkD_at okX7_write_0 9 rfl
theorem dX7_write_19 : decode cX7_write 19 = .ok (.iload_n 1, 1) := chkD_at okX7_write_0 10 rfl
theorem dX7_write_20 : decode cX7_write 20 = .ok (.iaload, 1) := chkD_at okX7_write_0 11 rfl
theorem dX7_write_21 : decode cX7_write 21 = .ok (.ifCond .ne 12, 3) := chkD_at okX7_write_0 12 rfl
theorem dX7_write_24 : decode cX7_write 24 = .ok (.aload_n 0, 1) := chkD_at okX7_write_0 13 rfl
theorem dX7_write_25 : decode cX7_write 25 = .ok (.ldc_w 344, 3) := chkD_at okX7_write_0 14 rfl
theorem dX7_write_28 : decode cX7_write 28 = .ok (.invokevirtual 104, 3) := chkD_at okX7_write_0 15 rfl
theorem dX7_write_31 : decode cX7_write 31 = .ok (.i2l, 1) := chkD_at okX7_write_0 16 rfl
theorem dX7_write_32 : decode cX7_write 32 = .ok (.lreturn, 1) := chkD_at okX7_write_0 17 rfl
theorem dX7_write_33 : decode cX7_write 33 = .ok (.iload_n 2, 1) := chkD_at okX7_write_0 18 rfl
theorem dX7_write_34 : decode cX7_write 34 = .ok (.iconst 0, 1) := chkD_at okX7_write_0 19 rfl
theorem dX7_write_35 : decode cX7_write 35 = .ok (.aload_n 0, 1) := chkD_at okX7_write_0 20 rfl
theorem dX7_write_36 : decode cX7_write 36 = .ok (.getfield 62, 3) := chkD_at okX7_write_0 21 rfl
theorem dX7_write_39 : decode cX7_write 39 = .ok (.iload_n 1, 1) := chkD_at okX7_write_0 22 rfl
theorem dX7_write_40 : decode cX7_write 40 = .ok (.iaload, 1) := chkD_at okX7_write_0 23 rfl
theorem dX7_write_41 : decode cX7_write 41 = .ok (.iconst 1, 1) := chkD_at okX7_write_0 24 rfl
theorem dX7_write_42 : decode cX7_write 42 = .ok (.isub, 1) := chkD_at okX7_write_0 25 rfl
theorem dX7_write_43 : decode cX7_write 43 = .ok (.invokestatic 86, 3) := chkD_at okX7_write_0 26 rfl
theorem dX7_write_46 : decode cX7_write 46 = .ok (.ifCond .ne 11, 3) := chkD_at okX7_write_0 27 rfl
theorem dX7_write_49 : decode cX7_write 49 = .ok (.aload_n 0, 1) := chkD_at okX7_write_0 28 rfl
theorem dX7_write_50 : decode cX7_write 50 = .ok (.ldc 85, 2) := chkD_at okX7_write_0 29 rfl
theorem dX7_write_52 : decode cX7_write 52 = .ok (.invokevirtual 104, 3) := chkD_at okX7_write_0 30 rfl
theorem dX7_write_55 : decode cX7_write 55 = .ok (.i2l, 1) := chkD_at okX7_write_0 31 rfl
theorem dX7_write_56 : decode cX7_write 56 = .ok (.lreturn, 1) := chkD_at okX7_write_0 32 rfl
theorem dX7_write_57 : decode cX7_write 57 = .ok (.aload_n 0, 1) := chkD_at okX7_write_0 33 rfl
theorem dX7_write_58 : decode cX7_write 58 = .ok (.getfield 65, 3) := chkD_at okX7_write_0 34 rfl
theorem dX7_write_61 : decode cX7_write 61 = .ok (.bipush 40, 2) := chkD_at okX7_write_0 35 rfl
theorem dX7_write_63 : decode cX7_write 63 = .ok (.iload_n 1, 1) := chkD_at okX7_write_0 36 rfl
theorem dX7_write_64 : decode cX7_write 64 = .ok (.imul, 1) := chkD_at okX7_write_0 37 rfl
theorem dX7_write_65 : decode cX7_write 65 = .ok (.iload_n 2, 1) := chkD_at okX7_write_0 38 rfl
theorem dX7_write_66 : decode cX7_write 66 = .ok (.iadd, 1) := chkD_at okX7_write_0 39 rfl
theorem dX7_write_67 : decode cX7_write 67 = .ok (.laload, 1) := chkD_at okX7_write_0 40 rfl
theorem dX7_write_68 : decode cX7_write 68 = .ok (.lstore 5, 2) := chkD_at okX7_write_0 41 rfl
theorem dX7_write_70 : decode cX7_write 70 = .ok (.aload_n 0, 1) := chkD_at okX7_write_0 42 rfl
theorem dX7_write_71 : decode cX7_write 71 = .ok (.getfield 65, 3) := chkD_at okX7_write_0 43 rfl
theorem dX7_write_74 : decode cX7_write 74 = .ok (.bipush 40, 2) := chkD_at okX7_write_0 44 rfl
theorem dX7_write_76 : decode cX7_write 76 = .ok (.iload_n 1, 1) := chkD_at okX7_write_0 45 rfl
theorem dX7_write_77 : decode cX7_write 77 = .ok (.imul, 1) := chkD_at okX7_write_0 46 rfl
theorem dX7_write_78 : decode cX7_write 78 = .ok (.iload_n 2, 1) := chkD_at okX7_write_0 47 rfl
theorem dX7_write_79 : decode cX7_write 79 = .ok (.iadd, 1) := chkD_at okX7_write_0 48 rfl
theorem dX7_write_80 : decode cX7_write 80 = .ok (.aload_n 0, 1) := chkD_at okX7_write_0 49 rfl
theorem dX7_write_81 : decode cX7_write 81 = .ok (.getfield 59, 3) := chkD_at okX7_write_0 50 rfl
theorem dX7_write_84 : decode cX7_write 84 = .ok (.iload_n 1, 1) := chkD_at okX7_write_0 51 rfl
theorem dX7_write_85 : decode cX7_write 85 = .ok (.iaload, 1) := chkD_at okX7_write_0 52 rfl
theorem dX7_write_86 : decode cX7_write 86 = .ok (.lload_n 3, 1) := chkD_at okX7_write_0 53 rfl
theorem dX7_write_87 : decode cX7_write 87 = .ok (.invokestatic 345, 3) := chkD_at okX7_write_0 54 rfl
theorem dX7_write_90 : decode cX7_write 90 = .ok (.lastore, 1) := chkD_at okX7_write_0 55 rfl
theorem dX7_write_91 : decode cX7_write 91 = .ok (.lload 5, 2) := chkD_at okX7_write_0 56 rfl
theorem dX7_write_93 : decode cX7_write 93 = .ok (.lreturn, 1) := chkD_at okX7_write_0 57 rfl
theorem okX7_isPart_0 : chkD cX7_isPart [(0, .iload_n 2, 1), (1, .ifCond .lt 33, 3), (4, .iload_n 3, 1), (5, .ifCond .lt 29, 3), (8, .iload_n 3, 1), (9, .aload_n 0, 1), (10, .getfield 62, 3), (13, .iload_n 1, 1), (14, .iaload, 1), (15, .if_icmp .gt 19, 3), (18, .iload_n 2, 1), (19, .aload_n 0, 1), (20, .getfield 62, 3), (23, .iload_n 1, 1), (24, .iaload, 1), (25, .iload_n 3, 1), (26, .isub, 1), (27, .if_icmp .gt 7, 3), (30, .iconst 1, 1), (31, .goto 4, 3), (34, .iconst 0, 1), (35, .ireturn, 1)] = true := by decide +kernel
theorem dX7_isPart_0 : decode cX7_isPart 0 = .ok (.iload_n 2, 1) := chkD_at okX7_isPart_0 0 rfl
theorem dX7_isPart_1 : decode cX7_isPart 1 = .ok (.ifCond .lt 33, 3) := chkD_at okX7_isPart_0 1 rfl
theorem dX7_isPart_4 : decode cX7_isPart 4 = .ok (.iload_n 3, 1) := chkD_at okX7_isPart_0 2 rfl
theorem dX7_isPart_5 : decode cX7_isPart 5 = .ok (.ifCond .lt 29, 3) := chkD_at okX7_isPart_0 3 rfl
theorem dX7_isPart_8 : decode cX7_isPart 8 = .ok (.iload_n 3, 1) := chkD_at okX7_isPart_0 4 rfl
theorem dX7_isPart_9 : decode cX7_isPart 9 = .ok (.aload_n 0, 1) := chkD_at okX7_isPart_0 5 rfl
theorem dX7_isPart_10 : decode cX7_isPart 10 = .ok (.getfield 62, 3) := chkD_at okX7_isPart_0 6 rfl
theorem dX7_isPart_13 : decode cX7_isPart 13 = .ok (.iload_n 1, 1) := chkD_at okX7_isPart_0 7 rfl
theorem dX7_isPart_14 : decode cX7_isPart 14 = .ok (.iaload, 1) := chkD_at okX7_isPart_0 8 rfl
theorem dX7_isPart_15 : decode cX7_isPart 15 = .ok (.if_icmp .gt 19, 3) := chkD_at okX7_isPart_0 9 rfl
theorem dX7_isPart_18 : decode cX7_isPart 18 = .ok (.iload_n 2, 1) := chkD_at okX7_isPart_0 10 rfl
theorem dX7_isPart_19 : decode cX7_isPart 19 = .ok (.aload_n 0, 1) := chkD_at okX7_isPart_0 11 rfl
theorem dX7_isPart_20 : decode cX7_isPart 20 = .ok (.getfield 62, 3) := chkD_at okX7_isPart_0 12 rfl
theorem dX7_isPart_23 : decode cX7_isPart 23 = .ok (.iload_n 1, 1) := chkD_at okX7_isPart_0 13 rfl
theorem dX7_isPart_24 : decode cX7_isPart 24 = .ok (.iaload, 1) := chkD_at okX7_isPart_0 14 rfl
theorem dX7_isPart_25 : decode cX7_isPart 25 = .ok (.iload_n 3, 1) := chkD_at okX7_isPart_0 15 rfl
theorem dX7_isPart_26 : decode cX7_isPart 26 = .ok (.isub, 1) := chkD_at okX7_isPart_0 16 rfl
theorem dX7_isPart_27 : decode cX7_isPart 27 = .ok (.if_icmp .gt 7, 3) := chkD_at okX7_isPart_0 17 rfl
theorem dX7_isPart_30 : decode cX7_isPart 30 = .ok (.iconst 1, 1) := chkD_at okX7_isPart_0 18 rfl
theorem dX7_isPart_31 : decode cX7_isPart 31 = .ok (.goto 4, 3) := chkD_at okX7_isPart_0 19 rfl
theorem dX7_isPart_34 : decode cX7_isPart 34 = .ok (.iconst 0, 1) := chkD_at okX7_isPart_0 20 rfl
theorem dX7_isPart_35 : decode cX7_isPart 35 = .ok (.ireturn, 1) := chkD_at okX7_isPart_0 21 rfl
theorem okX7_copy_0 : chkD cX7_copy [(0, .iload_n 1, 1), (1, .invokestatic 340, 3), (4, .ifCond .eq 10, 3), (7, .iload_n 3, 1), (8, .invokestatic 340, 3), (11, .ifCond .ne 10, 3), (14, .aload_n 0, 1), (15, .ldc 85, 2), (17, .invokevirtual 104, 3), (20, .ireturn, 1), (21, .aload_n 0, 1), (22, .getfield 59, 3), (25, .iload_n 1, 1), (26, .iaload, 1), (27, .ifCond .eq 12, 3), (30, .aload_n 0, 1), (31, .getfield 59, 3), (34, .iload_n 3, 1), (35, .iaload, 1), (36, .ifCond .ne 11, 3), (39, .aload_n 0, 1), (40, .ldc_w 344, 3), (43, .invokevirtual 104, 3), (46, .ireturn, 1), (47, .aload_n 0, 1), (48, .getfield 59, 3), (51, .iload_n 1, 1), (52, .iaload, 1), (53, .aload_n 0, 1), (54, .getfield 59, 3), (57, .iload_n 3, 1), (58, .iaload, 1), (59, .if_icmp .eq 10, 3), (62, .aload_n 0, 1), (63, .ldc 179, 2), (65, .invokevirtual 104, 3), (68, .ireturn, 1), (69, .aload_n 0, 1), (70, .iload_n 1, 1), (71, .iload_n 2, 1), (72, .iload 5, 2), (74, .invokevirtual 349, 3), (77, .ifCond .eq 15, 3), (80, .aload_n 0, 1), (81, .iload_n 3, 1), (82, .iload 4, 2), (84, .iload 5, 2), (86, .invokevirtual 349, 3), (89, .ifCond .ne 10, 3), (92, .aload_n 0, 1), (93, .ldc 85, 2), (95, .invokevirtual 104, 3), (98, .ireturn, 1), (99, .iconst 0, 1), (100, .istore 6, 2), (102, .iload 6, 2), (104, .iload 5, 2), (106, .if_icmp .ge 30, 3), (109, .aload_n 0, 1), (110, .getfield 69, 3), (113, .iload 6, 2), (115, .aload_n 0, 1), (116, .getfield 65, 3), (119, .bipush 40, 2), (121, .iload_n 1, 1), (122, .imul, 1), (123, .iload_n 2, 1), (124, .iadd, 1), (125, .iload 6, 2), (127, .iadd, 1), (128, .laload, 1), (129, .lastore, 1), (130, .iinc 6 1, 3), (133, .goto (-31), 3), (136, .iconst 0, 1), (137, .istore 6, 2), (139, .iload 6, 2), (141, .iload 5, 2), (143, .if_icmp .ge 31, 3), (146, .aload_n 0, 1)] = true := by decide +kernel
theorem dX7_copy_0 : decode cX7_copy 0 = .ok (.iload_n 1, 1) := chkD_at okX7_copy_0 0 rfl
theorem dX7_copy_1 : decode cX7_copy 1 = .ok (.invokestatic 340, 3) := chkD_at okX7_copy_0 1 rfl
theorem dX7_copy_4 : decode cX7_copy 4 = .ok (.ifCond .eq 10, 3) := chkD_at okX7_copy_0 2 rfl
theorem dX7_copy_7 : decode cX7_copy 7 = .ok (.iload_n 3, 1) := chkD_at okX7_copy_0 3 rfl
theorem dX7_copy_8 : decode cX7_copy 8 = .ok (.invokestatic 340, 3) := chkD_at okX7_copy_0 4 rfl
theorem dX7_copy_11 : decode cX7_copy 11 = .ok (.ifCond .ne 10, 3) := chkD_at okX7_copy_0 5 rfl
theorem dX7_copy_14 : decode cX7_copy 14 = .ok (.aload_n 0, 1) := chkD_at okX7_copy_0 6 rfl
theorem dX7_copy_15 : decode cX7_copy 15 = .ok (.ldc 85, 2) := chkD_at okX7_copy_0 7 rfl
theorem dX7_copy_17 : decode cX7_copy 17 = .ok (.invokevirtual 104, 3) := chkD_at okX7_copy_0 8 rfl
theorem dX7_copy_20 : decode cX7_copy 20 = .ok (.ireturn, 1) := chkD_at okX7_copy_0 9 rfl
theorem dX7_copy_21 : decode cX7_copy 21 = .ok (.aload_n 0, 1) := chkD_at okX7_copy_0 10 rfl
theorem dX7_copy_22 : decode cX7_copy 22 = .ok (.getfield 59, 3) := chkD_at okX7_copy_0 11 rfl
theorem dX7_copy_25 : decode cX7_copy 25 = .ok (.iload_n 1, 1) := chkD_at okX7_copy_0 12 rfl
theorem dX7_copy_26 : decode cX7_copy 26 = .ok (.iaload, 1) := chkD_at okX7_copy_0 13 rfl
theorem dX7_copy_27 : decode cX7_copy 27 = .ok (.ifCond .eq 12, 3) := chkD_at okX7_copy_0 14 rfl
theorem dX7_copy_30 : decode cX7_copy 30 = .ok (.aload_n 0, 1) := chkD_at okX7_copy_0 15 rfl
theorem dX7_copy_31 : decode cX7_copy 31 = .ok (.getfield 59, 3) := chkD_at okX7_copy_0 16 rfl
theorem dX7_copy_34 : decode cX7_copy 34 = .ok (.iload_n 3, 1) := chkD_at okX7_copy_0 17 rfl
theorem dX7_copy_35 : decode cX7_copy 35 = .ok (.iaload, 1) := chkD_at okX7_copy_0 18 rfl
theorem dX7_copy_36 : decode cX7_copy 36 = .ok (.ifCond .ne 11, 3) := chkD_at okX7_copy_0 19 rfl
theorem dX7_copy_39 : decode cX7_copy 39 = .ok (.aload_n 0, 1) := chkD_at okX7_copy_0 20 rfl
theorem dX7_copy_40 : decode cX7_copy 40 = .ok (.ldc_w 344, 3) := chkD_at okX7_copy_0 21 rfl
theorem dX7_copy_43 : decode cX7_copy 43 = .ok (.invokevirtual 104, 3) := chkD_at okX7_copy_0 22 rfl
theorem dX7_copy_46 : decode cX7_copy 46 = .ok (.ireturn, 1) := chkD_at okX7_copy_0 23 rfl
theorem dX7_copy_47 : decode cX7_copy 47 = .ok (.aload_n 0, 1) := chkD_at okX7_copy_0 24 rfl
theorem dX7_copy_48 : decode cX7_copy 48 = .ok (.getfield 59, 3) := chkD_at okX7_copy_0 25 rfl
theorem dX7_copy_51 : decode cX7_copy 51 = .ok (.iload_n 1, 1) := chkD_at okX7_copy_0 26 rfl
theorem dX7_copy_52 : decode cX7_copy 52 = .ok (.iaload, 1) := chkD_at okX7_copy_0 27 rfl
theorem dX7_copy_53 : decode cX7_copy 53 = .ok (.aload_n 0, 1) := chkD_at okX7_copy_0 28 rfl
theorem dX7_copy_54 : decode cX7_copy 54 = .ok (.getfield 59, 3) := chkD_at okX7_copy_0 29 rfl
theorem dX7_copy_57 : decode cX7_copy 57 = .ok (.iload_n 3, 1) := chkD_at okX7_copy_0 30 rfl
theorem dX7_copy_58 : decode cX7_copy 58 = .ok (.iaload, 1) := chkD_at okX7_copy_0 31 rfl
theorem dX7_copy_59 : decode cX7_copy 59 = .ok (.if_icmp .eq 10, 3) := chkD_at okX7_copy_0 32 rfl
theorem dX7_copy_62 : decode cX7_copy 62 = .ok (.aload_n 0, 1) := chkD_at okX7_copy_0 33 rfl
theorem dX7_copy_63 : decode cX7_copy 63 = .ok (.ldc 179, 2) := chkD_at okX7_copy_0 34 rfl
theorem dX7_copy_65 : decode cX7_copy 65 = .ok (.invokevirtual 104, 3) := chkD_at okX7_copy_0 35 rfl
theorem dX7_copy_68 : decode cX7_copy 68 = .ok (.ireturn, 1) := chkD_at okX7_copy_0 36 rfl
theorem dX7_copy_69 : decode cX7_copy 69 = .ok (.aload_n 0, 1) := chkD_at okX7_copy_0 37 rfl
theorem dX7_copy_70 : decode cX7_copy 70 = .ok (.iload_n 1, 1) := chkD_at okX7_copy_0 38 rfl
theorem dX7_copy_71 : decode cX7_copy 71 = .ok (.iload_n 2, 1) := chkD_at okX7_copy_0 39 rfl
theorem dX7_copy_72 : decode cX7_copy 72 = .ok (.iload 5, 2) := chkD_at okX7_copy_0 40 rfl
theorem dX7_copy_74 : decode cX7_copy 74 = .ok (.invokevirtual 349, 3) := chkD_at okX7_copy_0 41 rfl
theorem dX7_copy_77 : decode cX7_copy 77 = .ok (.ifCond .eq 15, 3) := chkD_at okX7_copy_0 42 rfl
theorem dX7_copy_80 : decode cX7_copy 80 = .ok (.aload_n 0, 1) := chkD_at okX7_copy_0 43 rfl
theorem dX7_copy_81 : decode cX7_copy 81 = .ok (.iload_n 3, 1) := chkD_at okX7_copy_0 44 rfl
theorem dX7_copy_82 : decode cX7_copy 82 = .ok (.iload 4, 2) := chkD_at okX7_copy_0 45 rfl
theorem dX7_copy_84 : decode cX7_copy 84 = .ok (.iload 5, 2) := chkD_at okX7_copy_0 46 rfl
theorem dX7_copy_86 : decode cX7_copy 86 = .ok (.invokevirtual 349, 3) := chkD_at okX7_copy_0 47 rfl
theorem dX7_copy_89 : decode cX7_copy 89 = .ok (.ifCond .ne 10, 3) := chkD_at okX7_copy_0 48 rfl
theorem dX7_copy_92 : decode cX7_copy 92 = .ok (.aload_n 0, 1) := chkD_at okX7_copy_0 49 rfl
theorem dX7_copy_93 : decode cX7_copy 93 = .ok (.ldc 85, 2) := chkD_at okX7_copy_0 50 rfl
theorem dX7_copy_95 : decode cX7_copy 95 = .ok (.invokevirtual 104, 3) := chkD_at okX7_copy_0 51 rfl
theorem dX7_copy_98 : decode cX7_copy 98 = .ok (.ireturn, 1) := chkD_at okX7_copy_0 52 rfl
theorem dX7_copy_99 : decode cX7_copy 99 = .ok (.iconst 0, 1) := chkD_at okX7_copy_0 53 rfl
theorem dX7_copy_100 : decode cX7_copy 100 = .ok (.istore 6, 2) := chkD_at okX7_copy_0 54 rfl
theorem dX7_copy_102 : decode cX7_copy 102 = .ok (.iload 6, 2) := chkD_at okX7_copy_0 55 rfl
theorem dX7_copy_104 : decode cX7_copy 104 = .ok (.iload 5, 2) := chkD_at okX7_copy_0 56 rfl
theorem dX7_copy_106 : decode cX7_copy 106 = .ok (.if_icmp .ge 30, 3) := chkD_at okX7_copy_0 57 rfl
theorem dX7_copy_109 : decode cX7_copy 109 = .ok (.aload_n 0, 1) := chkD_at okX7_copy_0 58 rfl
theorem dX7_copy_110 : decode cX7_copy 110 = .ok (.getfield 69, 3) := chkD_at okX7_copy_0 59 rfl
theorem dX7_copy_113 : decode cX7_copy 113 = .ok (.iload 6, 2) := chkD_at okX7_copy_0 60 rfl
theorem dX7_copy_115 : decode cX7_copy 115 = .ok (.aload_n 0, 1) := chkD_at okX7_copy_0 61 rfl
theorem dX7_copy_116 : decode cX7_copy 116 = .ok (.getfield 65, 3) := chkD_at okX7_copy_0 62 rfl
theorem dX7_copy_119 : decode cX7_copy 119 = .ok (.bipush 40, 2) := chkD_at okX7_copy_0 63 rfl
theorem dX7_copy_121 : decode cX7_copy 121 = .ok (.iload_n 1, 1) := chkD_at okX7_copy_0 64 rfl
theorem dX7_copy_122 : decode cX7_copy 122 = .ok (.imul, 1) := chkD_at okX7_copy_0 65 rfl
theorem dX7_copy_123 : decode cX7_copy 123 = .ok (.iload_n 2, 1) := chkD_at okX7_copy_0 66 rfl
theorem dX7_copy_124 : decode cX7_copy 124 = .ok (.iadd, 1) := chkD_at okX7_copy_0 67 rfl
theorem dX7_copy_125 : decode cX7_copy 125 = .ok (.iload 6, 2) := chkD_at okX7_copy_0 68 rfl
theorem dX7_copy_127 : decode cX7_copy 127 = .ok (.iadd, 1) := chkD_at okX7_copy_0 69 rfl
theorem dX7_copy_128 : decode cX7_copy 128 = .ok (.laload, 1) := chkD_at okX7_copy_0 70 rfl
theorem dX7_copy_129 : decode cX7_copy 129 = .ok (.lastore, 1) := chkD_at okX7_copy_0 71 rfl
theorem dX7_copy_130 : decode cX7_copy 130 = .ok (.iinc 6 1, 3) := chkD_at okX7_copy_0 72 rfl
theorem dX7_copy_133 : decode cX7_copy 133 = .ok (.goto (-31), 3) := chkD_at okX7_copy_0 73 rfl
theorem dX7_copy_136 : decode cX7_copy 136 = .ok (.iconst 0, 1) := chkD_at okX7_copy_0 74 rfl
theorem dX7_copy_137 : decode cX7_copy 137 = .ok (.istore 6, 2) := chkD_at okX7_copy_0 75 rfl
theorem dX7_copy_139 : decode cX7_copy 139 = .ok (.iload 6, 2) := chkD_at okX7_copy_0 76 rfl
theorem dX7_copy_141 : decode cX7_copy 141 = .ok (.iload 5, 2) := chkD_at okX7_copy_0 77 rfl
theorem dX7_copy_143 : decode cX7_copy 143 = .ok (.if_icmp .ge 31, 3) := chkD_at okX7_copy_0 78 rfl
theorem dX7_copy_146 : decode cX7_copy 146 = .ok (.aload_n 0, 1) := chkD_at okX7_copy_0 79 rfl
theorem okX7_copy_1 : chkD cX7_copy [(147, .getfield 65, 3), (150, .bipush 40, 2), (152, .iload_n 3, 1), (153, .imul, 1), (154, .iload 4, 2), (156, .iadd, 1), (157, .iload 6, 2), (159, .iadd, 1), (160, .aload_n 0, 1), (161, .getfield 69, 3), (164, .iload 6, 2), (166, .laload, 1), (167, .lastore, 1), (168, .iinc 6 1, 3), (171, .goto (-32), 3), (174, .iload 5, 2), (176, .ireturn, 1)] = true := by decide +kernel
theorem dX7_copy_147 : decode cX7_copy 147 = .ok (.getfield 65, 3) := chkD_at okX7_copy_1 0 rfl
theorem dX7_copy_150 : decode cX7_copy 150 = .ok (.bipush 40, 2) := chkD_at okX7_copy_1 1 rfl
theorem dX7_copy_152 : decode cX7_copy 152 = .ok (.iload_n 3, 1) := chkD_at okX7_copy_1 2 rfl
theorem dX7_copy_153 : decode cX7_copy 153 = .ok (.imul, 1) := chkD_at okX7_copy_1 3 rfl
theorem dX7_copy_154 : decode cX7_copy 154 = .ok (.iload 4, 2) := chkD_at okX7_copy_1 4 rfl
theorem dX7_copy_156 : decode cX7_copy 156 = .ok (.iadd, 1) := chkD_at okX7_copy_1 5 rfl
theorem dX7_copy_157 : decode cX7_copy 157 = .ok (.iload 6, 2) := chkD_at okX7_copy_1 6 rfl
theorem dX7_copy_159 : decode cX7_copy 159 = .ok (.iadd, 1) := chkD_at okX7_copy_1 7 rfl
theorem dX7_copy_160 : decode cX7_copy 160 = .ok (.aload_n 0, 1) := chkD_at okX7_copy_1 8 rfl
theorem dX7_copy_161 : decode cX7_copy 161 = .ok (.getfield 69, 3) := chkD_at okX7_copy_1 9 rfl
theorem dX7_copy_164 : decode cX7_copy 164 = .ok (.iload 6, 2) := chkD_at okX7_copy_1 10 rfl
theorem dX7_copy_166 : decode cX7_copy 166 = .ok (.laload, 1) := chkD_at okX7_copy_1 11 rfl
theorem dX7_copy_167 : decode cX7_copy 167 = .ok (.lastore, 1) := chkD_at okX7_copy_1 12 rfl
theorem dX7_copy_168 : decode cX7_copy 168 = .ok (.iinc 6 1, 3) := chkD_at okX7_copy_1 13 rfl
theorem dX7_copy_171 : decode cX7_copy 171 = .ok (.goto (-32), 3) := chkD_at okX7_copy_1 14 rfl
theorem dX7_copy_174 : decode cX7_copy 174 = .ok (.iload 5, 2) := chkD_at okX7_copy_1 15 rfl
theorem dX7_copy_176 : decode cX7_copy 176 = .ok (.ireturn, 1) := chkD_at okX7_copy_1 16 rfl
theorem okX7_lays_0 : chkD cX7_lays [(0, .iload_n 1, 1), (1, .invokestatic 340, 3), (4, .ifCond .ne 10, 3), (7, .aload_n 0, 1), (8, .ldc 85, 2), (10, .invokevirtual 104, 3), (13, .ireturn, 1), (14, .aload_n 0, 1), (15, .getfield 59, 3), (18, .iload_n 1, 1), (19, .iaload, 1), (20, .ifCond .ne 11, 3), (23, .aload_n 0, 1), (24, .ldc_w 344, 3), (27, .invokevirtual 104, 3), (30, .ireturn, 1), (31, .iconst 0, 1), (32, .istore_n 2, 1), (33, .iconst 0, 1), (34, .istore_n 3, 1), (35, .iload_n 3, 1), (36, .bipush 8, 2), (38, .if_icmp .ge 60, 3), (41, .iload_n 3, 1), (42, .aload_n 0, 1), (43, .getfield 62, 3), (46, .iload_n 1, 1), (47, .iaload, 1), (48, .if_icmp .ge 50, 3), (51, .aload_n 0, 1), (52, .getfield 65, 3), (55, .bipush 40, 2), (57, .iload_n 1, 1), (58, .imul, 1), (59, .iload_n 3, 1), (60, .iadd, 1), (61, .laload, 1), (62, .lstore 4, 2), (64, .lload 4, 2), (66, .lconst 0, 1), (67, .lcmp, 1), (68, .ifCond .lt 24, 3), (71, .lload 4, 2), (73, .ldc2_w 352, 3), (76, .lcmp, 1), (77, .ifCond .gt 15, 3), (80, .aload_n 0, 1), (81, .getfield 7, 3), (84, .iload_n 3, 1), (85, .lload 4, 2), (87, .l2i, 1), (88, .iastore, 1), (89, .iinc 2 1, 3), (92, .iinc 3 1, 3), (95, .goto (-60), 3), (98, .iload_n 2, 1), (99, .ireturn, 1)] = true := by decide +kernel
theorem dX7_lays_0 : decode cX7_lays 0 = .ok (.iload_n 1, 1) := chkD_at okX7_lays_0 0 rfl
theorem dX7_lays_1 : decode cX7_lays 1 = .ok (.invokestatic 340, 3) := chkD_at okX7_lays_0 1 rfl
theorem dX7_lays_4 : decode cX7_lays 4 = .ok (.ifCond .ne 10, 3) := chkD_at okX7_lays_0 2 rfl
theorem dX7_lays_7 : decode cX7_lays 7 = .ok (.aload_n 0, 1) := chkD_at okX7_lays_0 3 rfl
theorem dX7_lays_8 : decode cX7_lays 8 = .ok (.ldc 85, 2) := chkD_at okX7_lays_0 4 rfl
theorem dX7_lays_10 : decode cX7_lays 10 = .ok (.invokevirtual 104, 3) := chkD_at okX7_lays_0 5 rfl
theorem dX7_lays_13 : decode cX7_lays 13 = .ok (.ireturn, 1) := chkD_at okX7_lays_0 6 rfl
theorem dX7_lays_14 : decode cX7_lays 14 = .ok (.aload_n 0, 1) := chkD_at okX7_lays_0 7 rfl
theorem dX7_lays_15 : decode cX7_lays 15 = .ok (.getfield 59, 3) := chkD_at okX7_lays_0 8 rfl
theorem dX7_lays_18 : decode cX7_lays 18 = .ok (.iload_n 1, 1) := chkD_at okX7_lays_0 9 rfl
theorem dX7_lays_19 : decode cX7_lays 19 = .ok (.iaload, 1) := chkD_at okX7_lays_0 10 rfl
theorem dX7_lays_20 : decode cX7_lays 20 = .ok (.ifCond .ne 11, 3) := chkD_at okX7_lays_0 11 rfl
theorem dX7_lays_23 : decode cX7_lays 23 = .ok (.aload_n 0, 1) := chkD_at okX7_lays_0 12 rfl
theorem dX7_lays_24 : decode cX7_lays 24 = .ok (.ldc_w 344, 3) := chkD_at okX7_lays_0 13 rfl
theorem dX7_lays_27 : decode cX7_lays 27 = .ok (.invokevirtual 104, 3) := chkD_at okX7_lays_0 14 rfl
theorem dX7_lays_30 : decode cX7_lays 30 = .ok (.ireturn, 1) := chkD_at okX7_lays_0 15 rfl
theorem dX7_lays_31 : decode cX7_lays 31 = .ok (.iconst 0, 1) := chkD_at okX7_lays_0 16 rfl
theorem dX7_lays_32 : decode cX7_lays 32 = .ok (.istore_n 2, 1) := chkD_at okX7_lays_0 17 rfl
theorem dX7_lays_33 : decode cX7_lays 33 = .ok (.iconst 0, 1) := chkD_at okX7_lays_0 18 rfl
theorem dX7_lays_34 : decode cX7_lays 34 = .ok (.istore_n 3, 1) := chkD_at okX7_lays_0 19 rfl
theorem dX7_lays_35 : decode cX7_lays 35 = .ok (.iload_n 3, 1) := chkD_at okX7_lays_0 20 rfl
theorem dX7_lays_36 : decode cX7_lays 36 = .ok (.bipush 8, 2) := chkD_at okX7_lays_0 21 rfl
theorem dX7_lays_38 : decode cX7_lays 38 = .ok (.if_icmp .ge 60, 3) := chkD_at okX7_lays_0 22 rfl
theorem dX7_lays_41 : decode cX7_lays 41 = .ok (.iload_n 3, 1) := chkD_at okX7_lays_0 23 rfl
theorem dX7_lays_42 : decode cX7_lays 42 = .ok (.aload_n 0, 1) := chkD_at okX7_lays_0 24 rfl
theorem dX7_lays_43 : decode cX7_lays 43 = .ok (.getfield 62, 3) := chkD_at okX7_lays_0 25 rfl
theorem dX7_lays_46 : decode cX7_lays 46 = .ok (.iload_n 1, 1) := chkD_at okX7_lays_0 26 rfl
theorem dX7_lays_47 : decode cX7_lays 47 = .ok (.iaload, 1) := chkD_at okX7_lays_0 27 rfl
theorem dX7_lays_48 : decode cX7_lays 48 = .ok (.if_icmp .ge 50, 3) := chkD_at okX7_lays_0 28 rfl
theorem dX7_lays_51 : decode cX7_lays 51 = .ok (.aload_n 0, 1) := chkD_at okX7_lays_0 29 rfl
theorem dX7_lays_52 : decode cX7_lays 52 = .ok (.getfield 65, 3) := chkD_at okX7_lays_0 30 rfl
theorem dX7_lays_55 : decode cX7_lays 55 = .ok (.bipush 40, 2) := chkD_at okX7_lays_0 31 rfl
theorem dX7_lays_57 : decode cX7_lays 57 = .ok (.iload_n 1, 1) := chkD_at okX7_lays_0 32 rfl
theorem dX7_lays_58 : decode cX7_lays 58 = .ok (.imul, 1) := chkD_at okX7_lays_0 33 rfl
theorem dX7_lays_59 : decode cX7_lays 59 = .ok (.iload_n 3, 1) := chkD_at okX7_lays_0 34 rfl
theorem dX7_lays_60 : decode cX7_lays 60 = .ok (.iadd, 1) := chkD_at okX7_lays_0 35 rfl
theorem dX7_lays_61 : decode cX7_lays 61 = .ok (.laload, 1) := chkD_at okX7_lays_0 36 rfl
theorem dX7_lays_62 : decode cX7_lays 62 = .ok (.lstore 4, 2) := chkD_at okX7_lays_0 37 rfl
theorem dX7_lays_64 : decode cX7_lays 64 = .ok (.lload 4, 2) := chkD_at okX7_lays_0 38 rfl
theorem dX7_lays_66 : decode cX7_lays 66 = .ok (.lconst 0, 1) := chkD_at okX7_lays_0 39 rfl
theorem dX7_lays_67 : decode cX7_lays 67 = .ok (.lcmp, 1) := chkD_at okX7_lays_0 40 rfl
theorem dX7_lays_68 : decode cX7_lays 68 = .ok (.ifCond .lt 24, 3) := chkD_at okX7_lays_0 41 rfl
theorem dX7_lays_71 : decode cX7_lays 71 = .ok (.lload 4, 2) := chkD_at okX7_lays_0 42 rfl
theorem dX7_lays_73 : decode cX7_lays 73 = .ok (.ldc2_w 352, 3) := chkD_at okX7_lays_0 43 rfl
theorem dX7_lays_76 : decode cX7_lays 76 = .ok (.lcmp, 1) := chkD_at okX7_lays_0 44 rfl
theorem dX7_lays_77 : decode cX7_lays 77 = .ok (.ifCond .gt 15, 3) := chkD_at okX7_lays_0 45 rfl
theorem dX7_lays_80 : decode cX7_lays 80 = .ok (.aload_n 0, 1) := chkD_at okX7_lays_0 46 rfl
theorem dX7_lays_81 : decode cX7_lays 81 = .ok (.getfield 7, 3) := chkD_at okX7_lays_0 47 rfl
theorem dX7_lays_84 : decode cX7_lays 84 = .ok (.iload_n 3, 1) := chkD_at okX7_lays_0 48 rfl
theorem dX7_lays_85 : decode cX7_lays 85 = .ok (.lload 4, 2) := chkD_at okX7_lays_0 49 rfl
theorem dX7_lays_87 : decode cX7_lays 87 = .ok (.l2i, 1) := chkD_at okX7_lays_0 50 rfl
theorem dX7_lays_88 : decode cX7_lays 88 = .ok (.iastore, 1) := chkD_at okX7_lays_0 51 rfl
theorem dX7_lays_89 : decode cX7_lays 89 = .ok (.iinc 2 1, 3) := chkD_at okX7_lays_0 52 rfl
theorem dX7_lays_92 : decode cX7_lays 92 = .ok (.iinc 3 1, 3) := chkD_at okX7_lays_0 53 rfl
theorem dX7_lays_95 : decode cX7_lays 95 = .ok (.goto (-60), 3) := chkD_at okX7_lays_0 54 rfl
theorem dX7_lays_98 : decode cX7_lays 98 = .ok (.iload_n 2, 1) := chkD_at okX7_lays_0 55 rfl
theorem dX7_lays_99 : decode cX7_lays 99 = .ok (.ireturn, 1) := chkD_at okX7_lays_0 56 rfl
theorem okX7_noMenu_0 : chkD cX7_noMenu [(0, .iload_n 1, 1), (1, .invokestatic 340, 3), (4, .ifCond .ne 8, 3), (7, .ldc 85, 2), (9, .goto 31, 3), (12, .aload_n 0, 1), (13, .getfield 59, 3), (16, .iload_n 1, 1), (17, .iaload, 1), (18, .ifCond .ne 9, 3), (21, .ldc_w 344, 3), (24, .goto 16, 3), (27, .iload_n 2, 1), (28, .invokestatic 159, 3), (31, .ifCond .ne 8, 3), (34, .ldc 85, 2), (36, .goto 4, 3), (39, .iconst 0, 1), (40, .ireturn, 1)] = true := by decide +kernel
theorem dX7_noMenu_0 : decode cX7_noMenu 0 = .ok (.iload_n 1, 1) := chkD_at okX7_noMenu_0 0 rfl
theorem dX7_noMenu_1 : decode cX7_noMenu 1 = .ok (.invokestatic 340, 3) := chkD_at okX7_noMenu_0 1 rfl
theorem dX7_noMenu_4 : decode cX7_noMenu 4 = .ok (.ifCond .ne 8, 3) := chkD_at okX7_noMenu_0 2 rfl
theorem dX7_noMenu_7 : decode cX7_noMenu 7 = .ok (.ldc 85, 2) := chkD_at okX7_noMenu_0 3 rfl
theorem dX7_noMenu_9 : decode cX7_noMenu 9 = .ok (.goto 31, 3) := chkD_at okX7_noMenu_0 4 rfl
theorem dX7_noMenu_12 : decode cX7_noMenu 12 = .ok (.aload_n 0, 1) := chkD_at okX7_noMenu_0 5 rfl
theorem dX7_noMenu_13 : decode cX7_noMenu 13 = .ok (.getfield 59, 3) := chkD_at okX7_noMenu_0 6 rfl
theorem dX7_noMenu_16 : decode cX7_noMenu 16 = .ok (.iload_n 1, 1) := chkD_at okX7_noMenu_0 7 rfl
theorem dX7_noMenu_17 : decode cX7_noMenu 17 = .ok (.iaload, 1) := chkD_at okX7_noMenu_0 8 rfl
theorem dX7_noMenu_18 : decode cX7_noMenu 18 = .ok (.ifCond .ne 9, 3) := chkD_at okX7_noMenu_0 9 rfl
theorem dX7_noMenu_21 : decode cX7_noMenu 21 = .ok (.ldc_w 344, 3) := chkD_at okX7_noMenu_0 10 rfl
theorem dX7_noMenu_24 : decode cX7_noMenu 24 = .ok (.goto 16, 3) := chkD_at okX7_noMenu_0 11 rfl
theorem dX7_noMenu_27 : decode cX7_noMenu 27 = .ok (.iload_n 2, 1) := chkD_at okX7_noMenu_0 12 rfl
theorem dX7_noMenu_28 : decode cX7_noMenu 28 = .ok (.invokestatic 159, 3) := chkD_at okX7_noMenu_0 13 rfl
theorem dX7_noMenu_31 : decode cX7_noMenu 31 = .ok (.ifCond .ne 8, 3) := chkD_at okX7_noMenu_0 14 rfl
theorem dX7_noMenu_34 : decode cX7_noMenu 34 = .ok (.ldc 85, 2) := chkD_at okX7_noMenu_0 15 rfl
theorem dX7_noMenu_36 : decode cX7_noMenu 36 = .ok (.goto 4, 3) := chkD_at okX7_noMenu_0 16 rfl
theorem dX7_noMenu_39 : decode cX7_noMenu 39 = .ok (.iconst 0, 1) := chkD_at okX7_noMenu_0 17 rfl
theorem dX7_noMenu_40 : decode cX7_noMenu 40 = .ok (.ireturn, 1) := chkD_at okX7_noMenu_0 18 rfl
theorem okX7_menu_0 : chkD cX7_menu [(0, .aload_n 0, 1), (1, .iload_n 1, 1), (2, .iload_n 2, 1), (3, .invokevirtual 354, 3), (6, .istore_n 3, 1), (7, .iload_n 3, 1), (8, .ifCond .eq 9, 3), (11, .aload_n 0, 1), (12, .iload_n 3, 1), (13, .invokevirtual 104, 3), (16, .ireturn, 1), (17, .aload_n 0, 1), (18, .invokevirtual 194, 3), (21, .iconst 0, 1), (22, .istore 4, 2), (24, .iconst 0, 1), (25, .istore 5, 2), (27, .iload 4, 2), (29, .aload_n 0, 1), (30, .getfield 62, 3), (33, .iload_n 1, 1), (34, .iaload, 1), (35, .if_icmp .ge 50, 3), (38, .iload 5, 2), (40, .ifCond .lt 45, 3), (43, .aload_n 0, 1), (44, .iload_n 2, 1), (45, .invokevirtual 197, 3), (48, .istore 5, 2), (50, .iload 5, 2), (52, .ifCond .lt (-25), 3), (55, .aload_n 0, 1), (56, .getfield 65, 3), (59, .bipush 40, 2), (61, .iload_n 1, 1), (62, .imul, 1), (63, .iload 4, 2), (65, .iadd, 1), (66, .aload_n 0, 1), (67, .getfield 59, 3), (70, .iload_n 1, 1), (71, .iaload, 1), (72, .iload 5, 2), (74, .i2l, 1), (75, .invokestatic 345, 3), (78, .lastore, 1), (79, .iinc 4 1, 3), (82, .goto (-55), 3), (85, .aload_n 0, 1), (86, .invokevirtual 200, 3), (89, .iload 4, 2), (91, .ireturn, 1)] = true := by decide +kernel
theorem dX7_menu_0 : decode cX7_menu 0 = .ok (.aload_n 0, 1) := chkD_at okX7_menu_0 0 rfl
theorem dX7_menu_1 : decode cX7_menu 1 = .ok (.iload_n 1, 1) := chkD_at okX7_menu_0 1 rfl
theorem dX7_menu_2 : decode cX7_menu 2 = .ok (.iload_n 2, 1) := chkD_at okX7_menu_0 2 rfl
theorem dX7_menu_3 : decode cX7_menu 3 = .ok (.invokevirtual 354, 3) := chkD_at okX7_menu_0 3 rfl
theorem dX7_menu_6 : decode cX7_menu 6 = .ok (.istore_n 3, 1) := chkD_at okX7_menu_0 4 rfl
theorem dX7_menu_7 : decode cX7_menu 7 = .ok (.iload_n 3, 1) := chkD_at okX7_menu_0 5 rfl
theorem dX7_menu_8 : decode cX7_menu 8 = .ok (.ifCond .eq 9, 3) := chkD_at okX7_menu_0 6 rfl
theorem dX7_menu_11 : decode cX7_menu 11 = .ok (.aload_n 0, 1) := chkD_at okX7_menu_0 7 rfl
theorem dX7_menu_12 : decode cX7_menu 12 = .ok (.iload_n 3, 1) := chkD_at okX7_menu_0 8 rfl
theorem dX7_menu_13 : decode cX7_menu 13 = .ok (.invokevirtual 104, 3) := chkD_at okX7_menu_0 9 rfl
theorem dX7_menu_16 : decode cX7_menu 16 = .ok (.ireturn, 1) := chkD_at okX7_menu_0 10 rfl
theorem dX7_menu_17 : decode cX7_menu 17 = .ok (.aload_n 0, 1) := chkD_at okX7_menu_0 11 rfl
theorem dX7_menu_18 : decode cX7_menu 18 = .ok (.invokevirtual 194, 3) := chkD_at okX7_menu_0 12 rfl
theorem dX7_menu_21 : decode cX7_menu 21 = .ok (.iconst 0, 1) := chkD_at okX7_menu_0 13 rfl
theorem dX7_menu_22 : decode cX7_menu 22 = .ok (.istore 4, 2) := chkD_at okX7_menu_0 14 rfl
theorem dX7_menu_24 : decode cX7_menu 24 = .ok (.iconst 0, 1) := chkD_at okX7_menu_0 15 rfl
theorem dX7_menu_25 : decode cX7_menu 25 = .ok (.istore 5, 2) := chkD_at okX7_menu_0 16 rfl
theorem dX7_menu_27 : decode cX7_menu 27 = .ok (.iload 4, 2) := chkD_at okX7_menu_0 17 rfl
theorem dX7_menu_29 : decode cX7_menu 29 = .ok (.aload_n 0, 1) := chkD_at okX7_menu_0 18 rfl
theorem dX7_menu_30 : decode cX7_menu 30 = .ok (.getfield 62, 3) := chkD_at okX7_menu_0 19 rfl
theorem dX7_menu_33 : decode cX7_menu 33 = .ok (.iload_n 1, 1) := chkD_at okX7_menu_0 20 rfl
theorem dX7_menu_34 : decode cX7_menu 34 = .ok (.iaload, 1) := chkD_at okX7_menu_0 21 rfl
theorem dX7_menu_35 : decode cX7_menu 35 = .ok (.if_icmp .ge 50, 3) := chkD_at okX7_menu_0 22 rfl
theorem dX7_menu_38 : decode cX7_menu 38 = .ok (.iload 5, 2) := chkD_at okX7_menu_0 23 rfl
theorem dX7_menu_40 : decode cX7_menu 40 = .ok (.ifCond .lt 45, 3) := chkD_at okX7_menu_0 24 rfl
theorem dX7_menu_43 : decode cX7_menu 43 = .ok (.aload_n 0, 1) := chkD_at okX7_menu_0 25 rfl
theorem dX7_menu_44 : decode cX7_menu 44 = .ok (.iload_n 2, 1) := chkD_at okX7_menu_0 26 rfl
theorem dX7_menu_45 : decode cX7_menu 45 = .ok (.invokevirtual 197, 3) := chkD_at okX7_menu_0 27 rfl
theorem dX7_menu_48 : decode cX7_menu 48 = .ok (.istore 5, 2) := chkD_at okX7_menu_0 28 rfl
theorem dX7_menu_50 : decode cX7_menu 50 = .ok (.iload 5, 2) := chkD_at okX7_menu_0 29 rfl
theorem dX7_menu_52 : decode cX7_menu 52 = .ok (.ifCond .lt (-25), 3) := chkD_at okX7_menu_0 30 rfl
theorem dX7_menu_55 : decode cX7_menu 55 = .ok (.aload_n 0, 1) := chkD_at okX7_menu_0 31 rfl
theorem dX7_menu_56 : decode cX7_menu 56 = .ok (.getfield 65, 3) := chkD_at okX7_menu_0 32 rfl
theorem dX7_menu_59 : decode cX7_menu 59 = .ok (.bipush 40, 2) := chkD_at okX7_menu_0 33 rfl
theorem dX7_menu_61 : decode cX7_menu 61 = .ok (.iload_n 1, 1) := chkD_at okX7_menu_0 34 rfl
theorem dX7_menu_62 : decode cX7_menu 62 = .ok (.imul, 1) := chkD_at okX7_menu_0 35 rfl
theorem dX7_menu_63 : decode cX7_menu 63 = .ok (.iload 4, 2) := chkD_at okX7_menu_0 36 rfl
theorem dX7_menu_65 : decode cX7_menu 65 = .ok (.iadd, 1) := chkD_at okX7_menu_0 37 rfl
theorem dX7_menu_66 : decode cX7_menu 66 = .ok (.aload_n 0, 1) := chkD_at okX7_menu_0 38 rfl
theorem dX7_menu_67 : decode cX7_menu 67 = .ok (.getfield 59, 3) := chkD_at okX7_menu_0 39 rfl
theorem dX7_menu_70 : decode cX7_menu 70 = .ok (.iload_n 1, 1) := chkD_at okX7_menu_0 40 rfl
theorem dX7_menu_71 : decode cX7_menu 71 = .ok (.iaload, 1) := chkD_at okX7_menu_0 41 rfl
theorem dX7_menu_72 : decode cX7_menu 72 = .ok (.iload 5, 2) := chkD_at okX7_menu_0 42 rfl
theorem dX7_menu_74 : decode cX7_menu 74 = .ok (.i2l, 1) := chkD_at okX7_menu_0 43 rfl
theorem dX7_menu_75 : decode cX7_menu 75 = .ok (.invokestatic 345, 3) := chkD_at okX7_menu_0 44 rfl
theorem dX7_menu_78 : decode cX7_menu 78 = .ok (.lastore, 1) := chkD_at okX7_menu_0 45 rfl
theorem dX7_menu_79 : decode cX7_menu 79 = .ok (.iinc 4 1, 3) := chkD_at okX7_menu_0 46 rfl
theorem dX7_menu_82 : decode cX7_menu 82 = .ok (.goto (-55), 3) := chkD_at okX7_menu_0 47 rfl
theorem dX7_menu_85 : decode cX7_menu 85 = .ok (.aload_n 0, 1) := chkD_at okX7_menu_0 48 rfl
theorem dX7_menu_86 : decode cX7_menu 86 = .ok (.invokevirtual 200, 3) := chkD_at okX7_menu_0 49 rfl
theorem dX7_menu_89 : decode cX7_menu 89 = .ok (.iload 4, 2) := chkD_at okX7_menu_0 50 rfl
theorem dX7_menu_91 : decode cX7_menu 91 = .ok (.ireturn, 1) := chkD_at okX7_menu_0 51 rfl
theorem okX7_canServe_0 : chkD cX7_canServe [(0, .lload_n 1, 1), (1, .lconst 0, 1), (2, .lcmp, 1), (3, .ifCond .lt 16, 3), (6, .lload_n 1, 1), (7, .ldc2_w 357, 3), (10, .lcmp, 1), (11, .ifCond .ge 8, 3), (14, .lload_n 1, 1), (15, .l2i, 1), (16, .goto 4, 3), (19, .iconst 0, 1), (20, .istore 4, 2), (22, .iload 4, 2), (24, .ifCond .le 58, 3), (27, .aload_n 0, 1), (28, .iload 4, 2), (30, .invokevirtual 131, 3), (33, .ifCond .eq 49, 3), (36, .aload_n 0, 1), (37, .iload 4, 2), (39, .invokevirtual 137, 3), (42, .ifCond .eq 40, 3), (45, .iload_n 3, 1), (46, .iconst 2, 1), (47, .if_icmp .eq 31, 3), (50, .aload_n 0, 1), (51, .getfield 37, 3), (54, .aload_n 0, 1), (55, .aload_n 0, 1), (56, .iload 4, 2), (58, .invokevirtual 131, 3), (61, .ifCond .eq 8, 3), (64, .iload 4, 2), (66, .goto 5, 3), (69, .bipush 20, 2), (71, .invokevirtual 213, 3), (74, .baload, 1), (75, .ifCond .ne 7, 3), (78, .iconst 1, 1), (79, .goto 4, 3), (82, .iconst 0, 1), (83, .ireturn, 1)] = true := by decide +kernel
theorem dX7_canServe_0 : decode cX7_canServe 0 = .ok (.lload_n 1, 1) := chkD_at okX7_canServe_0 0 rfl
theorem dX7_canServe_1 : decode cX7_canServe 1 = .ok (.lconst 0, 1) := chkD_at okX7_canServe_0 1 rfl
theorem dX7_canServe_2 : decode cX7_canServe 2 = .ok (.lcmp, 1) := chkD_at okX7_canServe_0 2 rfl
theorem dX7_canServe_3 : decode cX7_canServe 3 = .ok (.ifCond .lt 16, 3) := chkD_at okX7_canServe_0 3 rfl
theorem dX7_canServe_6 : decode cX7_canServe 6 = .ok (.lload_n 1, 1) := chkD_at okX7_canServe_0 4 rfl
theorem dX7_canServe_7 : decode cX7_canServe 7 = .ok (.ldc2_w 357, 3) := chkD_at okX7_canServe_0 5 rfl
theorem dX7_canServe_10 : decode cX7_canServe 10 = .ok (.lcmp, 1) := chkD_at okX7_canServe_0 6 rfl
theorem dX7_canServe_11 : decode cX7_canServe 11 = .ok (.ifCond .ge 8, 3) := chkD_at okX7_canServe_0 7 rfl
theorem dX7_canServe_14 : decode cX7_canServe 14 = .ok (.lload_n 1, 1) := chkD_at okX7_canServe_0 8 rfl
theorem dX7_canServe_15 : decode cX7_canServe 15 = .ok (.l2i, 1) := chkD_at okX7_canServe_0 9 rfl
theorem dX7_canServe_16 : decode cX7_canServe 16 = .ok (.goto 4, 3) := chkD_at okX7_canServe_0 10 rfl
theorem dX7_canServe_19 : decode cX7_canServe 19 = .ok (.iconst 0, 1) := chkD_at okX7_canServe_0 11 rfl
theorem dX7_canServe_20 : decode cX7_canServe 20 = .ok (.istore 4, 2) := chkD_at okX7_canServe_0 12 rfl
theorem dX7_canServe_22 : decode cX7_canServe 22 = .ok (.iload 4, 2) := chkD_at okX7_canServe_0 13 rfl
theorem dX7_canServe_24 : decode cX7_canServe 24 = .ok (.ifCond .le 58, 3) := chkD_at okX7_canServe_0 14 rfl
theorem dX7_canServe_27 : decode cX7_canServe 27 = .ok (.aload_n 0, 1) := chkD_at okX7_canServe_0 15 rfl
theorem dX7_canServe_28 : decode cX7_canServe 28 = .ok (.iload 4, 2) := chkD_at okX7_canServe_0 16 rfl
theorem dX7_canServe_30 : decode cX7_canServe 30 = .ok (.invokevirtual 131, 3) := chkD_at okX7_canServe_0 17 rfl
theorem dX7_canServe_33 : decode cX7_canServe 33 = .ok (.ifCond .eq 49, 3) := chkD_at okX7_canServe_0 18 rfl
theorem dX7_canServe_36 : decode cX7_canServe 36 = .ok (.aload_n 0, 1) := chkD_at okX7_canServe_0 19 rfl
theorem dX7_canServe_37 : decode cX7_canServe 37 = .ok (.iload 4, 2) := chkD_at okX7_canServe_0 20 rfl
theorem dX7_canServe_39 : decode cX7_canServe 39 = .ok (.invokevirtual 137, 3) := chkD_at okX7_canServe_0 21 rfl
theorem dX7_canServe_42 : decode cX7_canServe 42 = .ok (.ifCond .eq 40, 3) := chkD_at okX7_canServe_0 22 rfl
theorem dX7_canServe_45 : decode cX7_canServe 45 = .ok (.iload_n 3, 1) := chkD_at okX7_canServe_0 23 rfl
theorem dX7_canServe_46 : decode cX7_canServe 46 = .ok (.iconst 2, 1) := chkD_at okX7_canServe_0 24 rfl
theorem dX7_canServe_47 : decode cX7_canServe 47 = .ok (.if_icmp .eq 31, 3) := chkD_at okX7_canServe_0 25 rfl
theorem dX7_canServe_50 : decode cX7_canServe 50 = .ok (.aload_n 0, 1) := chkD_at okX7_canServe_0 26 rfl
theorem dX7_canServe_51 : decode cX7_canServe 51 = .ok (.getfield 37, 3) := chkD_at okX7_canServe_0 27 rfl
theorem dX7_canServe_54 : decode cX7_canServe 54 = .ok (.aload_n 0, 1) := chkD_at okX7_canServe_0 28 rfl
theorem dX7_canServe_55 : decode cX7_canServe 55 = .ok (.aload_n 0, 1) := chkD_at okX7_canServe_0 29 rfl
theorem dX7_canServe_56 : decode cX7_canServe 56 = .ok (.iload 4, 2) := chkD_at okX7_canServe_0 30 rfl
theorem dX7_canServe_58 : decode cX7_canServe 58 = .ok (.invokevirtual 131, 3) := chkD_at okX7_canServe_0 31 rfl
theorem dX7_canServe_61 : decode cX7_canServe 61 = .ok (.ifCond .eq 8, 3) := chkD_at okX7_canServe_0 32 rfl
theorem dX7_canServe_64 : decode cX7_canServe 64 = .ok (.iload 4, 2) := chkD_at okX7_canServe_0 33 rfl
theorem dX7_canServe_66 : decode cX7_canServe 66 = .ok (.goto 5, 3) := chkD_at okX7_canServe_0 34 rfl
theorem dX7_canServe_69 : decode cX7_canServe 69 = .ok (.bipush 20, 2) := chkD_at okX7_canServe_0 35 rfl
theorem dX7_canServe_71 : decode cX7_canServe 71 = .ok (.invokevirtual 213, 3) := chkD_at okX7_canServe_0 36 rfl
theorem dX7_canServe_74 : decode cX7_canServe 74 = .ok (.baload, 1) := chkD_at okX7_canServe_0 37 rfl
theorem dX7_canServe_75 : decode cX7_canServe 75 = .ok (.ifCond .ne 7, 3) := chkD_at okX7_canServe_0 38 rfl
theorem dX7_canServe_78 : decode cX7_canServe 78 = .ok (.iconst 1, 1) := chkD_at okX7_canServe_0 39 rfl
theorem dX7_canServe_79 : decode cX7_canServe 79 = .ok (.goto 4, 3) := chkD_at okX7_canServe_0 40 rfl
theorem dX7_canServe_82 : decode cX7_canServe 82 = .ok (.iconst 0, 1) := chkD_at okX7_canServe_0 41 rfl
theorem dX7_canServe_83 : decode cX7_canServe 83 = .ok (.ireturn, 1) := chkD_at okX7_canServe_0 42 rfl
theorem okX7_read_0 : chkD cX7_read [(0, .aload_n 0, 1), (1, .iload_n 1, 1), (2, .iload_n 2, 1), (3, .invokevirtual 354, 3), (6, .istore_n 3, 1), (7, .iload_n 3, 1), (8, .ifCond .eq 9, 3), (11, .aload_n 0, 1), (12, .iload_n 3, 1), (13, .invokevirtual 104, 3), (16, .ireturn, 1), (17, .aload_n 0, 1), (18, .invokevirtual 194, 3), (21, .iconst 0, 1), (22, .istore 4, 2), (24, .iconst 0, 1), (25, .istore 5, 2), (27, .iload 5, 2), (29, .aload_n 0, 1), (30, .getfield 62, 3), (33, .iload_n 1, 1), (34, .iaload, 1), (35, .if_icmp .ge 66, 3), (38, .iload 4, 2), (40, .ifCond .ne 61, 3), (43, .aload_n 0, 1), (44, .getfield 65, 3), (47, .bipush 40, 2), (49, .iload_n 1, 1), (50, .imul, 1), (51, .iload 5, 2), (53, .iadd, 1), (54, .laload, 1), (55, .lstore 6, 2), (57, .aload_n 0, 1), (58, .lload 6, 2), (60, .iload_n 2, 1), (61, .invokevirtual 359, 3), (64, .ifCond .eq 25, 3), (67, .aload_n 0, 1), (68, .iload_n 2, 1), (69, .lload 6, 2), (71, .l2i, 1), (72, .iconst 0, 1), (73, .invokevirtual 188, 3), (76, .aload_n 0, 1), (77, .aload_n 0, 1), (78, .getfield 93, 3), (81, .iconst 1, 1), (82, .isub, 1), (83, .invokevirtual 146, 3), (86, .goto 9, 3), (89, .iload 5, 2), (91, .iconst 1, 1), (92, .iadd, 1), (93, .istore 4, 2), (95, .iinc 5 1, 3), (98, .goto (-71), 3), (101, .aload_n 0, 1), (102, .invokevirtual 200, 3), (105, .iload 4, 2), (107, .ireturn, 1)] = true := by decide +kernel
theorem dX7_read_0 : decode cX7_read 0 = .ok (.aload_n 0, 1) := chkD_at okX7_read_0 0 rfl
theorem dX7_read_1 : decode cX7_read 1 = .ok (.iload_n 1, 1) := chkD_at okX7_read_0 1 rfl
theorem dX7_read_2 : decode cX7_read 2 = .ok (.iload_n 2, 1) := chkD_at okX7_read_0 2 rfl
theorem dX7_read_3 : decode cX7_read 3 = .ok (.invokevirtual 354, 3) := chkD_at okX7_read_0 3 rfl
theorem dX7_read_6 : decode cX7_read 6 = .ok (.istore_n 3, 1) := chkD_at okX7_read_0 4 rfl
theorem dX7_read_7 : decode cX7_read 7 = .ok (.iload_n 3, 1) := chkD_at okX7_read_0 5 rfl
theorem dX7_read_8 : decode cX7_read 8 = .ok (.ifCond .eq 9, 3) := chkD_at okX7_read_0 6 rfl
theorem dX7_read_11 : decode cX7_read 11 = .ok (.aload_n 0, 1) := chkD_at okX7_read_0 7 rfl
theorem dX7_read_12 : decode cX7_read 12 = .ok (.iload_n 3, 1) := chkD_at okX7_read_0 8 rfl
theorem dX7_read_13 : decode cX7_read 13 = .ok (.invokevirtual 104, 3) := chkD_at okX7_read_0 9 rfl
theorem dX7_read_16 : decode cX7_read 16 = .ok (.ireturn, 1) := chkD_at okX7_read_0 10 rfl
theorem dX7_read_17 : decode cX7_read 17 = .ok (.aload_n 0, 1) := chkD_at okX7_read_0 11 rfl
theorem dX7_read_18 : decode cX7_read 18 = .ok (.invokevirtual 194, 3) := chkD_at okX7_read_0 12 rfl
theorem dX7_read_21 : decode cX7_read 21 = .ok (.iconst 0, 1) := chkD_at okX7_read_0 13 rfl
theorem dX7_read_22 : decode cX7_read 22 = .ok (.istore 4, 2) := chkD_at okX7_read_0 14 rfl
theorem dX7_read_24 : decode cX7_read 24 = .ok (.iconst 0, 1) := chkD_at okX7_read_0 15 rfl
theorem dX7_read_25 : decode cX7_read 25 = .ok (.istore 5, 2) := chkD_at okX7_read_0 16 rfl
theorem dX7_read_27 : decode cX7_read 27 = .ok (.iload 5, 2) := chkD_at okX7_read_0 17 rfl
theorem dX7_read_29 : decode cX7_read 29 = .ok (.aload_n 0, 1) := chkD_at okX7_read_0 18 rfl
theorem dX7_read_30 : decode cX7_read 30 = .ok (.getfield 62, 3) := chkD_at okX7_read_0 19 rfl
theorem dX7_read_33 : decode cX7_read 33 = .ok (.iload_n 1, 1) := chkD_at okX7_read_0 20 rfl
theorem dX7_read_34 : decode cX7_read 34 = .ok (.iaload, 1) := chkD_at okX7_read_0 21 rfl
theorem dX7_read_35 : decode cX7_read 35 = .ok (.if_icmp .ge 66, 3) := chkD_at okX7_read_0 22 rfl
theorem dX7_read_38 : decode cX7_read 38 = .ok (.iload 4, 2) := chkD_at okX7_read_0 23 rfl
theorem dX7_read_40 : decode cX7_read 40 = .ok (.ifCond .ne 61, 3) := chkD_at okX7_read_0 24 rfl
theorem dX7_read_43 : decode cX7_read 43 = .ok (.aload_n 0, 1) := chkD_at okX7_read_0 25 rfl
theorem dX7_read_44 : decode cX7_read 44 = .ok (.getfield 65, 3) := chkD_at okX7_read_0 26 rfl
theorem dX7_read_47 : decode cX7_read 47 = .ok (.bipush 40, 2) := chkD_at okX7_read_0 27 rfl
theorem dX7_read_49 : decode cX7_read 49 = .ok (.iload_n 1, 1) := chkD_at okX7_read_0 28 rfl
theorem dX7_read_50 : decode cX7_read 50 = .ok (.imul, 1) := chkD_at okX7_read_0 29 rfl
theorem dX7_read_51 : decode cX7_read 51 = .ok (.iload 5, 2) := chkD_at okX7_read_0 30 rfl
theorem dX7_read_53 : decode cX7_read 53 = .ok (.iadd, 1) := chkD_at okX7_read_0 31 rfl
theorem dX7_read_54 : decode cX7_read 54 = .ok (.laload, 1) := chkD_at okX7_read_0 32 rfl
theorem dX7_read_55 : decode cX7_read 55 = .ok (.lstore 6, 2) := chkD_at okX7_read_0 33 rfl
theorem dX7_read_57 : decode cX7_read 57 = .ok (.aload_n 0, 1) := chkD_at okX7_read_0 34 rfl
theorem dX7_read_58 : decode cX7_read 58 = .ok (.lload 6, 2) := chkD_at okX7_read_0 35 rfl
theorem dX7_read_60 : decode cX7_read 60 = .ok (.iload_n 2, 1) := chkD_at okX7_read_0 36 rfl
theorem dX7_read_61 : decode cX7_read 61 = .ok (.invokevirtual 359, 3) := chkD_at okX7_read_0 37 rfl
theorem dX7_read_64 : decode cX7_read 64 = .ok (.ifCond .eq 25, 3) := chkD_at okX7_read_0 38 rfl
theorem dX7_read_67 : decode cX7_read 67 = .ok (.aload_n 0, 1) := chkD_at okX7_read_0 39 rfl
theorem dX7_read_68 : decode cX7_read 68 = .ok (.iload_n 2, 1) := chkD_at okX7_read_0 40 rfl
theorem dX7_read_69 : decode cX7_read 69 = .ok (.lload 6, 2) := chkD_at okX7_read_0 41 rfl
theorem dX7_read_71 : decode cX7_read 71 = .ok (.l2i, 1) := chkD_at okX7_read_0 42 rfl
theorem dX7_read_72 : decode cX7_read 72 = .ok (.iconst 0, 1) := chkD_at okX7_read_0 43 rfl
theorem dX7_read_73 : decode cX7_read 73 = .ok (.invokevirtual 188, 3) := chkD_at okX7_read_0 44 rfl
theorem dX7_read_76 : decode cX7_read 76 = .ok (.aload_n 0, 1) := chkD_at okX7_read_0 45 rfl
theorem dX7_read_77 : decode cX7_read 77 = .ok (.aload_n 0, 1) := chkD_at okX7_read_0 46 rfl
theorem dX7_read_78 : decode cX7_read 78 = .ok (.getfield 93, 3) := chkD_at okX7_read_0 47 rfl
theorem dX7_read_81 : decode cX7_read 81 = .ok (.iconst 1, 1) := chkD_at okX7_read_0 48 rfl
theorem dX7_read_82 : decode cX7_read 82 = .ok (.isub, 1) := chkD_at okX7_read_0 49 rfl
theorem dX7_read_83 : decode cX7_read 83 = .ok (.invokevirtual 146, 3) := chkD_at okX7_read_0 50 rfl
theorem dX7_read_86 : decode cX7_read 86 = .ok (.goto 9, 3) := chkD_at okX7_read_0 51 rfl
theorem dX7_read_89 : decode cX7_read 89 = .ok (.iload 5, 2) := chkD_at okX7_read_0 52 rfl
theorem dX7_read_91 : decode cX7_read 91 = .ok (.iconst 1, 1) := chkD_at okX7_read_0 53 rfl
theorem dX7_read_92 : decode cX7_read 92 = .ok (.iadd, 1) := chkD_at okX7_read_0 54 rfl
theorem dX7_read_93 : decode cX7_read 93 = .ok (.istore 4, 2) := chkD_at okX7_read_0 55 rfl
theorem dX7_read_95 : decode cX7_read 95 = .ok (.iinc 5 1, 3) := chkD_at okX7_read_0 56 rfl
theorem dX7_read_98 : decode cX7_read 98 = .ok (.goto (-71), 3) := chkD_at okX7_read_0 57 rfl
theorem dX7_read_101 : decode cX7_read 101 = .ok (.aload_n 0, 1) := chkD_at okX7_read_0 58 rfl
theorem dX7_read_102 : decode cX7_read 102 = .ok (.invokevirtual 200, 3) := chkD_at okX7_read_0 59 rfl
theorem dX7_read_105 : decode cX7_read 105 = .ok (.iload 4, 2) := chkD_at okX7_read_0 60 rfl
theorem dX7_read_107 : decode cX7_read 107 = .ok (.ireturn, 1) := chkD_at okX7_read_0 61 rfl
theorem okX7_moveRow_0 : chkD cX7_moveRow [(0, .iconst 0, 1), (1, .istore 5, 2), (3, .iload 5, 2), (5, .iload_n 2, 1), (6, .if_icmp .ge 48, 3), (9, .iload_n 3, 1), (10, .ifCond .eq 17, 3), (13, .aload 4, 2), (15, .aload_n 0, 1), (16, .getfield 363, 3), (19, .aload_n 1, 1), (20, .iload 5, 2), (22, .iaload, 1), (23, .iastore, 1), (24, .goto 14, 3), (27, .aload_n 1, 1), (28, .iload 5, 2), (30, .aload 4, 2), (32, .aload_n 0, 1), (33, .getfield 363, 3), (36, .iaload, 1), (37, .iastore, 1), (38, .aload_n 0, 1), (39, .dup, 1), (40, .getfield 363, 3), (43, .iconst 1, 1), (44, .iadd, 1), (45, .putfield 363, 3), (48, .iinc 5 1, 3), (51, .goto (-48), 3), (54, .return_, 1)] = true := by decide +kernel
theorem dX7_moveRow_0 : decode cX7_moveRow 0 = .ok (.iconst 0, 1) := chkD_at okX7_moveRow_0 0 rfl
theorem dX7_moveRow_1 : decode cX7_moveRow 1 = .ok (.istore 5, 2) := chkD_at okX7_moveRow_0 1 rfl
theorem dX7_moveRow_3 : decode cX7_moveRow 3 = .ok (.iload 5, 2) := chkD_at okX7_moveRow_0 2 rfl
theorem dX7_moveRow_5 : decode cX7_moveRow 5 = .ok (.iload_n 2, 1) := chkD_at okX7_moveRow_0 3 rfl
theorem dX7_moveRow_6 : decode cX7_moveRow 6 = .ok (.if_icmp .ge 48, 3) := chkD_at okX7_moveRow_0 4 rfl
theorem dX7_moveRow_9 : decode cX7_moveRow 9 = .ok (.iload_n 3, 1) := chkD_at okX7_moveRow_0 5 rfl
theorem dX7_moveRow_10 : decode cX7_moveRow 10 = .ok (.ifCond .eq 17, 3) := chkD_at okX7_moveRow_0 6 rfl
theorem dX7_moveRow_13 : decode cX7_moveRow 13 = .ok (.aload 4, 2) := chkD_at okX7_moveRow_0 7 rfl
theorem dX7_moveRow_15 : decode cX7_moveRow 15 = .ok (.aload_n 0, 1) := chkD_at okX7_moveRow_0 8 rfl
theorem dX7_moveRow_16 : decode cX7_moveRow 16 = .ok (.getfield 363, 3) := chkD_at okX7_moveRow_0 9 rfl
theorem dX7_moveRow_19 : decode cX7_moveRow 19 = .ok (.aload_n 1, 1) := chkD_at okX7_moveRow_0 10 rfl
theorem dX7_moveRow_20 : decode cX7_moveRow 20 = .ok (.iload 5, 2) := chkD_at okX7_moveRow_0 11 rfl
theorem dX7_moveRow_22 : decode cX7_moveRow 22 = .ok (.iaload, 1) := chkD_at okX7_moveRow_0 12 rfl
theorem dX7_moveRow_23 : decode cX7_moveRow 23 = .ok (.iastore, 1) := chkD_at okX7_moveRow_0 13 rfl
theorem dX7_moveRow_24 : decode cX7_moveRow 24 = .ok (.goto 14, 3) := chkD_at okX7_moveRow_0 14 rfl
theorem dX7_moveRow_27 : decode cX7_moveRow 27 = .ok (.aload_n 1, 1) := chkD_at okX7_moveRow_0 15 rfl
theorem dX7_moveRow_28 : decode cX7_moveRow 28 = .ok (.iload 5, 2) := chkD_at okX7_moveRow_0 16 rfl
theorem dX7_moveRow_30 : decode cX7_moveRow 30 = .ok (.aload 4, 2) := chkD_at okX7_moveRow_0 17 rfl
theorem dX7_moveRow_32 : decode cX7_moveRow 32 = .ok (.aload_n 0, 1) := chkD_at okX7_moveRow_0 18 rfl
theorem dX7_moveRow_33 : decode cX7_moveRow 33 = .ok (.getfield 363, 3) := chkD_at okX7_moveRow_0 19 rfl
theorem dX7_moveRow_36 : decode cX7_moveRow 36 = .ok (.iaload, 1) := chkD_at okX7_moveRow_0 20 rfl
theorem dX7_moveRow_37 : decode cX7_moveRow 37 = .ok (.iastore, 1) := chkD_at okX7_moveRow_0 21 rfl
theorem dX7_moveRow_38 : decode cX7_moveRow 38 = .ok (.aload_n 0, 1) := chkD_at okX7_moveRow_0 22 rfl
theorem dX7_moveRow_39 : decode cX7_moveRow 39 = .ok (.dup, 1) := chkD_at okX7_moveRow_0 23 rfl
theorem dX7_moveRow_40 : decode cX7_moveRow 40 = .ok (.getfield 363, 3) := chkD_at okX7_moveRow_0 24 rfl
theorem dX7_moveRow_43 : decode cX7_moveRow 43 = .ok (.iconst 1, 1) := chkD_at okX7_moveRow_0 25 rfl
theorem dX7_moveRow_44 : decode cX7_moveRow 44 = .ok (.iadd, 1) := chkD_at okX7_moveRow_0 26 rfl
theorem dX7_moveRow_45 : decode cX7_moveRow 45 = .ok (.putfield 363, 3) := chkD_at okX7_moveRow_0 27 rfl
theorem dX7_moveRow_48 : decode cX7_moveRow 48 = .ok (.iinc 5 1, 3) := chkD_at okX7_moveRow_0 28 rfl
theorem dX7_moveRow_51 : decode cX7_moveRow 51 = .ok (.goto (-48), 3) := chkD_at okX7_moveRow_0 29 rfl
theorem dX7_moveRow_54 : decode cX7_moveRow 54 = .ok (.return_, 1) := chkD_at okX7_moveRow_0 30 rfl
theorem okX7_moveAll_0 : chkD cX7_moveAll [(0, .aload_n 0, 1), (1, .iconst 0, 1), (2, .putfield 363, 3), (5, .aload_n 0, 1), (6, .getfield 78, 3), (9, .iconst 0, 1), (10, .aload_n 0, 1), (11, .getfield 93, 3), (14, .iastore, 1), (15, .aload_n 0, 1), (16, .getfield 78, 3), (19, .iconst 1, 1), (20, .aload_n 0, 1), (21, .getfield 163, 3), (24, .iastore, 1), (25, .aload_n 0, 1), (26, .aload_n 0, 1), (27, .getfield 78, 3), (30, .iconst 2, 1), (31, .iload_n 1, 1), (32, .aload_n 2, 1), (33, .invokevirtual 366, 3), (36, .aload_n 0, 1), (37, .aload_n 0, 1), (38, .getfield 78, 3), (41, .iconst 0, 1), (42, .iaload, 1), (43, .putfield 93, 3), (46, .aload_n 0, 1), (47, .aload_n 0, 1), (48, .getfield 78, 3), (51, .iconst 1, 1), (52, .iaload, 1), (53, .putfield 163, 3), (56, .aload_n 0, 1), (57, .aload_n 0, 1), (58, .getfield 7, 3), (61, .bipush 8, 2), (63, .iload_n 1, 1), (64, .aload_n 2, 1), (65, .invokevirtual 366, 3), (68, .aload_n 0, 1), (69, .aload_n 0, 1), (70, .getfield 13, 3), (73, .bipush 17, 2), (75, .iload_n 1, 1), (76, .aload_n 2, 1), (77, .invokevirtual 366, 3), (80, .aload_n 0, 1), (81, .aload_n 0, 1), (82, .getfield 16, 3), (85, .iconst 2, 1), (86, .iload_n 1, 1), (87, .aload_n 2, 1), (88, .invokevirtual 366, 3), (91, .aload_n 0, 1), (92, .aload_n 0, 1), (93, .getfield 19, 3), (96, .bipush 30, 2), (98, .iload_n 1, 1), (99, .aload_n 2, 1), (100, .invokevirtual 366, 3), (103, .aload_n 0, 1), (104, .aload_n 0, 1), (105, .getfield 22, 3), (108, .bipush 30, 2), (110, .iload_n 1, 1), (111, .aload_n 2, 1), (112, .invokevirtual 366, 3), (115, .aload_n 0, 1), (116, .aload_n 0, 1), (117, .getfield 25, 3), (120, .bipush 30, 2), (122, .iload_n 1, 1), (123, .aload_n 2, 1), (124, .invokevirtual 366, 3), (127, .return_, 1)] = true := by decide +kernel
theorem dX7_moveAll_0 : decode cX7_moveAll 0 = .ok (.aload_n 0, 1) := chkD_at okX7_moveAll_0 0 rfl
theorem dX7_moveAll_1 : decode cX7_moveAll 1 = .ok (.iconst 0, 1) := chkD_at okX7_moveAll_0 1 rfl
theorem dX7_moveAll_2 : decode cX7_moveAll 2 = .ok (.putfield 363, 3) := chkD_at okX7_moveAll_0 2 rfl
theorem dX7_moveAll_5 : decode cX7_moveAll 5 = .ok (.aload_n 0, 1) := chkD_at okX7_moveAll_0 3 rfl
theorem dX7_moveAll_6 : decode cX7_moveAll 6 = .ok (.getfield 78, 3) := chkD_at okX7_moveAll_0 4 rfl
theorem dX7_moveAll_9 : decode cX7_moveAll 9 = .ok (.iconst 0, 1) := chkD_at okX7_moveAll_0 5 rfl
theorem dX7_moveAll_10 : decode cX7_moveAll 10 = .ok (.aload_n 0, 1) := chkD_at okX7_moveAll_0 6 rfl
theorem dX7_moveAll_11 : decode cX7_moveAll 11 = .ok (.getfield 93, 3) := chkD_at okX7_moveAll_0 7 rfl
theorem dX7_moveAll_14 : decode cX7_moveAll 14 = .ok (.iastore, 1) := chkD_at okX7_moveAll_0 8 rfl
theorem dX7_moveAll_15 : decode cX7_moveAll 15 = .ok (.aload_n 0, 1) := chkD_at okX7_moveAll_0 9 rfl
theorem dX7_moveAll_16 : decode cX7_moveAll 16 = .ok (.getfield 78, 3) := chkD_at okX7_moveAll_0 10 rfl
theorem dX7_moveAll_19 : decode cX7_moveAll 19 = .ok (.iconst 1, 1) := chkD_at okX7_moveAll_0 11 rfl
theorem dX7_moveAll_20 : decode cX7_moveAll 20 = .ok (.aload_n 0, 1) := chkD_at okX7_moveAll_0 12 rfl
theorem dX7_moveAll_21 : decode cX7_moveAll 21 = .ok (.getfield 163, 3) := chkD_at okX7_moveAll_0 13 rfl
theorem dX7_moveAll_24 : decode cX7_moveAll 24 = .ok (.iastore, 1) := chkD_at okX7_moveAll_0 14 rfl
theorem dX7_moveAll_25 : decode cX7_moveAll 25 = .ok (.aload_n 0, 1) := chkD_at okX7_moveAll_0 15 rfl
theorem dX7_moveAll_26 : decode cX7_moveAll 26 = .ok (.aload_n 0, 1) := chkD_at okX7_moveAll_0 16 rfl
theorem dX7_moveAll_27 : decode cX7_moveAll 27 = .ok (.getfield 78, 3) := chkD_at okX7_moveAll_0 17 rfl
theorem dX7_moveAll_30 : decode cX7_moveAll 30 = .ok (.iconst 2, 1) := chkD_at okX7_moveAll_0 18 rfl
theorem dX7_moveAll_31 : decode cX7_moveAll 31 = .ok (.iload_n 1, 1) := chkD_at okX7_moveAll_0 19 rfl
theorem dX7_moveAll_32 : decode cX7_moveAll 32 = .ok (.aload_n 2, 1) := chkD_at okX7_moveAll_0 20 rfl
theorem dX7_moveAll_33 : decode cX7_moveAll 33 = .ok (.invokevirtual 366, 3) := chkD_at okX7_moveAll_0 21 rfl
theorem dX7_moveAll_36 : decode cX7_moveAll 36 = .ok (.aload_n 0, 1) := chkD_at okX7_moveAll_0 22 rfl
theorem dX7_moveAll_37 : decode cX7_moveAll 37 = .ok (.aload_n 0, 1) := chkD_at okX7_moveAll_0 23 rfl
theorem dX7_moveAll_38 : decode cX7_moveAll 38 = .ok (.getfield 78, 3) := chkD_at okX7_moveAll_0 24 rfl
theorem dX7_moveAll_41 : decode cX7_moveAll 41 = .ok (.iconst 0, 1) := chkD_at okX7_moveAll_0 25 rfl
theorem dX7_moveAll_42 : decode cX7_moveAll 42 = .ok (.iaload, 1) := chkD_at okX7_moveAll_0 26 rfl
theorem dX7_moveAll_43 : decode cX7_moveAll 43 = .ok (.putfield 93, 3) := chkD_at okX7_moveAll_0 27 rfl
theorem dX7_moveAll_46 : decode cX7_moveAll 46 = .ok (.aload_n 0, 1) := chkD_at okX7_moveAll_0 28 rfl
theorem dX7_moveAll_47 : decode cX7_moveAll 47 = .ok (.aload_n 0, 1) := chkD_at okX7_moveAll_0 29 rfl
theorem dX7_moveAll_48 : decode cX7_moveAll 48 = .ok (.getfield 78, 3) := chkD_at okX7_moveAll_0 30 rfl
theorem dX7_moveAll_51 : decode cX7_moveAll 51 = .ok (.iconst 1, 1) := chkD_at okX7_moveAll_0 31 rfl
theorem dX7_moveAll_52 : decode cX7_moveAll 52 = .ok (.iaload, 1) := chkD_at okX7_moveAll_0 32 rfl
theorem dX7_moveAll_53 : decode cX7_moveAll 53 = .ok (.putfield 163, 3) := chkD_at okX7_moveAll_0 33 rfl
theorem dX7_moveAll_56 : decode cX7_moveAll 56 = .ok (.aload_n 0, 1) := chkD_at okX7_moveAll_0 34 rfl
theorem dX7_moveAll_57 : decode cX7_moveAll 57 = .ok (.aload_n 0, 1) := chkD_at okX7_moveAll_0 35 rfl
theorem dX7_moveAll_58 : decode cX7_moveAll 58 = .ok (.getfield 7, 3) := chkD_at okX7_moveAll_0 36 rfl
theorem dX7_moveAll_61 : decode cX7_moveAll 61 = .ok (.bipush 8, 2) := chkD_at okX7_moveAll_0 37 rfl
theorem dX7_moveAll_63 : decode cX7_moveAll 63 = .ok (.iload_n 1, 1) := chkD_at okX7_moveAll_0 38 rfl
theorem dX7_moveAll_64 : decode cX7_moveAll 64 = .ok (.aload_n 2, 1) := chkD_at okX7_moveAll_0 39 rfl
theorem dX7_moveAll_65 : decode cX7_moveAll 65 = .ok (.invokevirtual 366, 3) := chkD_at okX7_moveAll_0 40 rfl
theorem dX7_moveAll_68 : decode cX7_moveAll 68 = .ok (.aload_n 0, 1) := chkD_at okX7_moveAll_0 41 rfl
theorem dX7_moveAll_69 : decode cX7_moveAll 69 = .ok (.aload_n 0, 1) := chkD_at okX7_moveAll_0 42 rfl
theorem dX7_moveAll_70 : decode cX7_moveAll 70 = .ok (.getfield 13, 3) := chkD_at okX7_moveAll_0 43 rfl
theorem dX7_moveAll_73 : decode cX7_moveAll 73 = .ok (.bipush 17, 2) := chkD_at okX7_moveAll_0 44 rfl
theorem dX7_moveAll_75 : decode cX7_moveAll 75 = .ok (.iload_n 1, 1) := chkD_at okX7_moveAll_0 45 rfl
theorem dX7_moveAll_76 : decode cX7_moveAll 76 = .ok (.aload_n 2, 1) := chkD_at okX7_moveAll_0 46 rfl
theorem dX7_moveAll_77 : decode cX7_moveAll 77 = .ok (.invokevirtual 366, 3) := chkD_at okX7_moveAll_0 47 rfl
theorem dX7_moveAll_80 : decode cX7_moveAll 80 = .ok (.aload_n 0, 1) := chkD_at okX7_moveAll_0 48 rfl
theorem dX7_moveAll_81 : decode cX7_moveAll 81 = .ok (.aload_n 0, 1) := chkD_at okX7_moveAll_0 49 rfl
theorem dX7_moveAll_82 : decode cX7_moveAll 82 = .ok (.getfield 16, 3) := chkD_at okX7_moveAll_0 50 rfl
theorem dX7_moveAll_85 : decode cX7_moveAll 85 = .ok (.iconst 2, 1) := chkD_at okX7_moveAll_0 51 rfl
theorem dX7_moveAll_86 : decode cX7_moveAll 86 = .ok (.iload_n 1, 1) := chkD_at okX7_moveAll_0 52 rfl
theorem dX7_moveAll_87 : decode cX7_moveAll 87 = .ok (.aload_n 2, 1) := chkD_at okX7_moveAll_0 53 rfl
theorem dX7_moveAll_88 : decode cX7_moveAll 88 = .ok (.invokevirtual 366, 3) := chkD_at okX7_moveAll_0 54 rfl
theorem dX7_moveAll_91 : decode cX7_moveAll 91 = .ok (.aload_n 0, 1) := chkD_at okX7_moveAll_0 55 rfl
theorem dX7_moveAll_92 : decode cX7_moveAll 92 = .ok (.aload_n 0, 1) := chkD_at okX7_moveAll_0 56 rfl
theorem dX7_moveAll_93 : decode cX7_moveAll 93 = .ok (.getfield 19, 3) := chkD_at okX7_moveAll_0 57 rfl
theorem dX7_moveAll_96 : decode cX7_moveAll 96 = .ok (.bipush 30, 2) := chkD_at okX7_moveAll_0 58 rfl
theorem dX7_moveAll_98 : decode cX7_moveAll 98 = .ok (.iload_n 1, 1) := chkD_at okX7_moveAll_0 59 rfl
theorem dX7_moveAll_99 : decode cX7_moveAll 99 = .ok (.aload_n 2, 1) := chkD_at okX7_moveAll_0 60 rfl
theorem dX7_moveAll_100 : decode cX7_moveAll 100 = .ok (.invokevirtual 366, 3) := chkD_at okX7_moveAll_0 61 rfl
theorem dX7_moveAll_103 : decode cX7_moveAll 103 = .ok (.aload_n 0, 1) := chkD_at okX7_moveAll_0 62 rfl
theorem dX7_moveAll_104 : decode cX7_moveAll 104 = .ok (.aload_n 0, 1) := chkD_at okX7_moveAll_0 63 rfl
theorem dX7_moveAll_105 : decode cX7_moveAll 105 = .ok (.getfield 22, 3) := chkD_at okX7_moveAll_0 64 rfl
theorem dX7_moveAll_108 : decode cX7_moveAll 108 = .ok (.bipush 30, 2) := chkD_at okX7_moveAll_0 65 rfl
theorem dX7_moveAll_110 : decode cX7_moveAll 110 = .ok (.iload_n 1, 1) := chkD_at okX7_moveAll_0 66 rfl
theorem dX7_moveAll_111 : decode cX7_moveAll 111 = .ok (.aload_n 2, 1) := chkD_at okX7_moveAll_0 67 rfl
theorem dX7_moveAll_112 : decode cX7_moveAll 112 = .ok (.invokevirtual 366, 3) := chkD_at okX7_moveAll_0 68 rfl
theorem dX7_moveAll_115 : decode cX7_moveAll 115 = .ok (.aload_n 0, 1) := chkD_at okX7_moveAll_0 69 rfl
theorem dX7_moveAll_116 : decode cX7_moveAll 116 = .ok (.aload_n 0, 1) := chkD_at okX7_moveAll_0 70 rfl
theorem dX7_moveAll_117 : decode cX7_moveAll 117 = .ok (.getfield 25, 3) := chkD_at okX7_moveAll_0 71 rfl
theorem dX7_moveAll_120 : decode cX7_moveAll 120 = .ok (.bipush 30, 2) := chkD_at okX7_moveAll_0 72 rfl
theorem dX7_moveAll_122 : decode cX7_moveAll 122 = .ok (.iload_n 1, 1) := chkD_at okX7_moveAll_0 73 rfl
theorem dX7_moveAll_123 : decode cX7_moveAll 123 = .ok (.aload_n 2, 1) := chkD_at okX7_moveAll_0 74 rfl
theorem dX7_moveAll_124 : decode cX7_moveAll 124 = .ok (.invokevirtual 366, 3) := chkD_at okX7_moveAll_0 75 rfl
theorem dX7_moveAll_127 : decode cX7_moveAll 127 = .ok (.return_, 1) := chkD_at okX7_moveAll_0 76 rfl
theorem okX7_image_0 : chkD cX7_image [(0, .aload_n 0, 1), (1, .iconst 1, 1), (2, .aload_n 0, 1), (3, .getfield 72, 3), (6, .invokevirtual 333, 3), (9, .aload_n 0, 1), (10, .iconst 1, 1), (11, .putfield 370, 3), (14, .iconst 1, 1), (15, .ireturn, 1)] = true := by decide +kernel
theorem dX7_image_0 : decode cX7_image 0 = .ok (.aload_n 0, 1) := chkD_at okX7_image_0 0 rfl
theorem dX7_image_1 : decode cX7_image 1 = .ok (.iconst 1, 1) := chkD_at okX7_image_0 1 rfl
theorem dX7_image_2 : decode cX7_image 2 = .ok (.aload_n 0, 1) := chkD_at okX7_image_0 2 rfl
theorem dX7_image_3 : decode cX7_image 3 = .ok (.getfield 72, 3) := chkD_at okX7_image_0 3 rfl
theorem dX7_image_6 : decode cX7_image 6 = .ok (.invokevirtual 333, 3) := chkD_at okX7_image_0 4 rfl
theorem dX7_image_9 : decode cX7_image 9 = .ok (.aload_n 0, 1) := chkD_at okX7_image_0 5 rfl
theorem dX7_image_10 : decode cX7_image 10 = .ok (.iconst 1, 1) := chkD_at okX7_image_0 6 rfl
theorem dX7_image_11 : decode cX7_image 11 = .ok (.putfield 370, 3) := chkD_at okX7_image_0 7 rfl
theorem dX7_image_14 : decode cX7_image 14 = .ok (.iconst 1, 1) := chkD_at okX7_image_0 8 rfl
theorem dX7_image_15 : decode cX7_image 15 = .ok (.ireturn, 1) := chkD_at okX7_image_0 9 rfl
theorem okX7_undo_0 : chkD cX7_undo [(0, .aload_n 0, 1), (1, .getfield 370, 3), (4, .ifCond .ne 10, 3), (7, .aload_n 0, 1), (8, .ldc 127, 2), (10, .invokevirtual 104, 3), (13, .ireturn, 1), (14, .aload_n 0, 1), (15, .iconst 0, 1), (16, .aload_n 0, 1), (17, .getfield 72, 3), (20, .invokevirtual 333, 3), (23, .aload_n 0, 1), (24, .getfield 93, 3), (27, .ireturn, 1)] = true := by decide +kernel
theorem dX7_undo_0 : decode cX7_undo 0 = .ok (.aload_n 0, 1) := chkD_at okX7_undo_0 0 rfl
theorem dX7_undo_1 : decode cX7_undo 1 = .ok (.getfield 370, 3) := chkD_at okX7_undo_0 1 rfl
theorem dX7_undo_4 : decode cX7_undo 4 = .ok (.ifCond .ne 10, 3) := chkD_at okX7_undo_0 2 rfl
theorem dX7_undo_7 : decode cX7_undo 7 = .ok (.aload_n 0, 1) := chkD_at okX7_undo_0 3 rfl
theorem dX7_undo_8 : decode cX7_undo 8 = .ok (.ldc 127, 2) := chkD_at okX7_undo_0 4 rfl
theorem dX7_undo_10 : decode cX7_undo 10 = .ok (.invokevirtual 104, 3) := chkD_at okX7_undo_0 5 rfl
theorem dX7_undo_13 : decode cX7_undo 13 = .ok (.ireturn, 1) := chkD_at okX7_undo_0 6 rfl
theorem dX7_undo_14 : decode cX7_undo 14 = .ok (.aload_n 0, 1) := chkD_at okX7_undo_0 7 rfl
theorem dX7_undo_15 : decode cX7_undo 15 = .ok (.iconst 0, 1) := chkD_at okX7_undo_0 8 rfl
theorem dX7_undo_16 : decode cX7_undo 16 = .ok (.aload_n 0, 1) := chkD_at okX7_undo_0 9 rfl
theorem dX7_undo_17 : decode cX7_undo 17 = .ok (.getfield 72, 3) := chkD_at okX7_undo_0 10 rfl
theorem dX7_undo_20 : decode cX7_undo 20 = .ok (.invokevirtual 333, 3) := chkD_at okX7_undo_0 11 rfl
theorem dX7_undo_23 : decode cX7_undo 23 = .ok (.aload_n 0, 1) := chkD_at okX7_undo_0 12 rfl
theorem dX7_undo_24 : decode cX7_undo 24 = .ok (.getfield 93, 3) := chkD_at okX7_undo_0 13 rfl
theorem dX7_undo_27 : decode cX7_undo 27 = .ok (.ireturn, 1) := chkD_at okX7_undo_0 14 rfl
theorem okX7_tear_0 : chkD cX7_tear [(0, .aload_n 0, 1), (1, .getfield 370, 3), (4, .ifCond .eq 7, 3), (7, .iconst 1, 1), (8, .goto 4, 3), (11, .iconst 0, 1), (12, .istore_n 1, 1), (13, .aload_n 0, 1), (14, .iconst 0, 1), (15, .putfield 370, 3), (18, .iload_n 1, 1), (19, .ireturn, 1)] = true := by decide +kernel
theorem dX7_tear_0 : decode cX7_tear 0 = .ok (.aload_n 0, 1) := chkD_at okX7_tear_0 0 rfl
theorem dX7_tear_1 : decode cX7_tear 1 = .ok (.getfield 370, 3) := chkD_at okX7_tear_0 1 rfl
theorem dX7_tear_4 : decode cX7_tear 4 = .ok (.ifCond .eq 7, 3) := chkD_at okX7_tear_0 2 rfl
theorem dX7_tear_7 : decode cX7_tear 7 = .ok (.iconst 1, 1) := chkD_at okX7_tear_0 3 rfl
theorem dX7_tear_8 : decode cX7_tear 8 = .ok (.goto 4, 3) := chkD_at okX7_tear_0 4 rfl
theorem dX7_tear_11 : decode cX7_tear 11 = .ok (.iconst 0, 1) := chkD_at okX7_tear_0 5 rfl
theorem dX7_tear_12 : decode cX7_tear 12 = .ok (.istore_n 1, 1) := chkD_at okX7_tear_0 6 rfl
theorem dX7_tear_13 : decode cX7_tear 13 = .ok (.aload_n 0, 1) := chkD_at okX7_tear_0 7 rfl
theorem dX7_tear_14 : decode cX7_tear 14 = .ok (.iconst 0, 1) := chkD_at okX7_tear_0 8 rfl
theorem dX7_tear_15 : decode cX7_tear 15 = .ok (.putfield 370, 3) := chkD_at okX7_tear_0 9 rfl
theorem dX7_tear_18 : decode cX7_tear 18 = .ok (.iload_n 1, 1) := chkD_at okX7_tear_0 10 rfl
theorem dX7_tear_19 : decode cX7_tear 19 = .ok (.ireturn, 1) := chkD_at okX7_tear_0 11 rfl
theorem okX7_count_0 : chkD cX7_count [(0, .iload_n 1, 1), (1, .ifCond .ne 10, 3), (4, .aload_n 0, 1), (5, .getfield 222, 3), (8, .goto 30, 3), (11, .iload_n 1, 1), (12, .iconst 1, 1), (13, .if_icmp .ne 19, 3), (16, .aload_n 0, 1), (17, .getfield 16, 3), (20, .iconst 0, 1), (21, .iaload, 1), (22, .aload_n 0, 1), (23, .getfield 16, 3), (26, .iconst 1, 1), (27, .iaload, 1), (28, .iadd, 1), (29, .goto 9, 3), (32, .aload_n 0, 1), (33, .ldc 85, 2), (35, .invokevirtual 104, 3), (38, .ireturn, 1)] = true := by decide +kernel
theorem dX7_count_0 : decode cX7_count 0 = .ok (.iload_n 1, 1) := chkD_at okX7_count_0 0 rfl
theorem dX7_count_1 : decode cX7_count 1 = .ok (.ifCond .ne 10, 3) := chkD_at okX7_count_0 1 rfl
theorem dX7_count_4 : decode cX7_count 4 = .ok (.aload_n 0, 1) := chkD_at okX7_count_0 2 rfl
theorem dX7_count_5 : decode cX7_count 5 = .ok (.getfield 222, 3) := chkD_at okX7_count_0 3 rfl
theorem dX7_count_8 : decode cX7_count 8 = .ok (.goto 30, 3) := chkD_at okX7_count_0 4 rfl
theorem dX7_count_11 : decode cX7_count 11 = .ok (.iload_n 1, 1) := chkD_at okX7_count_0 5 rfl
theorem dX7_count_12 : decode cX7_count 12 = .ok (.iconst 1, 1) := chkD_at okX7_count_0 6 rfl
theorem dX7_count_13 : decode cX7_count 13 = .ok (.if_icmp .ne 19, 3) := chkD_at okX7_count_0 7 rfl
theorem dX7_count_16 : decode cX7_count 16 = .ok (.aload_n 0, 1) := chkD_at okX7_count_0 8 rfl
theorem dX7_count_17 : decode cX7_count 17 = .ok (.getfield 16, 3) := chkD_at okX7_count_0 9 rfl
theorem dX7_count_20 : decode cX7_count 20 = .ok (.iconst 0, 1) := chkD_at okX7_count_0 10 rfl
theorem dX7_count_21 : decode cX7_count 21 = .ok (.iaload, 1) := chkD_at okX7_count_0 11 rfl
theorem dX7_count_22 : decode cX7_count 22 = .ok (.aload_n 0, 1) := chkD_at okX7_count_0 12 rfl
theorem dX7_count_23 : decode cX7_count 23 = .ok (.getfield 16, 3) := chkD_at okX7_count_0 13 rfl
theorem dX7_count_26 : decode cX7_count 26 = .ok (.iconst 1, 1) := chkD_at okX7_count_0 14 rfl
theorem dX7_count_27 : decode cX7_count 27 = .ok (.iaload, 1) := chkD_at okX7_count_0 15 rfl
theorem dX7_count_28 : decode cX7_count 28 = .ok (.iadd, 1) := chkD_at okX7_count_0 16 rfl
theorem dX7_count_29 : decode cX7_count 29 = .ok (.goto 9, 3) := chkD_at okX7_count_0 17 rfl
theorem dX7_count_32 : decode cX7_count 32 = .ok (.aload_n 0, 1) := chkD_at okX7_count_0 18 rfl
theorem dX7_count_33 : decode cX7_count 33 = .ok (.ldc 85, 2) := chkD_at okX7_count_0 19 rfl
theorem dX7_count_35 : decode cX7_count 35 = .ok (.invokevirtual 104, 3) := chkD_at okX7_count_0 20 rfl
theorem dX7_count_38 : decode cX7_count 38 = .ok (.ireturn, 1) := chkD_at okX7_count_0 21 rfl
theorem okX7_status_0 : chkD cX7_status [(0, .iload_n 1, 1), (1, .iconst (-1), 1), (2, .bipush 6, 2), (4, .invokestatic 86, 3), (7, .ifCond .ne 10, 3), (10, .aload_n 0, 1), (11, .ldc 85, 2), (13, .invokevirtual 104, 3), (16, .ireturn, 1), (17, .iconst 0, 1), (18, .istore_n 2, 1), (19, .iconst 0, 1), (20, .istore_n 3, 1), (21, .iload_n 3, 1), (22, .bipush 7, 2), (24, .if_icmp .ge 18, 3), (27, .iload_n 2, 1), (28, .aload_n 0, 1), (29, .getfield 28, 3), (32, .iload_n 3, 1), (33, .iaload, 1), (34, .iadd, 1), (35, .istore_n 2, 1), (36, .iinc 3 1, 3), (39, .goto (-18), 3), (42, .iload_n 1, 1), (43, .ifCond .ge 7, 3), (46, .iload_n 2, 1), (47, .goto 17, 3), (50, .aload_n 0, 1), (51, .getfield 28, 3), (54, .iload_n 1, 1), (55, .ifCond .ge 7, 3), (58, .iconst 0, 1), (59, .goto 4, 3), (62, .iload_n 1, 1), (63, .iaload, 1), (64, .ireturn, 1)] = true := by decide +kernel
theorem dX7_status_0 : decode cX7_status 0 = .ok (.iload_n 1, 1) := chkD_at okX7_status_0 0 rfl
theorem dX7_status_1 : decode cX7_status 1 = .ok (.iconst (-1), 1) := chkD_at okX7_status_0 1 rfl
theorem dX7_status_2 : decode cX7_status 2 = .ok (.bipush 6, 2) := chkD_at okX7_status_0 2 rfl
theorem dX7_status_4 : decode cX7_status 4 = .ok (.invokestatic 86, 3) := chkD_at okX7_status_0 3 rfl
theorem dX7_status_7 : decode cX7_status 7 = .ok (.ifCond .ne 10, 3) := chkD_at okX7_status_0 4 rfl
theorem dX7_status_10 : decode cX7_status 10 = .ok (.aload_n 0, 1) := chkD_at okX7_status_0 5 rfl
theorem dX7_status_11 : decode cX7_status 11 = .ok (.ldc 85, 2) := chkD_at okX7_status_0 6 rfl
theorem dX7_status_13 : decode cX7_status 13 = .ok (.invokevirtual 104, 3) := chkD_at okX7_status_0 7 rfl
theorem dX7_status_16 : decode cX7_status 16 = .ok (.ireturn, 1) := chkD_at okX7_status_0 8 rfl
theorem dX7_status_17 : decode cX7_status 17 = .ok (.iconst 0, 1) := chkD_at okX7_status_0 9 rfl
theorem dX7_status_18 : decode cX7_status 18 = .ok (.istore_n 2, 1) := chkD_at okX7_status_0 10 rfl
theorem dX7_status_19 : decode cX7_status 19 = .ok (.iconst 0, 1) := chkD_at okX7_status_0 11 rfl
theorem dX7_status_20 : decode cX7_status 20 = .ok (.istore_n 3, 1) := chkD_at okX7_status_0 12 rfl
theorem dX7_status_21 : decode cX7_status 21 = .ok (.iload_n 3, 1) := chkD_at okX7_status_0 13 rfl
theorem dX7_status_22 : decode cX7_status 22 = .ok (.bipush 7, 2) := chkD_at okX7_status_0 14 rfl
theorem dX7_status_24 : decode cX7_status 24 = .ok (.if_icmp .ge 18, 3) := chkD_at okX7_status_0 15 rfl
theorem dX7_status_27 : decode cX7_status 27 = .ok (.iload_n 2, 1) := chkD_at okX7_status_0 16 rfl
theorem dX7_status_28 : decode cX7_status 28 = .ok (.aload_n 0, 1) := chkD_at okX7_status_0 17 rfl
theorem dX7_status_29 : decode cX7_status 29 = .ok (.getfield 28, 3) := chkD_at okX7_status_0 18 rfl
theorem dX7_status_32 : decode cX7_status 32 = .ok (.iload_n 3, 1) := chkD_at okX7_status_0 19 rfl
theorem dX7_status_33 : decode cX7_status 33 = .ok (.iaload, 1) := chkD_at okX7_status_0 20 rfl
theorem dX7_status_34 : decode cX7_status 34 = .ok (.iadd, 1) := chkD_at okX7_status_0 21 rfl
theorem dX7_status_35 : decode cX7_status 35 = .ok (.istore_n 2, 1) := chkD_at okX7_status_0 22 rfl
theorem dX7_status_36 : decode cX7_status 36 = .ok (.iinc 3 1, 3) := chkD_at okX7_status_0 23 rfl
theorem dX7_status_39 : decode cX7_status 39 = .ok (.goto (-18), 3) := chkD_at okX7_status_0 24 rfl
theorem dX7_status_42 : decode cX7_status 42 = .ok (.iload_n 1, 1) := chkD_at okX7_status_0 25 rfl
theorem dX7_status_43 : decode cX7_status 43 = .ok (.ifCond .ge 7, 3) := chkD_at okX7_status_0 26 rfl
theorem dX7_status_46 : decode cX7_status 46 = .ok (.iload_n 2, 1) := chkD_at okX7_status_0 27 rfl
theorem dX7_status_47 : decode cX7_status 47 = .ok (.goto 17, 3) := chkD_at okX7_status_0 28 rfl
theorem dX7_status_50 : decode cX7_status 50 = .ok (.aload_n 0, 1) := chkD_at okX7_status_0 29 rfl
theorem dX7_status_51 : decode cX7_status 51 = .ok (.getfield 28, 3) := chkD_at okX7_status_0 30 rfl
theorem dX7_status_54 : decode cX7_status 54 = .ok (.iload_n 1, 1) := chkD_at okX7_status_0 31 rfl
theorem dX7_status_55 : decode cX7_status 55 = .ok (.ifCond .ge 7, 3) := chkD_at okX7_status_0 32 rfl
theorem dX7_status_58 : decode cX7_status 58 = .ok (.iconst 0, 1) := chkD_at okX7_status_0 33 rfl
theorem dX7_status_59 : decode cX7_status 59 = .ok (.goto 4, 3) := chkD_at okX7_status_0 34 rfl
theorem dX7_status_62 : decode cX7_status 62 = .ok (.iload_n 1, 1) := chkD_at okX7_status_0 35 rfl
theorem dX7_status_63 : decode cX7_status 63 = .ok (.iaload, 1) := chkD_at okX7_status_0 36 rfl
theorem dX7_status_64 : decode cX7_status 64 = .ok (.ireturn, 1) := chkD_at okX7_status_0 37 rfl
