def chkD (c : ByteArray) (l : List (Nat × Instr × Nat)) : Bool := l.all (fun q => decide (decode c q.1 = .ok (q.2.1, q.2.2)))
theorem chkD_at {c : ByteArray} {l : List (Nat × Instr × Nat)} (h : chkD c l = true) (k : Nat) {a n : Nat} {i : Instr} (hk : l[k]? = some (a, i, n)) : decode c a = .ok (i, n) := by
  have := List.all_eq_true.mp h _ (List.mem_of_getElem? hk)
  simpa using this
theorem okX0_init_0 : chkD cX0_init [(0, .aload_n 0, 1), (1, .invokespecial 3, 3), (4, .aload_n 0, 1), (5, .sipush 256, 3), (8, .newarray .int, 2), (10, .putfield 9, 3), (13, .aload_n 0, 1), (14, .sipush 256, 3), (17, .newarray .int, 2), (19, .putfield 15, 3), (22, .return_, 1)] = true := by decide +kernel
theorem dX0_init_0 : decode cX0_init 0 = .ok (.aload_n 0, 1) := chkD_at okX0_init_0 0 rfl
theorem dX0_init_1 : decode cX0_init 1 = .ok (.invokespecial 3, 3) := chkD_at okX0_init_0 1 rfl
theorem dX0_init_4 : decode cX0_init 4 = .ok (.aload_n 0, 1) := chkD_at okX0_init_0 2 rfl
theorem dX0_init_5 : decode cX0_init 5 = .ok (.sipush 256, 3) := chkD_at okX0_init_0 3 rfl
theorem dX0_init_8 : decode cX0_init 8 = .ok (.newarray .int, 2) := chkD_at okX0_init_0 4 rfl
theorem dX0_init_10 : decode cX0_init 10 = .ok (.putfield 9, 3) := chkD_at okX0_init_0 5 rfl
theorem dX0_init_13 : decode cX0_init 13 = .ok (.aload_n 0, 1) := chkD_at okX0_init_0 6 rfl
theorem dX0_init_14 : decode cX0_init 14 = .ok (.sipush 256, 3) := chkD_at okX0_init_0 7 rfl
theorem dX0_init_17 : decode cX0_init 17 = .ok (.newarray .int, 2) := chkD_at okX0_init_0 8 rfl
theorem dX0_init_19 : decode cX0_init 19 = .ok (.putfield 15, 3) := chkD_at okX0_init_0 9 rfl
theorem dX0_init_22 : decode cX0_init 22 = .ok (.return_, 1) := chkD_at okX0_init_0 10 rfl
theorem okX0_barAll_0 : chkD cX0_barAll [(0, .aload_n 0, 1), (1, .getfield 9, 3), (4, .iconst 0, 1), (5, .invokestatic 18, 3), (8, .aload_n 0, 1), (9, .getfield 15, 3), (12, .iconst 0, 1), (13, .invokestatic 18, 3), (16, .iconst 0, 1), (17, .istore_n 3, 1), (18, .iload_n 3, 1), (19, .aload_n 1, 1), (20, .getfield 24, 3), (23, .if_icmp .ge 26, 3), (26, .aload_n 0, 1), (27, .aload_n 1, 1), (28, .getfield 30, 3), (31, .iload_n 3, 1), (32, .iaload, 1), (33, .aload_n 1, 1), (34, .getfield 33, 3), (37, .iload_n 3, 1), (38, .iaload, 1), (39, .iload_n 2, 1), (40, .invokevirtual 36, 3), (43, .iinc 3 1, 3), (46, .goto (-28), 3), (49, .return_, 1)] = true := by decide +kernel
theorem dX0_barAll_0 : decode cX0_barAll 0 = .ok (.aload_n 0, 1) := chkD_at okX0_barAll_0 0 rfl
theorem dX0_barAll_1 : decode cX0_barAll 1 = .ok (.getfield 9, 3) := chkD_at okX0_barAll_0 1 rfl
theorem dX0_barAll_4 : decode cX0_barAll 4 = .ok (.iconst 0, 1) := chkD_at okX0_barAll_0 2 rfl
theorem dX0_barAll_5 : decode cX0_barAll 5 = .ok (.invokestatic 18, 3) := chkD_at okX0_barAll_0 3 rfl
theorem dX0_barAll_8 : decode cX0_barAll 8 = .ok (.aload_n 0, 1) := chkD_at okX0_barAll_0 4 rfl
theorem dX0_barAll_9 : decode cX0_barAll 9 = .ok (.getfield 15, 3) := chkD_at okX0_barAll_0 5 rfl
theorem dX0_barAll_12 : decode cX0_barAll 12 = .ok (.iconst 0, 1) := chkD_at okX0_barAll_0 6 rfl
theorem dX0_barAll_13 : decode cX0_barAll 13 = .ok (.invokestatic 18, 3) := chkD_at okX0_barAll_0 7 rfl
theorem dX0_barAll_16 : decode cX0_barAll 16 = .ok (.iconst 0, 1) := chkD_at okX0_barAll_0 8 rfl
theorem dX0_barAll_17 : decode cX0_barAll 17 = .ok (.istore_n 3, 1) := chkD_at okX0_barAll_0 9 rfl
theorem dX0_barAll_18 : decode cX0_barAll 18 = .ok (.iload_n 3, 1) := chkD_at okX0_barAll_0 10 rfl
theorem dX0_barAll_19 : decode cX0_barAll 19 = .ok (.aload_n 1, 1) := chkD_at okX0_barAll_0 11 rfl
theorem dX0_barAll_20 : decode cX0_barAll 20 = .ok (.getfield 24, 3) := chkD_at okX0_barAll_0 12 rfl
theorem dX0_barAll_23 : decode cX0_barAll 23 = .ok (.if_icmp .ge 26, 3) := chkD_at okX0_barAll_0 13 rfl
theorem dX0_barAll_26 : decode cX0_barAll 26 = .ok (.aload_n 0, 1) := chkD_at okX0_barAll_0 14 rfl
theorem dX0_barAll_27 : decode cX0_barAll 27 = .ok (.aload_n 1, 1) := chkD_at okX0_barAll_0 15 rfl
theorem dX0_barAll_28 : decode cX0_barAll 28 = .ok (.getfield 30, 3) := chkD_at okX0_barAll_0 16 rfl
theorem dX0_barAll_31 : decode cX0_barAll 31 = .ok (.iload_n 3, 1) := chkD_at okX0_barAll_0 17 rfl
theorem dX0_barAll_32 : decode cX0_barAll 32 = .ok (.iaload, 1) := chkD_at okX0_barAll_0 18 rfl
theorem dX0_barAll_33 : decode cX0_barAll 33 = .ok (.aload_n 1, 1) := chkD_at okX0_barAll_0 19 rfl
theorem dX0_barAll_34 : decode cX0_barAll 34 = .ok (.getfield 33, 3) := chkD_at okX0_barAll_0 20 rfl
theorem dX0_barAll_37 : decode cX0_barAll 37 = .ok (.iload_n 3, 1) := chkD_at okX0_barAll_0 21 rfl
theorem dX0_barAll_38 : decode cX0_barAll 38 = .ok (.iaload, 1) := chkD_at okX0_barAll_0 22 rfl
theorem dX0_barAll_39 : decode cX0_barAll 39 = .ok (.iload_n 2, 1) := chkD_at okX0_barAll_0 23 rfl
theorem dX0_barAll_40 : decode cX0_barAll 40 = .ok (.invokevirtual 36, 3) := chkD_at okX0_barAll_0 24 rfl
theorem dX0_barAll_43 : decode cX0_barAll 43 = .ok (.iinc 3 1, 3) := chkD_at okX0_barAll_0 25 rfl
theorem dX0_barAll_46 : decode cX0_barAll 46 = .ok (.goto (-28), 3) := chkD_at okX0_barAll_0 26 rfl
theorem dX0_barAll_49 : decode cX0_barAll 49 = .ok (.return_, 1) := chkD_at okX0_barAll_0 27 rfl
theorem okX0_bar_0 : chkD cX0_bar [(0, .iload_n 1, 1), (1, .iload_n 2, 1), (2, .invokestatic 40, 3), (5, .iload_n 3, 1), (6, .invokestatic 44, 3), (9, .istore 4, 2), (11, .iload_n 2, 1), (12, .invokestatic 48, 3), (15, .istore 5, 2), (17, .iload_n 1, 1), (18, .invokestatic 51, 3), (21, .ifCond .ne 12, 3), (24, .aload_n 0, 1), (25, .iload 5, 2), (27, .iload 4, 2), (29, .invokevirtual 55, 3), (32, .return_, 1), (33, .iconst 0, 1), (34, .istore 6, 2), (36, .iload 6, 2), (38, .getstatic 59, 3), (41, .arraylength, 1), (42, .if_icmp .ge 35, 3), (45, .iload 5, 2), (47, .getstatic 59, 3), (50, .iload 6, 2), (52, .iaload, 1), (53, .invokestatic 62, 3), (56, .ifCond .eq 15, 3), (59, .aload_n 0, 1), (60, .getstatic 59, 3), (63, .iload 6, 2), (65, .iaload, 1), (66, .iload 4, 2), (68, .invokevirtual 55, 3), (71, .iinc 6 1, 3), (74, .goto (-38), 3), (77, .return_, 1)] = true := by decide +kernel
theorem dX0_bar_0 : decode cX0_bar 0 = .ok (.iload_n 1, 1) := chkD_at okX0_bar_0 0 rfl
theorem dX0_bar_1 : decode cX0_bar 1 = .ok (.iload_n 2, 1) := chkD_at okX0_bar_0 1 rfl
theorem dX0_bar_2 : decode cX0_bar 2 = .ok (.invokestatic 40, 3) := chkD_at okX0_bar_0 2 rfl
theorem dX0_bar_5 : decode cX0_bar 5 = .ok (.iload_n 3, 1) := chkD_at okX0_bar_0 3 rfl
theorem dX0_bar_6 : decode cX0_bar 6 = .ok (.invokestatic 44, 3) := chkD_at okX0_bar_0 4 rfl
theorem dX0_bar_9 : decode cX0_bar 9 = .ok (.istore 4, 2) := chkD_at okX0_bar_0 5 rfl
theorem dX0_bar_11 : decode cX0_bar 11 = .ok (.iload_n 2, 1) := chkD_at okX0_bar_0 6 rfl
theorem dX0_bar_12 : decode cX0_bar 12 = .ok (.invokestatic 48, 3) := chkD_at okX0_bar_0 7 rfl
theorem dX0_bar_15 : decode cX0_bar 15 = .ok (.istore 5, 2) := chkD_at okX0_bar_0 8 rfl
theorem dX0_bar_17 : decode cX0_bar 17 = .ok (.iload_n 1, 1) := chkD_at okX0_bar_0 9 rfl
theorem dX0_bar_18 : decode cX0_bar 18 = .ok (.invokestatic 51, 3) := chkD_at okX0_bar_0 10 rfl
theorem dX0_bar_21 : decode cX0_bar 21 = .ok (.ifCond .ne 12, 3) := chkD_at okX0_bar_0 11 rfl
theorem dX0_bar_24 : decode cX0_bar 24 = .ok (.aload_n 0, 1) := chkD_at okX0_bar_0 12 rfl
theorem dX0_bar_25 : decode cX0_bar 25 = .ok (.iload 5, 2) := chkD_at okX0_bar_0 13 rfl
theorem dX0_bar_27 : decode cX0_bar 27 = .ok (.iload 4, 2) := chkD_at okX0_bar_0 14 rfl
theorem dX0_bar_29 : decode cX0_bar 29 = .ok (.invokevirtual 55, 3) := chkD_at okX0_bar_0 15 rfl
theorem dX0_bar_32 : decode cX0_bar 32 = .ok (.return_, 1) := chkD_at okX0_bar_0 16 rfl
theorem dX0_bar_33 : decode cX0_bar 33 = .ok (.iconst 0, 1) := chkD_at okX0_bar_0 17 rfl
theorem dX0_bar_34 : decode cX0_bar 34 = .ok (.istore 6, 2) := chkD_at okX0_bar_0 18 rfl
theorem dX0_bar_36 : decode cX0_bar 36 = .ok (.iload 6, 2) := chkD_at okX0_bar_0 19 rfl
theorem dX0_bar_38 : decode cX0_bar 38 = .ok (.getstatic 59, 3) := chkD_at okX0_bar_0 20 rfl
theorem dX0_bar_41 : decode cX0_bar 41 = .ok (.arraylength, 1) := chkD_at okX0_bar_0 21 rfl
theorem dX0_bar_42 : decode cX0_bar 42 = .ok (.if_icmp .ge 35, 3) := chkD_at okX0_bar_0 22 rfl
theorem dX0_bar_45 : decode cX0_bar 45 = .ok (.iload 5, 2) := chkD_at okX0_bar_0 23 rfl
theorem dX0_bar_47 : decode cX0_bar 47 = .ok (.getstatic 59, 3) := chkD_at okX0_bar_0 24 rfl
theorem dX0_bar_50 : decode cX0_bar 50 = .ok (.iload 6, 2) := chkD_at okX0_bar_0 25 rfl
theorem dX0_bar_52 : decode cX0_bar 52 = .ok (.iaload, 1) := chkD_at okX0_bar_0 26 rfl
theorem dX0_bar_53 : decode cX0_bar 53 = .ok (.invokestatic 62, 3) := chkD_at okX0_bar_0 27 rfl
theorem dX0_bar_56 : decode cX0_bar 56 = .ok (.ifCond .eq 15, 3) := chkD_at okX0_bar_0 28 rfl
theorem dX0_bar_59 : decode cX0_bar 59 = .ok (.aload_n 0, 1) := chkD_at okX0_bar_0 29 rfl
theorem dX0_bar_60 : decode cX0_bar 60 = .ok (.getstatic 59, 3) := chkD_at okX0_bar_0 30 rfl
theorem dX0_bar_63 : decode cX0_bar 63 = .ok (.iload 6, 2) := chkD_at okX0_bar_0 31 rfl
theorem dX0_bar_65 : decode cX0_bar 65 = .ok (.iaload, 1) := chkD_at okX0_bar_0 32 rfl
theorem dX0_bar_66 : decode cX0_bar 66 = .ok (.iload 4, 2) := chkD_at okX0_bar_0 33 rfl
theorem dX0_bar_68 : decode cX0_bar 68 = .ok (.invokevirtual 55, 3) := chkD_at okX0_bar_0 34 rfl
theorem dX0_bar_71 : decode cX0_bar 71 = .ok (.iinc 6 1, 3) := chkD_at okX0_bar_0 35 rfl
theorem dX0_bar_74 : decode cX0_bar 74 = .ok (.goto (-38), 3) := chkD_at okX0_bar_0 36 rfl
theorem dX0_bar_77 : decode cX0_bar 77 = .ok (.return_, 1) := chkD_at okX0_bar_0 37 rfl
theorem okX0_barIn_0 : chkD cX0_barIn [(0, .aload_n 0, 1), (1, .getfield 15, 3), (4, .iload_n 1, 1), (5, .dup2, 1), (6, .iaload, 1), (7, .aload_n 0, 1), (8, .getfield 9, 3), (11, .iload_n 1, 1), (12, .iaload, 1), (13, .iload_n 2, 1), (14, .iand, 1), (15, .ior, 1), (16, .iastore, 1), (17, .aload_n 0, 1), (18, .getfield 9, 3), (21, .iload_n 1, 1), (22, .dup2, 1), (23, .iaload, 1), (24, .iload_n 2, 1), (25, .ior, 1), (26, .iastore, 1), (27, .return_, 1)] = true := by decide +kernel
theorem dX0_barIn_0 : decode cX0_barIn 0 = .ok (.aload_n 0, 1) := chkD_at okX0_barIn_0 0 rfl
theorem dX0_barIn_1 : decode cX0_barIn 1 = .ok (.getfield 15, 3) := chkD_at okX0_barIn_0 1 rfl
theorem dX0_barIn_4 : decode cX0_barIn 4 = .ok (.iload_n 1, 1) := chkD_at okX0_barIn_0 2 rfl
theorem dX0_barIn_5 : decode cX0_barIn 5 = .ok (.dup2, 1) := chkD_at okX0_barIn_0 3 rfl
theorem dX0_barIn_6 : decode cX0_barIn 6 = .ok (.iaload, 1) := chkD_at okX0_barIn_0 4 rfl
theorem dX0_barIn_7 : decode cX0_barIn 7 = .ok (.aload_n 0, 1) := chkD_at okX0_barIn_0 5 rfl
theorem dX0_barIn_8 : decode cX0_barIn 8 = .ok (.getfield 9, 3) := chkD_at okX0_barIn_0 6 rfl
theorem dX0_barIn_11 : decode cX0_barIn 11 = .ok (.iload_n 1, 1) := chkD_at okX0_barIn_0 7 rfl
theorem dX0_barIn_12 : decode cX0_barIn 12 = .ok (.iaload, 1) := chkD_at okX0_barIn_0 8 rfl
theorem dX0_barIn_13 : decode cX0_barIn 13 = .ok (.iload_n 2, 1) := chkD_at okX0_barIn_0 9 rfl
theorem dX0_barIn_14 : decode cX0_barIn 14 = .ok (.iand, 1) := chkD_at okX0_barIn_0 10 rfl
theorem dX0_barIn_15 : decode cX0_barIn 15 = .ok (.ior, 1) := chkD_at okX0_barIn_0 11 rfl
theorem dX0_barIn_16 : decode cX0_barIn 16 = .ok (.iastore, 1) := chkD_at okX0_barIn_0 12 rfl
theorem dX0_barIn_17 : decode cX0_barIn 17 = .ok (.aload_n 0, 1) := chkD_at okX0_barIn_0 13 rfl
theorem dX0_barIn_18 : decode cX0_barIn 18 = .ok (.getfield 9, 3) := chkD_at okX0_barIn_0 14 rfl
theorem dX0_barIn_21 : decode cX0_barIn 21 = .ok (.iload_n 1, 1) := chkD_at okX0_barIn_0 15 rfl
theorem dX0_barIn_22 : decode cX0_barIn 22 = .ok (.dup2, 1) := chkD_at okX0_barIn_0 16 rfl
theorem dX0_barIn_23 : decode cX0_barIn 23 = .ok (.iaload, 1) := chkD_at okX0_barIn_0 17 rfl
theorem dX0_barIn_24 : decode cX0_barIn 24 = .ok (.iload_n 2, 1) := chkD_at okX0_barIn_0 18 rfl
theorem dX0_barIn_25 : decode cX0_barIn 25 = .ok (.ior, 1) := chkD_at okX0_barIn_0 19 rfl
theorem dX0_barIn_26 : decode cX0_barIn 26 = .ok (.iastore, 1) := chkD_at okX0_barIn_0 20 rfl
theorem dX0_barIn_27 : decode cX0_barIn 27 = .ok (.return_, 1) := chkD_at okX0_barIn_0 21 rfl
theorem okX0_unbarred_0 : chkD cX0_unbarred [(0, .sipush 1840, 3), (3, .aload_n 0, 1), (4, .getfield 9, 3), (7, .invokestatic 66, 3), (10, .isub, 1), (11, .ireturn, 1)] = true := by decide +kernel
theorem dX0_unbarred_0 : decode cX0_unbarred 0 = .ok (.sipush 1840, 3) := chkD_at okX0_unbarred_0 0 rfl
theorem dX0_unbarred_3 : decode cX0_unbarred 3 = .ok (.aload_n 0, 1) := chkD_at okX0_unbarred_0 1 rfl
theorem dX0_unbarred_4 : decode cX0_unbarred 4 = .ok (.getfield 9, 3) := chkD_at okX0_unbarred_0 2 rfl
theorem dX0_unbarred_7 : decode cX0_unbarred 7 = .ok (.invokestatic 66, 3) := chkD_at okX0_unbarred_0 3 rfl
theorem dX0_unbarred_10 : decode cX0_unbarred 10 = .ok (.isub, 1) := chkD_at okX0_unbarred_0 4 rfl
theorem dX0_unbarred_11 : decode cX0_unbarred 11 = .ok (.ireturn, 1) := chkD_at okX0_unbarred_0 5 rfl
theorem okX0_barredAloneBy_0 : chkD cX0_barredAloneBy [(0, .iload_n 1, 1), (1, .iload_n 2, 1), (2, .invokestatic 40, 3), (5, .iload_n 3, 1), (6, .invokestatic 44, 3), (9, .istore 4, 2), (11, .iconst 0, 1), (12, .istore 5, 2), (14, .iconst 0, 1), (15, .istore 6, 2), (17, .iload 6, 2), (19, .getstatic 59, 3), (22, .arraylength, 1), (23, .if_icmp .ge 50, 3), (26, .getstatic 59, 3), (29, .iload 6, 2), (31, .iaload, 1), (32, .istore 7, 2), (34, .iload_n 1, 1), (35, .iload_n 2, 1), (36, .invokestatic 48, 3), (39, .iload 7, 2), (41, .invokestatic 70, 3), (44, .ifCond .eq 23, 3), (47, .iload 5, 2), (49, .iload 4, 2), (51, .aload_n 0, 1), (52, .getfield 15, 3), (55, .iload 7, 2), (57, .iaload, 1), (58, .iconst (-1), 1), (59, .ixor, 1), (60, .iand, 1), (61, .invokestatic 74, 3), (64, .iadd, 1), (65, .istore 5, 2), (67, .iinc 6 1, 3), (70, .goto (-53), 3), (73, .iload 5, 2), (75, .ireturn, 1)] = true := by decide +kernel
theorem dX0_barredAloneBy_0 : decode cX0_barredAloneBy 0 = .ok (.iload_n 1, 1) := chkD_at okX0_barredAloneBy_0 0 rfl
theorem dX0_barredAloneBy_1 : decode cX0_barredAloneBy 1 = .ok (.iload_n 2, 1) := chkD_at okX0_barredAloneBy_0 1 rfl
theorem dX0_barredAloneBy_2 : decode cX0_barredAloneBy 2 = .ok (.invokestatic 40, 3) := chkD_at okX0_barredAloneBy_0 2 rfl
theorem dX0_barredAloneBy_5 : decode cX0_barredAloneBy 5 = .ok (.iload_n 3, 1) := chkD_at okX0_barredAloneBy_0 3 rfl
theorem dX0_barredAloneBy_6 : decode cX0_barredAloneBy 6 = .ok (.invokestatic 44, 3) := chkD_at okX0_barredAloneBy_0 4 rfl
theorem dX0_barredAloneBy_9 : decode cX0_barredAloneBy 9 = .ok (.istore 4, 2) := chkD_at okX0_barredAloneBy_0 5 rfl
theorem dX0_barredAloneBy_11 : decode cX0_barredAloneBy 11 = .ok (.iconst 0, 1) := chkD_at okX0_barredAloneBy_0 6 rfl
theorem dX0_barredAloneBy_12 : decode cX0_barredAloneBy 12 = .ok (.istore 5, 2) := chkD_at okX0_barredAloneBy_0 7 rfl
theorem dX0_barredAloneBy_14 : decode cX0_barredAloneBy 14 = .ok (.iconst 0, 1) := chkD_at okX0_barredAloneBy_0 8 rfl
theorem dX0_barredAloneBy_15 : decode cX0_barredAloneBy 15 = .ok (.istore 6, 2) := chkD_at okX0_barredAloneBy_0 9 rfl
theorem dX0_barredAloneBy_17 : decode cX0_barredAloneBy 17 = .ok (.iload 6, 2) := chkD_at okX0_barredAloneBy_0 10 rfl
theorem dX0_barredAloneBy_19 : decode cX0_barredAloneBy 19 = .ok (.getstatic 59, 3) := chkD_at okX0_barredAloneBy_0 11 rfl
theorem dX0_barredAloneBy_22 : decode cX0_barredAloneBy 22 = .ok (.arraylength, 1) := chkD_at okX0_barredAloneBy_0 12 rfl
theorem dX0_barredAloneBy_23 : decode cX0_barredAloneBy 23 = .ok (.if_icmp .ge 50, 3) := chkD_at okX0_barredAloneBy_0 13 rfl
theorem dX0_barredAloneBy_26 : decode cX0_barredAloneBy 26 = .ok (.getstatic 59, 3) := chkD_at okX0_barredAloneBy_0 14 rfl
theorem dX0_barredAloneBy_29 : decode cX0_barredAloneBy 29 = .ok (.iload 6, 2) := chkD_at okX0_barredAloneBy_0 15 rfl
theorem dX0_barredAloneBy_31 : decode cX0_barredAloneBy 31 = .ok (.iaload, 1) := chkD_at okX0_barredAloneBy_0 16 rfl
theorem dX0_barredAloneBy_32 : decode cX0_barredAloneBy 32 = .ok (.istore 7, 2) := chkD_at okX0_barredAloneBy_0 17 rfl
theorem dX0_barredAloneBy_34 : decode cX0_barredAloneBy 34 = .ok (.iload_n 1, 1) := chkD_at okX0_barredAloneBy_0 18 rfl
theorem dX0_barredAloneBy_35 : decode cX0_barredAloneBy 35 = .ok (.iload_n 2, 1) := chkD_at okX0_barredAloneBy_0 19 rfl
theorem dX0_barredAloneBy_36 : decode cX0_barredAloneBy 36 = .ok (.invokestatic 48, 3) := chkD_at okX0_barredAloneBy_0 20 rfl
theorem dX0_barredAloneBy_39 : decode cX0_barredAloneBy 39 = .ok (.iload 7, 2) := chkD_at okX0_barredAloneBy_0 21 rfl
theorem dX0_barredAloneBy_41 : decode cX0_barredAloneBy 41 = .ok (.invokestatic 70, 3) := chkD_at okX0_barredAloneBy_0 22 rfl
theorem dX0_barredAloneBy_44 : decode cX0_barredAloneBy 44 = .ok (.ifCond .eq 23, 3) := chkD_at okX0_barredAloneBy_0 23 rfl
theorem dX0_barredAloneBy_47 : decode cX0_barredAloneBy 47 = .ok (.iload 5, 2) := chkD_at okX0_barredAloneBy_0 24 rfl
theorem dX0_barredAloneBy_49 : decode cX0_barredAloneBy 49 = .ok (.iload 4, 2) := chkD_at okX0_barredAloneBy_0 25 rfl
theorem dX0_barredAloneBy_51 : decode cX0_barredAloneBy 51 = .ok (.aload_n 0, 1) := chkD_at okX0_barredAloneBy_0 26 rfl
theorem dX0_barredAloneBy_52 : decode cX0_barredAloneBy 52 = .ok (.getfield 15, 3) := chkD_at okX0_barredAloneBy_0 27 rfl
theorem dX0_barredAloneBy_55 : decode cX0_barredAloneBy 55 = .ok (.iload 7, 2) := chkD_at okX0_barredAloneBy_0 28 rfl
theorem dX0_barredAloneBy_57 : decode cX0_barredAloneBy 57 = .ok (.iaload, 1) := chkD_at okX0_barredAloneBy_0 29 rfl
theorem dX0_barredAloneBy_58 : decode cX0_barredAloneBy 58 = .ok (.iconst (-1), 1) := chkD_at okX0_barredAloneBy_0 30 rfl
theorem dX0_barredAloneBy_59 : decode cX0_barredAloneBy 59 = .ok (.ixor, 1) := chkD_at okX0_barredAloneBy_0 31 rfl
theorem dX0_barredAloneBy_60 : decode cX0_barredAloneBy 60 = .ok (.iand, 1) := chkD_at okX0_barredAloneBy_0 32 rfl
theorem dX0_barredAloneBy_61 : decode cX0_barredAloneBy 61 = .ok (.invokestatic 74, 3) := chkD_at okX0_barredAloneBy_0 33 rfl
theorem dX0_barredAloneBy_64 : decode cX0_barredAloneBy 64 = .ok (.iadd, 1) := chkD_at okX0_barredAloneBy_0 34 rfl
theorem dX0_barredAloneBy_65 : decode cX0_barredAloneBy 65 = .ok (.istore 5, 2) := chkD_at okX0_barredAloneBy_0 35 rfl
theorem dX0_barredAloneBy_67 : decode cX0_barredAloneBy 67 = .ok (.iinc 6 1, 3) := chkD_at okX0_barredAloneBy_0 36 rfl
theorem dX0_barredAloneBy_70 : decode cX0_barredAloneBy 70 = .ok (.goto (-53), 3) := chkD_at okX0_barredAloneBy_0 37 rfl
theorem dX0_barredAloneBy_73 : decode cX0_barredAloneBy 73 = .ok (.iload 5, 2) := chkD_at okX0_barredAloneBy_0 38 rfl
theorem dX0_barredAloneBy_75 : decode cX0_barredAloneBy 75 = .ok (.ireturn, 1) := chkD_at okX0_barredAloneBy_0 39 rfl
theorem okX1_init_0 : chkD cX1_init [(0, .aload_n 0, 1), (1, .invokespecial 3, 3), (4, .aload_n 0, 1), (5, .bipush 8, 2), (7, .newarray .int, 2), (9, .putfield 9, 3), (12, .aload_n 0, 1), (13, .bipush 8, 2), (15, .newarray .int, 2), (17, .putfield 15, 3), (20, .aload_n 0, 1), (21, .iconst 5, 1), (22, .newarray .int, 2), (24, .putfield 18, 3), (27, .aload_n 0, 1), (28, .iconst 4, 1), (29, .newarray .int, 2), (31, .putfield 21, 3), (34, .aload_n 0, 1), (35, .bipush 30, 2), (37, .newarray .int, 2), (39, .putfield 24, 3), (42, .aload_n 0, 1), (43, .bipush 30, 2), (45, .newarray .int, 2), (47, .putfield 27, 3), (50, .aload_n 0, 1), (51, .bipush 30, 2), (53, .newarray .int, 2), (55, .putfield 30, 3), (58, .aload_n 0, 1), (59, .iconst 0, 1), (60, .putfield 33, 3), (63, .aload_n 0, 1), (64, .iconst 3, 1), (65, .putfield 37, 3), (68, .aload_n 0, 1), (69, .iconst 0, 1), (70, .putfield 40, 3), (73, .aload_n 0, 1), (74, .getfield 9, 3), (77, .iconst 5, 1), (78, .invokestatic 43, 3), (81, .return_, 1)] = true := by decide +kernel
theorem dX1_init_0 : decode cX1_init 0 = .ok (.aload_n 0, 1) := chkD_at okX1_init_0 0 rfl
theorem dX1_init_1 : decode cX1_init 1 = .ok (.invokespecial 3, 3) := chkD_at okX1_init_0 1 rfl
theorem dX1_init_4 : decode cX1_init 4 = .ok (.aload_n 0, 1) := chkD_at okX1_init_0 2 rfl
theorem dX1_init_5 : decode cX1_init 5 = .ok (.bipush 8, 2) := chkD_at okX1_init_0 3 rfl
theorem dX1_init_7 : decode cX1_init 7 = .ok (.newarray .int, 2) := chkD_at okX1_init_0 4 rfl
theorem dX1_init_9 : decode cX1_init 9 = .ok (.putfield 9, 3) := chkD_at okX1_init_0 5 rfl
theorem dX1_init_12 : decode cX1_init 12 = .ok (.aload_n 0, 1) := chkD_at okX1_init_0 6 rfl
theorem dX1_init_13 : decode cX1_init 13 = .ok (.bipush 8, 2) := chkD_at okX1_init_0 7 rfl
theorem dX1_init_15 : decode cX1_init 15 = .ok (.newarray .int, 2) := chkD_at okX1_init_0 8 rfl
theorem dX1_init_17 : decode cX1_init 17 = .ok (.putfield 15, 3) := chkD_at okX1_init_0 9 rfl
theorem dX1_init_20 : decode cX1_init 20 = .ok (.aload_n 0, 1) := chkD_at okX1_init_0 10 rfl
theorem dX1_init_21 : decode cX1_init 21 = .ok (.iconst 5, 1) := chkD_at okX1_init_0 11 rfl
theorem dX1_init_22 : decode cX1_init 22 = .ok (.newarray .int, 2) := chkD_at okX1_init_0 12 rfl
theorem dX1_init_24 : decode cX1_init 24 = .ok (.putfield 18, 3) := chkD_at okX1_init_0 13 rfl
theorem dX1_init_27 : decode cX1_init 27 = .ok (.aload_n 0, 1) := chkD_at okX1_init_0 14 rfl
theorem dX1_init_28 : decode cX1_init 28 = .ok (.iconst 4, 1) := chkD_at okX1_init_0 15 rfl
theorem dX1_init_29 : decode cX1_init 29 = .ok (.newarray .int, 2) := chkD_at okX1_init_0 16 rfl
theorem dX1_init_31 : decode cX1_init 31 = .ok (.putfield 21, 3) := chkD_at okX1_init_0 17 rfl
theorem dX1_init_34 : decode cX1_init 34 = .ok (.aload_n 0, 1) := chkD_at okX1_init_0 18 rfl
theorem dX1_init_35 : decode cX1_init 35 = .ok (.bipush 30, 2) := chkD_at okX1_init_0 19 rfl
theorem dX1_init_37 : decode cX1_init 37 = .ok (.newarray .int, 2) := chkD_at okX1_init_0 20 rfl
theorem dX1_init_39 : decode cX1_init 39 = .ok (.putfield 24, 3) := chkD_at okX1_init_0 21 rfl
theorem dX1_init_42 : decode cX1_init 42 = .ok (.aload_n 0, 1) := chkD_at okX1_init_0 22 rfl
theorem dX1_init_43 : decode cX1_init 43 = .ok (.bipush 30, 2) := chkD_at okX1_init_0 23 rfl
theorem dX1_init_45 : decode cX1_init 45 = .ok (.newarray .int, 2) := chkD_at okX1_init_0 24 rfl
theorem dX1_init_47 : decode cX1_init 47 = .ok (.putfield 27, 3) := chkD_at okX1_init_0 25 rfl
theorem dX1_init_50 : decode cX1_init 50 = .ok (.aload_n 0, 1) := chkD_at okX1_init_0 26 rfl
theorem dX1_init_51 : decode cX1_init 51 = .ok (.bipush 30, 2) := chkD_at okX1_init_0 27 rfl
theorem dX1_init_53 : decode cX1_init 53 = .ok (.newarray .int, 2) := chkD_at okX1_init_0 28 rfl
theorem dX1_init_55 : decode cX1_init 55 = .ok (.putfield 30, 3) := chkD_at okX1_init_0 29 rfl
theorem dX1_init_58 : decode cX1_init 58 = .ok (.aload_n 0, 1) := chkD_at okX1_init_0 30 rfl
theorem dX1_init_59 : decode cX1_init 59 = .ok (.iconst 0, 1) := chkD_at okX1_init_0 31 rfl
theorem dX1_init_60 : decode cX1_init 60 = .ok (.putfield 33, 3) := chkD_at okX1_init_0 32 rfl
theorem dX1_init_63 : decode cX1_init 63 = .ok (.aload_n 0, 1) := chkD_at okX1_init_0 33 rfl
theorem dX1_init_64 : decode cX1_init 64 = .ok (.iconst 3, 1) := chkD_at okX1_init_0 34 rfl
theorem dX1_init_65 : decode cX1_init 65 = .ok (.putfield 37, 3) := chkD_at okX1_init_0 35 rfl
theorem dX1_init_68 : decode cX1_init 68 = .ok (.aload_n 0, 1) := chkD_at okX1_init_0 36 rfl
theorem dX1_init_69 : decode cX1_init 69 = .ok (.iconst 0, 1) := chkD_at okX1_init_0 37 rfl
theorem dX1_init_70 : decode cX1_init 70 = .ok (.putfield 40, 3) := chkD_at okX1_init_0 38 rfl
theorem dX1_init_73 : decode cX1_init 73 = .ok (.aload_n 0, 1) := chkD_at okX1_init_0 39 rfl
theorem dX1_init_74 : decode cX1_init 74 = .ok (.getfield 9, 3) := chkD_at okX1_init_0 40 rfl
theorem dX1_init_77 : decode cX1_init 77 = .ok (.iconst 5, 1) := chkD_at okX1_init_0 41 rfl
theorem dX1_init_78 : decode cX1_init 78 = .ok (.invokestatic 43, 3) := chkD_at okX1_init_0 42 rfl
theorem dX1_init_81 : decode cX1_init 81 = .ok (.return_, 1) := chkD_at okX1_init_0 43 rfl
theorem okX1_become_0 : chkD cX1_become [(0, .aload_n 1, 1), (1, .getfield 9, 3), (4, .iconst 0, 1), (5, .aload_n 0, 1), (6, .getfield 9, 3), (9, .iconst 0, 1), (10, .bipush 8, 2), (12, .invokestatic 49, 3), (15, .aload_n 1, 1), (16, .getfield 15, 3), (19, .iconst 0, 1), (20, .aload_n 0, 1), (21, .getfield 15, 3), (24, .iconst 0, 1), (25, .bipush 8, 2), (27, .invokestatic 49, 3), (30, .aload_n 1, 1), (31, .getfield 18, 3), (34, .iconst 0, 1), (35, .aload_n 0, 1), (36, .getfield 18, 3), (39, .iconst 0, 1), (40, .iconst 5, 1), (41, .invokestatic 49, 3), (44, .aload_n 1, 1), (45, .getfield 21, 3), (48, .iconst 0, 1), (49, .aload_n 0, 1), (50, .getfield 21, 3), (53, .iconst 0, 1), (54, .iconst 4, 1), (55, .invokestatic 49, 3), (58, .aload_n 1, 1), (59, .getfield 24, 3), (62, .iconst 0, 1), (63, .aload_n 0, 1), (64, .getfield 24, 3), (67, .iconst 0, 1), (68, .bipush 30, 2), (70, .invokestatic 49, 3), (73, .aload_n 1, 1), (74, .getfield 27, 3), (77, .iconst 0, 1), (78, .aload_n 0, 1), (79, .getfield 27, 3), (82, .iconst 0, 1), (83, .bipush 30, 2), (85, .invokestatic 49, 3), (88, .aload_n 1, 1), (89, .getfield 30, 3), (92, .iconst 0, 1), (93, .aload_n 0, 1), (94, .getfield 30, 3), (97, .iconst 0, 1), (98, .bipush 30, 2), (100, .invokestatic 49, 3), (103, .aload_n 0, 1), (104, .aload_n 1, 1), (105, .getfield 33, 3), (108, .putfield 33, 3), (111, .aload_n 0, 1), (112, .aload_n 1, 1), (113, .getfield 37, 3), (116, .putfield 37, 3), (119, .aload_n 0, 1), (120, .aload_n 1, 1), (121, .getfield 40, 3), (124, .putfield 40, 3), (127, .return_, 1)] = true := by decide +kernel
theorem dX1_become_0 : decode cX1_become 0 = .ok (.aload_n 1, 1) := chkD_at okX1_become_0 0 rfl
theorem dX1_become_1 : decode cX1_become 1 = .ok (.getfield 9, 3) := chkD_at okX1_become_0 1 rfl
theorem dX1_become_4 : decode cX1_become 4 = .ok (.iconst 0, 1) := chkD_at okX1_become_0 2 rfl
theorem dX1_become_5 : decode cX1_become 5 = .ok (.aload_n 0, 1) := chkD_at okX1_become_0 3 rfl
theorem dX1_become_6 : decode cX1_become 6 = .ok (.getfield 9, 3) := chkD_at okX1_become_0 4 rfl
theorem dX1_become_9 : decode cX1_become 9 = .ok (.iconst 0, 1) := chkD_at okX1_become_0 5 rfl
theorem dX1_become_10 : decode cX1_become 10 = .ok (.bipush 8, 2) := chkD_at okX1_become_0 6 rfl
theorem dX1_become_12 : decode cX1_become 12 = .ok (.invokestatic 49, 3) := chkD_at okX1_become_0 7 rfl
theorem dX1_become_15 : decode cX1_become 15 = .ok (.aload_n 1, 1) := chkD_at okX1_become_0 8 rfl
theorem dX1_become_16 : decode cX1_become 16 = .ok (.getfield 15, 3) := chkD_at okX1_become_0 9 rfl
theorem dX1_become_19 : decode cX1_become 19 = .ok (.iconst 0, 1) := chkD_at okX1_become_0 10 rfl
theorem dX1_become_20 : decode cX1_become 20 = .ok (.aload_n 0, 1) := chkD_at okX1_become_0 11 rfl
theorem dX1_become_21 : decode cX1_become 21 = .ok (.getfield 15, 3) := chkD_at okX1_become_0 12 rfl
theorem dX1_become_24 : decode cX1_become 24 = .ok (.iconst 0, 1) := chkD_at okX1_become_0 13 rfl
theorem dX1_become_25 : decode cX1_become 25 = .ok (.bipush 8, 2) := chkD_at okX1_become_0 14 rfl
theorem dX1_become_27 : decode cX1_become 27 = .ok (.invokestatic 49, 3) := chkD_at okX1_become_0 15 rfl
theorem dX1_become_30 : decode cX1_become 30 = .ok (.aload_n 1, 1) := chkD_at okX1_become_0 16 rfl
theorem dX1_become_31 : decode cX1_become 31 = .ok (.getfield 18, 3) := chkD_at okX1_become_0 17 rfl
theorem dX1_become_34 : decode cX1_become 34 = .ok (.iconst 0, 1) := chkD_at okX1_become_0 18 rfl
theorem dX1_become_35 : decode cX1_become 35 = .ok (.aload_n 0, 1) := chkD_at okX1_become_0 19 rfl
theorem dX1_become_36 : decode cX1_become 36 = .ok (.getfield 18, 3) := chkD_at okX1_become_0 20 rfl
theorem dX1_become_39 : decode cX1_become 39 = .ok (.iconst 0, 1) := chkD_at okX1_become_0 21 rfl
theorem dX1_become_40 : decode cX1_become 40 = .ok (.iconst 5, 1) := chkD_at okX1_become_0 22 rfl
theorem dX1_become_41 : decode cX1_become 41 = .ok (.invokestatic 49, 3) := chkD_at okX1_become_0 23 rfl
theorem dX1_become_44 : decode cX1_become 44 = .ok (.aload_n 1, 1) := chkD_at okX1_become_0 24 rfl
theorem dX1_become_45 : decode cX1_become 45 = .ok (.getfield 21, 3) := chkD_at okX1_become_0 25 rfl
theorem dX1_become_48 : decode cX1_become 48 = .ok (.iconst 0, 1) := chkD_at okX1_become_0 26 rfl
theorem dX1_become_49 : decode cX1_become 49 = .ok (.aload_n 0, 1) := chkD_at okX1_become_0 27 rfl
theorem dX1_become_50 : decode cX1_become 50 = .ok (.getfield 21, 3) := chkD_at okX1_become_0 28 rfl
theorem dX1_become_53 : decode cX1_become 53 = .ok (.iconst 0, 1) := chkD_at okX1_become_0 29 rfl
theorem dX1_become_54 : decode cX1_become 54 = .ok (.iconst 4, 1) := chkD_at okX1_become_0 30 rfl
theorem dX1_become_55 : decode cX1_become 55 = .ok (.invokestatic 49, 3) := chkD_at okX1_become_0 31 rfl
theorem dX1_become_58 : decode cX1_become 58 = .ok (.aload_n 1, 1) := chkD_at okX1_become_0 32 rfl
theorem dX1_become_59 : decode cX1_become 59 = .ok (.getfield 24, 3) := chkD_at okX1_become_0 33 rfl
theorem dX1_become_62 : decode cX1_become 62 = .ok (.iconst 0, 1) := chkD_at okX1_become_0 34 rfl
theorem dX1_become_63 : decode cX1_become 63 = .ok (.aload_n 0, 1) := chkD_at okX1_become_0 35 rfl
theorem dX1_become_64 : decode cX1_become 64 = .ok (.getfield 24, 3) := chkD_at okX1_become_0 36 rfl
theorem dX1_become_67 : decode cX1_become 67 = .ok (.iconst 0, 1) := chkD_at okX1_become_0 37 rfl
theorem dX1_become_68 : decode cX1_become 68 = .ok (.bipush 30, 2) := chkD_at okX1_become_0 38 rfl
theorem dX1_become_70 : decode cX1_become 70 = .ok (.invokestatic 49, 3) := chkD_at okX1_become_0 39 rfl
theorem dX1_become_73 : decode cX1_become 73 = .ok (.aload_n 1, 1) := chkD_at okX1_become_0 40 rfl
theorem dX1_become_74 : decode cX1_become 74 = .ok (.getfield 27, 3) := chkD_at okX1_become_0 41 rfl
theorem dX1_become_77 : decode cX1_become 77 = .ok (.iconst 0, 1) := chkD_at okX1_become_0 42 rfl
theorem dX1_become_78 : decode cX1_become 78 = .ok (.aload_n 0, 1) := chkD_at okX1_become_0 43 rfl
theorem dX1_become_79 : decode cX1_become 79 = .ok (.getfield 27, 3) := chkD_at okX1_become_0 44 rfl
theorem dX1_become_82 : decode cX1_become 82 = .ok (.iconst 0, 1) := chkD_at okX1_become_0 45 rfl
theorem dX1_become_83 : decode cX1_become 83 = .ok (.bipush 30, 2) := chkD_at okX1_become_0 46 rfl
theorem dX1_become_85 : decode cX1_become 85 = .ok (.invokestatic 49, 3) := chkD_at okX1_become_0 47 rfl
theorem dX1_become_88 : decode cX1_become 88 = .ok (.aload_n 1, 1) := chkD_at okX1_become_0 48 rfl
theorem dX1_become_89 : decode cX1_become 89 = .ok (.getfield 30, 3) := chkD_at okX1_become_0 49 rfl
theorem dX1_become_92 : decode cX1_become 92 = .ok (.iconst 0, 1) := chkD_at okX1_become_0 50 rfl
theorem dX1_become_93 : decode cX1_become 93 = .ok (.aload_n 0, 1) := chkD_at okX1_become_0 51 rfl
theorem dX1_become_94 : decode cX1_become 94 = .ok (.getfield 30, 3) := chkD_at okX1_become_0 52 rfl
theorem dX1_become_97 : decode cX1_become 97 = .ok (.iconst 0, 1) := chkD_at okX1_become_0 53 rfl
theorem dX1_become_98 : decode cX1_become 98 = .ok (.bipush 30, 2) := chkD_at okX1_become_0 54 rfl
theorem dX1_become_100 : decode cX1_become 100 = .ok (.invokestatic 49, 3) := chkD_at okX1_become_0 55 rfl
theorem dX1_become_103 : decode cX1_become 103 = .ok (.aload_n 0, 1) := chkD_at okX1_become_0 56 rfl
theorem dX1_become_104 : decode cX1_become 104 = .ok (.aload_n 1, 1) := chkD_at okX1_become_0 57 rfl
theorem dX1_become_105 : decode cX1_become 105 = .ok (.getfield 33, 3) := chkD_at okX1_become_0 58 rfl
theorem dX1_become_108 : decode cX1_become 108 = .ok (.putfield 33, 3) := chkD_at okX1_become_0 59 rfl
theorem dX1_become_111 : decode cX1_become 111 = .ok (.aload_n 0, 1) := chkD_at okX1_become_0 60 rfl
theorem dX1_become_112 : decode cX1_become 112 = .ok (.aload_n 1, 1) := chkD_at okX1_become_0 61 rfl
theorem dX1_become_113 : decode cX1_become 113 = .ok (.getfield 37, 3) := chkD_at okX1_become_0 62 rfl
theorem dX1_become_116 : decode cX1_become 116 = .ok (.putfield 37, 3) := chkD_at okX1_become_0 63 rfl
theorem dX1_become_119 : decode cX1_become 119 = .ok (.aload_n 0, 1) := chkD_at okX1_become_0 64 rfl
theorem dX1_become_120 : decode cX1_become 120 = .ok (.aload_n 1, 1) := chkD_at okX1_become_0 65 rfl
theorem dX1_become_121 : decode cX1_become 121 = .ok (.getfield 40, 3) := chkD_at okX1_become_0 66 rfl
theorem dX1_become_124 : decode cX1_become 124 = .ok (.putfield 40, 3) := chkD_at okX1_become_0 67 rfl
theorem dX1_become_127 : decode cX1_become 127 = .ok (.return_, 1) := chkD_at okX1_become_0 68 rfl
theorem okX1_likedOf_0 : chkD cX1_likedOf [(0, .iload_n 1, 1), (1, .ifCond .ne 8, 3), (4, .aload_n 0, 1), (5, .getfield 15, 3), (8, .areturn, 1), (9, .iload_n 1, 1), (10, .iconst 1, 1), (11, .if_icmp .ne 10, 3), (14, .aload_n 0, 1), (15, .getfield 18, 3), (18, .goto 7, 3), (21, .aload_n 0, 1), (22, .getfield 21, 3), (25, .areturn, 1)] = true := by decide +kernel
theorem dX1_likedOf_0 : decode cX1_likedOf 0 = .ok (.iload_n 1, 1) := chkD_at okX1_likedOf_0 0 rfl
theorem dX1_likedOf_1 : decode cX1_likedOf 1 = .ok (.ifCond .ne 8, 3) := chkD_at okX1_likedOf_0 1 rfl
theorem dX1_likedOf_4 : decode cX1_likedOf 4 = .ok (.aload_n 0, 1) := chkD_at okX1_likedOf_0 2 rfl
theorem dX1_likedOf_5 : decode cX1_likedOf 5 = .ok (.getfield 15, 3) := chkD_at okX1_likedOf_0 3 rfl
theorem dX1_likedOf_8 : decode cX1_likedOf 8 = .ok (.areturn, 1) := chkD_at okX1_likedOf_0 4 rfl
theorem dX1_likedOf_9 : decode cX1_likedOf 9 = .ok (.iload_n 1, 1) := chkD_at okX1_likedOf_0 5 rfl
theorem dX1_likedOf_10 : decode cX1_likedOf 10 = .ok (.iconst 1, 1) := chkD_at okX1_likedOf_0 6 rfl
theorem dX1_likedOf_11 : decode cX1_likedOf 11 = .ok (.if_icmp .ne 10, 3) := chkD_at okX1_likedOf_0 7 rfl
theorem dX1_likedOf_14 : decode cX1_likedOf 14 = .ok (.aload_n 0, 1) := chkD_at okX1_likedOf_0 8 rfl
theorem dX1_likedOf_15 : decode cX1_likedOf 15 = .ok (.getfield 18, 3) := chkD_at okX1_likedOf_0 9 rfl
theorem dX1_likedOf_18 : decode cX1_likedOf 18 = .ok (.goto 7, 3) := chkD_at okX1_likedOf_0 10 rfl
theorem dX1_likedOf_21 : decode cX1_likedOf 21 = .ok (.aload_n 0, 1) := chkD_at okX1_likedOf_0 11 rfl
theorem dX1_likedOf_22 : decode cX1_likedOf 22 = .ok (.getfield 21, 3) := chkD_at okX1_likedOf_0 12 rfl
theorem dX1_likedOf_25 : decode cX1_likedOf 25 = .ok (.areturn, 1) := chkD_at okX1_likedOf_0 13 rfl
theorem okX1_decree_0 : chkD cX1_decree [(0, .aload_n 0, 1), (1, .getfield 37, 3), (4, .iload_n 1, 1), (5, .invokestatic 55, 3), (8, .istore_n 3, 1), (9, .iload_n 2, 1), (10, .iload_n 3, 1), (11, .if_icmp .eq 15, 3), (14, .aload_n 0, 1), (15, .dup, 1), (16, .getfield 37, 3), (19, .iconst 1, 1), (20, .iload_n 1, 1), (21, .ishl, 1), (22, .ixor, 1), (23, .putfield 37, 3), (26, .iload_n 2, 1), (27, .iload_n 3, 1), (28, .if_icmp .eq 7, 3), (31, .iconst 1, 1), (32, .goto 4, 3), (35, .iconst 0, 1), (36, .ireturn, 1)] = true := by decide +kernel
theorem dX1_decree_0 : decode cX1_decree 0 = .ok (.aload_n 0, 1) := chkD_at okX1_decree_0 0 rfl
theorem dX1_decree_1 : decode cX1_decree 1 = .ok (.getfield 37, 3) := chkD_at okX1_decree_0 1 rfl
theorem dX1_decree_4 : decode cX1_decree 4 = .ok (.iload_n 1, 1) := chkD_at okX1_decree_0 2 rfl
theorem dX1_decree_5 : decode cX1_decree 5 = .ok (.invokestatic 55, 3) := chkD_at okX1_decree_0 3 rfl
theorem dX1_decree_8 : decode cX1_decree 8 = .ok (.istore_n 3, 1) := chkD_at okX1_decree_0 4 rfl
theorem dX1_decree_9 : decode cX1_decree 9 = .ok (.iload_n 2, 1) := chkD_at okX1_decree_0 5 rfl
theorem dX1_decree_10 : decode cX1_decree 10 = .ok (.iload_n 3, 1) := chkD_at okX1_decree_0 6 rfl
theorem dX1_decree_11 : decode cX1_decree 11 = .ok (.if_icmp .eq 15, 3) := chkD_at okX1_decree_0 7 rfl
theorem dX1_decree_14 : decode cX1_decree 14 = .ok (.aload_n 0, 1) := chkD_at okX1_decree_0 8 rfl
theorem dX1_decree_15 : decode cX1_decree 15 = .ok (.dup, 1) := chkD_at okX1_decree_0 9 rfl
theorem dX1_decree_16 : decode cX1_decree 16 = .ok (.getfield 37, 3) := chkD_at okX1_decree_0 10 rfl
theorem dX1_decree_19 : decode cX1_decree 19 = .ok (.iconst 1, 1) := chkD_at okX1_decree_0 11 rfl
theorem dX1_decree_20 : decode cX1_decree 20 = .ok (.iload_n 1, 1) := chkD_at okX1_decree_0 12 rfl
theorem dX1_decree_21 : decode cX1_decree 21 = .ok (.ishl, 1) := chkD_at okX1_decree_0 13 rfl
theorem dX1_decree_22 : decode cX1_decree 22 = .ok (.ixor, 1) := chkD_at okX1_decree_0 14 rfl
theorem dX1_decree_23 : decode cX1_decree 23 = .ok (.putfield 37, 3) := chkD_at okX1_decree_0 15 rfl
theorem dX1_decree_26 : decode cX1_decree 26 = .ok (.iload_n 2, 1) := chkD_at okX1_decree_0 16 rfl
theorem dX1_decree_27 : decode cX1_decree 27 = .ok (.iload_n 3, 1) := chkD_at okX1_decree_0 17 rfl
theorem dX1_decree_28 : decode cX1_decree 28 = .ok (.if_icmp .eq 7, 3) := chkD_at okX1_decree_0 18 rfl
theorem dX1_decree_31 : decode cX1_decree 31 = .ok (.iconst 1, 1) := chkD_at okX1_decree_0 19 rfl
theorem dX1_decree_32 : decode cX1_decree 32 = .ok (.goto 4, 3) := chkD_at okX1_decree_0 20 rfl
theorem dX1_decree_35 : decode cX1_decree 35 = .ok (.iconst 0, 1) := chkD_at okX1_decree_0 21 rfl
theorem dX1_decree_36 : decode cX1_decree 36 = .ok (.ireturn, 1) := chkD_at okX1_decree_0 22 rfl
theorem okX1_liking_0 : chkD cX1_liking [(0, .aload_n 0, 1), (1, .getfield 18, 3), (4, .iload_n 1, 1), (5, .invokestatic 59, 3), (8, .iaload, 1), (9, .aload_n 0, 1), (10, .getfield 21, 3), (13, .iload_n 1, 1), (14, .invokestatic 63, 3), (17, .iaload, 1), (18, .iadd, 1), (19, .istore_n 2, 1), (20, .iconst 0, 1), (21, .istore_n 3, 1), (22, .iload_n 3, 1), (23, .bipush 8, 2), (25, .if_icmp .ge 29, 3), (28, .iload_n 1, 1), (29, .invokestatic 66, 3), (32, .iload_n 3, 1), (33, .invokestatic 55, 3), (36, .ifCond .eq 12, 3), (39, .iload_n 2, 1), (40, .aload_n 0, 1), (41, .getfield 15, 3), (44, .iload_n 3, 1), (45, .iaload, 1), (46, .iadd, 1), (47, .istore_n 2, 1), (48, .iinc 3 1, 3), (51, .goto (-29), 3), (54, .iload_n 2, 1), (55, .ireturn, 1)] = true := by decide +kernel
theorem dX1_liking_0 : decode cX1_liking 0 = .ok (.aload_n 0, 1) := chkD_at okX1_liking_0 0 rfl
theorem dX1_liking_1 : decode cX1_liking 1 = .ok (.getfield 18, 3) := chkD_at okX1_liking_0 1 rfl
theorem dX1_liking_4 : decode cX1_liking 4 = .ok (.iload_n 1, 1) := chkD_at okX1_liking_0 2 rfl
theorem dX1_liking_5 : decode cX1_liking 5 = .ok (.invokestatic 59, 3) := chkD_at okX1_liking_0 3 rfl
theorem dX1_liking_8 : decode cX1_liking 8 = .ok (.iaload, 1) := chkD_at okX1_liking_0 4 rfl
theorem dX1_liking_9 : decode cX1_liking 9 = .ok (.aload_n 0, 1) := chkD_at okX1_liking_0 5 rfl
theorem dX1_liking_10 : decode cX1_liking 10 = .ok (.getfield 21, 3) := chkD_at okX1_liking_0 6 rfl
theorem dX1_liking_13 : decode cX1_liking 13 = .ok (.iload_n 1, 1) := chkD_at okX1_liking_0 7 rfl
theorem dX1_liking_14 : decode cX1_liking 14 = .ok (.invokestatic 63, 3) := chkD_at okX1_liking_0 8 rfl
theorem dX1_liking_17 : decode cX1_liking 17 = .ok (.iaload, 1) := chkD_at okX1_liking_0 9 rfl
theorem dX1_liking_18 : decode cX1_liking 18 = .ok (.iadd, 1) := chkD_at okX1_liking_0 10 rfl
theorem dX1_liking_19 : decode cX1_liking 19 = .ok (.istore_n 2, 1) := chkD_at okX1_liking_0 11 rfl
theorem dX1_liking_20 : decode cX1_liking 20 = .ok (.iconst 0, 1) := chkD_at okX1_liking_0 12 rfl
theorem dX1_liking_21 : decode cX1_liking 21 = .ok (.istore_n 3, 1) := chkD_at okX1_liking_0 13 rfl
theorem dX1_liking_22 : decode cX1_liking 22 = .ok (.iload_n 3, 1) := chkD_at okX1_liking_0 14 rfl
theorem dX1_liking_23 : decode cX1_liking 23 = .ok (.bipush 8, 2) := chkD_at okX1_liking_0 15 rfl
theorem dX1_liking_25 : decode cX1_liking 25 = .ok (.if_icmp .ge 29, 3) := chkD_at okX1_liking_0 16 rfl
theorem dX1_liking_28 : decode cX1_liking 28 = .ok (.iload_n 1, 1) := chkD_at okX1_liking_0 17 rfl
theorem dX1_liking_29 : decode cX1_liking 29 = .ok (.invokestatic 66, 3) := chkD_at okX1_liking_0 18 rfl
theorem dX1_liking_32 : decode cX1_liking 32 = .ok (.iload_n 3, 1) := chkD_at okX1_liking_0 19 rfl
theorem dX1_liking_33 : decode cX1_liking 33 = .ok (.invokestatic 55, 3) := chkD_at okX1_liking_0 20 rfl
theorem dX1_liking_36 : decode cX1_liking 36 = .ok (.ifCond .eq 12, 3) := chkD_at okX1_liking_0 21 rfl
theorem dX1_liking_39 : decode cX1_liking 39 = .ok (.iload_n 2, 1) := chkD_at okX1_liking_0 22 rfl
theorem dX1_liking_40 : decode cX1_liking 40 = .ok (.aload_n 0, 1) := chkD_at okX1_liking_0 23 rfl
theorem dX1_liking_41 : decode cX1_liking 41 = .ok (.getfield 15, 3) := chkD_at okX1_liking_0 24 rfl
theorem dX1_liking_44 : decode cX1_liking 44 = .ok (.iload_n 3, 1) := chkD_at okX1_liking_0 25 rfl
theorem dX1_liking_45 : decode cX1_liking 45 = .ok (.iaload, 1) := chkD_at okX1_liking_0 26 rfl
theorem dX1_liking_46 : decode cX1_liking 46 = .ok (.iadd, 1) := chkD_at okX1_liking_0 27 rfl
theorem dX1_liking_47 : decode cX1_liking 47 = .ok (.istore_n 2, 1) := chkD_at okX1_liking_0 28 rfl
theorem dX1_liking_48 : decode cX1_liking 48 = .ok (.iinc 3 1, 3) := chkD_at okX1_liking_0 29 rfl
theorem dX1_liking_51 : decode cX1_liking 51 = .ok (.goto (-29), 3) := chkD_at okX1_liking_0 30 rfl
theorem dX1_liking_54 : decode cX1_liking 54 = .ok (.iload_n 2, 1) := chkD_at okX1_liking_0 31 rfl
theorem dX1_liking_55 : decode cX1_liking 55 = .ok (.ireturn, 1) := chkD_at okX1_liking_0 32 rfl
theorem okX1_canBe_0 : chkD cX1_canBe [(0, .iload_n 1, 1), (1, .invokestatic 66, 3), (4, .aload_n 0, 1), (5, .getfield 9, 3), (8, .invokestatic 69, 3), (11, .iconst (-1), 1), (12, .ixor, 1), (13, .iand, 1), (14, .ifCond .ne 7, 3), (17, .iconst 1, 1), (18, .goto 4, 3), (21, .iconst 0, 1), (22, .ireturn, 1)] = true := by decide +kernel
theorem dX1_canBe_0 : decode cX1_canBe 0 = .ok (.iload_n 1, 1) := chkD_at okX1_canBe_0 0 rfl
theorem dX1_canBe_1 : decode cX1_canBe 1 = .ok (.invokestatic 66, 3) := chkD_at okX1_canBe_0 1 rfl
theorem dX1_canBe_4 : decode cX1_canBe 4 = .ok (.aload_n 0, 1) := chkD_at okX1_canBe_0 2 rfl
theorem dX1_canBe_5 : decode cX1_canBe 5 = .ok (.getfield 9, 3) := chkD_at okX1_canBe_0 3 rfl
theorem dX1_canBe_8 : decode cX1_canBe 8 = .ok (.invokestatic 69, 3) := chkD_at okX1_canBe_0 4 rfl
theorem dX1_canBe_11 : decode cX1_canBe 11 = .ok (.iconst (-1), 1) := chkD_at okX1_canBe_0 5 rfl
theorem dX1_canBe_12 : decode cX1_canBe 12 = .ok (.ixor, 1) := chkD_at okX1_canBe_0 6 rfl
theorem dX1_canBe_13 : decode cX1_canBe 13 = .ok (.iand, 1) := chkD_at okX1_canBe_0 7 rfl
theorem dX1_canBe_14 : decode cX1_canBe 14 = .ok (.ifCond .ne 7, 3) := chkD_at okX1_canBe_0 8 rfl
theorem dX1_canBe_17 : decode cX1_canBe 17 = .ok (.iconst 1, 1) := chkD_at okX1_canBe_0 9 rfl
theorem dX1_canBe_18 : decode cX1_canBe 18 = .ok (.goto 4, 3) := chkD_at okX1_canBe_0 10 rfl
theorem dX1_canBe_21 : decode cX1_canBe 21 = .ok (.iconst 0, 1) := chkD_at okX1_canBe_0 11 rfl
theorem dX1_canBe_22 : decode cX1_canBe 22 = .ok (.ireturn, 1) := chkD_at okX1_canBe_0 12 rfl
theorem okX1_isNew_0 : chkD cX1_isNew [(0, .aload_n 0, 1), (1, .iload_n 1, 1), (2, .aload_n 0, 1), (3, .getfield 33, 3), (6, .invokevirtual 73, 3), (9, .ifCond .ge 7, 3), (12, .iconst 1, 1), (13, .goto 4, 3), (16, .iconst 0, 1), (17, .ireturn, 1)] = true := by decide +kernel
theorem dX1_isNew_0 : decode cX1_isNew 0 = .ok (.aload_n 0, 1) := chkD_at okX1_isNew_0 0 rfl
theorem dX1_isNew_1 : decode cX1_isNew 1 = .ok (.iload_n 1, 1) := chkD_at okX1_isNew_0 1 rfl
theorem dX1_isNew_2 : decode cX1_isNew 2 = .ok (.aload_n 0, 1) := chkD_at okX1_isNew_0 2 rfl
theorem dX1_isNew_3 : decode cX1_isNew 3 = .ok (.getfield 33, 3) := chkD_at okX1_isNew_0 3 rfl
theorem dX1_isNew_6 : decode cX1_isNew 6 = .ok (.invokevirtual 73, 3) := chkD_at okX1_isNew_0 4 rfl
theorem dX1_isNew_9 : decode cX1_isNew 9 = .ok (.ifCond .ge 7, 3) := chkD_at okX1_isNew_0 5 rfl
theorem dX1_isNew_12 : decode cX1_isNew 12 = .ok (.iconst 1, 1) := chkD_at okX1_isNew_0 6 rfl
theorem dX1_isNew_13 : decode cX1_isNew 13 = .ok (.goto 4, 3) := chkD_at okX1_isNew_0 7 rfl
theorem dX1_isNew_16 : decode cX1_isNew 16 = .ok (.iconst 0, 1) := chkD_at okX1_isNew_0 8 rfl
theorem dX1_isNew_17 : decode cX1_isNew 17 = .ok (.ireturn, 1) := chkD_at okX1_isNew_0 9 rfl
theorem okX1_canServe_0 : chkD cX1_canServe [(0, .aload_n 0, 1), (1, .iload_n 2, 1), (2, .invokevirtual 77, 3), (5, .ifCond .eq 24, 3), (8, .iload_n 1, 1), (9, .iconst 2, 1), (10, .if_icmp .eq 15, 3), (13, .aload_n 0, 1), (14, .iload_n 2, 1), (15, .aload_n 0, 1), (16, .getfield 33, 3), (19, .invokevirtual 73, 3), (22, .ifCond .ge 7, 3), (25, .iconst 1, 1), (26, .goto 4, 3), (29, .iconst 0, 1), (30, .ireturn, 1)] = true := by decide +kernel
theorem dX1_canServe_0 : decode cX1_canServe 0 = .ok (.aload_n 0, 1) := chkD_at okX1_canServe_0 0 rfl
theorem dX1_canServe_1 : decode cX1_canServe 1 = .ok (.iload_n 2, 1) := chkD_at okX1_canServe_0 1 rfl
theorem dX1_canServe_2 : decode cX1_canServe 2 = .ok (.invokevirtual 77, 3) := chkD_at okX1_canServe_0 2 rfl
theorem dX1_canServe_5 : decode cX1_canServe 5 = .ok (.ifCond .eq 24, 3) := chkD_at okX1_canServe_0 3 rfl
theorem dX1_canServe_8 : decode cX1_canServe 8 = .ok (.iload_n 1, 1) := chkD_at okX1_canServe_0 4 rfl
theorem dX1_canServe_9 : decode cX1_canServe 9 = .ok (.iconst 2, 1) := chkD_at okX1_canServe_0 5 rfl
theorem dX1_canServe_10 : decode cX1_canServe 10 = .ok (.if_icmp .eq 15, 3) := chkD_at okX1_canServe_0 6 rfl
theorem dX1_canServe_13 : decode cX1_canServe 13 = .ok (.aload_n 0, 1) := chkD_at okX1_canServe_0 7 rfl
theorem dX1_canServe_14 : decode cX1_canServe 14 = .ok (.iload_n 2, 1) := chkD_at okX1_canServe_0 8 rfl
theorem dX1_canServe_15 : decode cX1_canServe 15 = .ok (.aload_n 0, 1) := chkD_at okX1_canServe_0 9 rfl
theorem dX1_canServe_16 : decode cX1_canServe 16 = .ok (.getfield 33, 3) := chkD_at okX1_canServe_0 10 rfl
theorem dX1_canServe_19 : decode cX1_canServe 19 = .ok (.invokevirtual 73, 3) := chkD_at okX1_canServe_0 11 rfl
theorem dX1_canServe_22 : decode cX1_canServe 22 = .ok (.ifCond .ge 7, 3) := chkD_at okX1_canServe_0 12 rfl
theorem dX1_canServe_25 : decode cX1_canServe 25 = .ok (.iconst 1, 1) := chkD_at okX1_canServe_0 13 rfl
theorem dX1_canServe_26 : decode cX1_canServe 26 = .ok (.goto 4, 3) := chkD_at okX1_canServe_0 14 rfl
theorem dX1_canServe_29 : decode cX1_canServe 29 = .ok (.iconst 0, 1) := chkD_at okX1_canServe_0 15 rfl
theorem dX1_canServe_30 : decode cX1_canServe 30 = .ok (.ireturn, 1) := chkD_at okX1_canServe_0 16 rfl
theorem okX1_isFull_0 : chkD cX1_isFull [(0, .aload_n 0, 1), (1, .getfield 33, 3), (4, .bipush 30, 2), (6, .if_icmp .lt 7, 3), (9, .iconst 1, 1), (10, .goto 4, 3), (13, .iconst 0, 1), (14, .ireturn, 1)] = true := by decide +kernel
theorem dX1_isFull_0 : decode cX1_isFull 0 = .ok (.aload_n 0, 1) := chkD_at okX1_isFull_0 0 rfl
theorem dX1_isFull_1 : decode cX1_isFull 1 = .ok (.getfield 33, 3) := chkD_at okX1_isFull_0 1 rfl
theorem dX1_isFull_4 : decode cX1_isFull 4 = .ok (.bipush 30, 2) := chkD_at okX1_isFull_0 2 rfl
theorem dX1_isFull_6 : decode cX1_isFull 6 = .ok (.if_icmp .lt 7, 3) := chkD_at okX1_isFull_0 3 rfl
theorem dX1_isFull_9 : decode cX1_isFull 9 = .ok (.iconst 1, 1) := chkD_at okX1_isFull_0 4 rfl
theorem dX1_isFull_10 : decode cX1_isFull 10 = .ok (.goto 4, 3) := chkD_at okX1_isFull_0 5 rfl
theorem dX1_isFull_13 : decode cX1_isFull 13 = .ok (.iconst 0, 1) := chkD_at okX1_isFull_0 6 rfl
theorem dX1_isFull_14 : decode cX1_isFull 14 = .ok (.ireturn, 1) := chkD_at okX1_isFull_0 7 rfl
theorem okX1_note_0 : chkD cX1_note [(0, .aload_n 0, 1), (1, .invokevirtual 81, 3), (4, .ifCond .eq 5, 3), (7, .iconst (-1), 1), (8, .ireturn, 1), (9, .aload_n 0, 1), (10, .getfield 24, 3), (13, .aload_n 0, 1), (14, .getfield 33, 3), (17, .iload_n 1, 1), (18, .iastore, 1), (19, .aload_n 0, 1), (20, .getfield 27, 3), (23, .aload_n 0, 1), (24, .getfield 33, 3), (27, .iload_n 2, 1), (28, .iastore, 1), (29, .aload_n 0, 1), (30, .getfield 30, 3), (33, .aload_n 0, 1), (34, .getfield 33, 3), (37, .aload_n 0, 1), (38, .getfield 40, 3), (41, .iastore, 1), (42, .aload_n 0, 1), (43, .dup, 1), (44, .getfield 33, 3), (47, .iconst 1, 1), (48, .iadd, 1), (49, .putfield 33, 3), (52, .aload_n 0, 1), (53, .getfield 33, 3), (56, .iconst 1, 1), (57, .isub, 1), (58, .ireturn, 1)] = true := by decide +kernel
theorem dX1_note_0 : decode cX1_note 0 = .ok (.aload_n 0, 1) := chkD_at okX1_note_0 0 rfl
theorem dX1_note_1 : decode cX1_note 1 = .ok (.invokevirtual 81, 3) := chkD_at okX1_note_0 1 rfl
theorem dX1_note_4 : decode cX1_note 4 = .ok (.ifCond .eq 5, 3) := chkD_at okX1_note_0 2 rfl
theorem dX1_note_7 : decode cX1_note 7 = .ok (.iconst (-1), 1) := chkD_at okX1_note_0 3 rfl
theorem dX1_note_8 : decode cX1_note 8 = .ok (.ireturn, 1) := chkD_at okX1_note_0 4 rfl
theorem dX1_note_9 : decode cX1_note 9 = .ok (.aload_n 0, 1) := chkD_at okX1_note_0 5 rfl
theorem dX1_note_10 : decode cX1_note 10 = .ok (.getfield 24, 3) := chkD_at okX1_note_0 6 rfl
theorem dX1_note_13 : decode cX1_note 13 = .ok (.aload_n 0, 1) := chkD_at okX1_note_0 7 rfl
theorem dX1_note_14 : decode cX1_note 14 = .ok (.getfield 33, 3) := chkD_at okX1_note_0 8 rfl
theorem dX1_note_17 : decode cX1_note 17 = .ok (.iload_n 1, 1) := chkD_at okX1_note_0 9 rfl
theorem dX1_note_18 : decode cX1_note 18 = .ok (.iastore, 1) := chkD_at okX1_note_0 10 rfl
theorem dX1_note_19 : decode cX1_note 19 = .ok (.aload_n 0, 1) := chkD_at okX1_note_0 11 rfl
theorem dX1_note_20 : decode cX1_note 20 = .ok (.getfield 27, 3) := chkD_at okX1_note_0 12 rfl
theorem dX1_note_23 : decode cX1_note 23 = .ok (.aload_n 0, 1) := chkD_at okX1_note_0 13 rfl
theorem dX1_note_24 : decode cX1_note 24 = .ok (.getfield 33, 3) := chkD_at okX1_note_0 14 rfl
theorem dX1_note_27 : decode cX1_note 27 = .ok (.iload_n 2, 1) := chkD_at okX1_note_0 15 rfl
theorem dX1_note_28 : decode cX1_note 28 = .ok (.iastore, 1) := chkD_at okX1_note_0 16 rfl
theorem dX1_note_29 : decode cX1_note 29 = .ok (.aload_n 0, 1) := chkD_at okX1_note_0 17 rfl
theorem dX1_note_30 : decode cX1_note 30 = .ok (.getfield 30, 3) := chkD_at okX1_note_0 18 rfl
theorem dX1_note_33 : decode cX1_note 33 = .ok (.aload_n 0, 1) := chkD_at okX1_note_0 19 rfl
theorem dX1_note_34 : decode cX1_note 34 = .ok (.getfield 33, 3) := chkD_at okX1_note_0 20 rfl
theorem dX1_note_37 : decode cX1_note 37 = .ok (.aload_n 0, 1) := chkD_at okX1_note_0 21 rfl
theorem dX1_note_38 : decode cX1_note 38 = .ok (.getfield 40, 3) := chkD_at okX1_note_0 22 rfl
theorem dX1_note_41 : decode cX1_note 41 = .ok (.iastore, 1) := chkD_at okX1_note_0 23 rfl
theorem dX1_note_42 : decode cX1_note 42 = .ok (.aload_n 0, 1) := chkD_at okX1_note_0 24 rfl
theorem dX1_note_43 : decode cX1_note 43 = .ok (.dup, 1) := chkD_at okX1_note_0 25 rfl
theorem dX1_note_44 : decode cX1_note 44 = .ok (.getfield 33, 3) := chkD_at okX1_note_0 26 rfl
theorem dX1_note_47 : decode cX1_note 47 = .ok (.iconst 1, 1) := chkD_at okX1_note_0 27 rfl
theorem dX1_note_48 : decode cX1_note 48 = .ok (.iadd, 1) := chkD_at okX1_note_0 28 rfl
theorem dX1_note_49 : decode cX1_note 49 = .ok (.putfield 33, 3) := chkD_at okX1_note_0 29 rfl
theorem dX1_note_52 : decode cX1_note 52 = .ok (.aload_n 0, 1) := chkD_at okX1_note_0 30 rfl
theorem dX1_note_53 : decode cX1_note 53 = .ok (.getfield 33, 3) := chkD_at okX1_note_0 31 rfl
theorem dX1_note_56 : decode cX1_note 56 = .ok (.iconst 1, 1) := chkD_at okX1_note_0 32 rfl
theorem dX1_note_57 : decode cX1_note 57 = .ok (.isub, 1) := chkD_at okX1_note_0 33 rfl
theorem dX1_note_58 : decode cX1_note 58 = .ok (.ireturn, 1) := chkD_at okX1_note_0 34 rfl
theorem okX1_haveMeal_0 : chkD cX1_haveMeal [(0, .aload_n 0, 1), (1, .iload_n 1, 1), (2, .iload_n 2, 1), (3, .invokevirtual 85, 3), (6, .istore_n 3, 1), (7, .aload_n 0, 1), (8, .getfield 9, 3), (11, .iload_n 2, 1), (12, .invokestatic 88, 3), (15, .aload_n 0, 1), (16, .dup, 1), (17, .getfield 40, 3), (20, .iconst 1, 1), (21, .iadd, 1), (22, .putfield 40, 3), (25, .iload_n 3, 1), (26, .ireturn, 1)] = true := by decide +kernel
theorem dX1_haveMeal_0 : decode cX1_haveMeal 0 = .ok (.aload_n 0, 1) := chkD_at okX1_haveMeal_0 0 rfl
theorem dX1_haveMeal_1 : decode cX1_haveMeal 1 = .ok (.iload_n 1, 1) := chkD_at okX1_haveMeal_0 1 rfl
theorem dX1_haveMeal_2 : decode cX1_haveMeal 2 = .ok (.iload_n 2, 1) := chkD_at okX1_haveMeal_0 2 rfl
theorem dX1_haveMeal_3 : decode cX1_haveMeal 3 = .ok (.invokevirtual 85, 3) := chkD_at okX1_haveMeal_0 3 rfl
theorem dX1_haveMeal_6 : decode cX1_haveMeal 6 = .ok (.istore_n 3, 1) := chkD_at okX1_haveMeal_0 4 rfl
theorem dX1_haveMeal_7 : decode cX1_haveMeal 7 = .ok (.aload_n 0, 1) := chkD_at okX1_haveMeal_0 5 rfl
theorem dX1_haveMeal_8 : decode cX1_haveMeal 8 = .ok (.getfield 9, 3) := chkD_at okX1_haveMeal_0 6 rfl
theorem dX1_haveMeal_11 : decode cX1_haveMeal 11 = .ok (.iload_n 2, 1) := chkD_at okX1_haveMeal_0 7 rfl
theorem dX1_haveMeal_12 : decode cX1_haveMeal 12 = .ok (.invokestatic 88, 3) := chkD_at okX1_haveMeal_0 8 rfl
theorem dX1_haveMeal_15 : decode cX1_haveMeal 15 = .ok (.aload_n 0, 1) := chkD_at okX1_haveMeal_0 9 rfl
theorem dX1_haveMeal_16 : decode cX1_haveMeal 16 = .ok (.dup, 1) := chkD_at okX1_haveMeal_0 10 rfl
theorem dX1_haveMeal_17 : decode cX1_haveMeal 17 = .ok (.getfield 40, 3) := chkD_at okX1_haveMeal_0 11 rfl
theorem dX1_haveMeal_20 : decode cX1_haveMeal 20 = .ok (.iconst 1, 1) := chkD_at okX1_haveMeal_0 12 rfl
theorem dX1_haveMeal_21 : decode cX1_haveMeal 21 = .ok (.iadd, 1) := chkD_at okX1_haveMeal_0 13 rfl
theorem dX1_haveMeal_22 : decode cX1_haveMeal 22 = .ok (.putfield 40, 3) := chkD_at okX1_haveMeal_0 14 rfl
theorem dX1_haveMeal_25 : decode cX1_haveMeal 25 = .ok (.iload_n 3, 1) := chkD_at okX1_haveMeal_0 15 rfl
theorem dX1_haveMeal_26 : decode cX1_haveMeal 26 = .ok (.ireturn, 1) := chkD_at okX1_haveMeal_0 16 rfl
theorem okX1_isBarredBy_0 : chkD cX1_isBarredBy [(0, .aload_n 0, 1), (1, .getfield 24, 3), (4, .iload_n 1, 1), (5, .iaload, 1), (6, .aload_n 0, 1), (7, .getfield 27, 3), (10, .iload_n 1, 1), (11, .iaload, 1), (12, .iload_n 2, 1), (13, .aload_n 0, 1), (14, .getfield 37, 3), (17, .invokestatic 91, 3), (20, .ireturn, 1)] = true := by decide +kernel
theorem dX1_isBarredBy_0 : decode cX1_isBarredBy 0 = .ok (.aload_n 0, 1) := chkD_at okX1_isBarredBy_0 0 rfl
theorem dX1_isBarredBy_1 : decode cX1_isBarredBy 1 = .ok (.getfield 24, 3) := chkD_at okX1_isBarredBy_0 1 rfl
theorem dX1_isBarredBy_4 : decode cX1_isBarredBy 4 = .ok (.iload_n 1, 1) := chkD_at okX1_isBarredBy_0 2 rfl
theorem dX1_isBarredBy_5 : decode cX1_isBarredBy 5 = .ok (.iaload, 1) := chkD_at okX1_isBarredBy_0 3 rfl
theorem dX1_isBarredBy_6 : decode cX1_isBarredBy 6 = .ok (.aload_n 0, 1) := chkD_at okX1_isBarredBy_0 4 rfl
theorem dX1_isBarredBy_7 : decode cX1_isBarredBy 7 = .ok (.getfield 27, 3) := chkD_at okX1_isBarredBy_0 5 rfl
theorem dX1_isBarredBy_10 : decode cX1_isBarredBy 10 = .ok (.iload_n 1, 1) := chkD_at okX1_isBarredBy_0 6 rfl
theorem dX1_isBarredBy_11 : decode cX1_isBarredBy 11 = .ok (.iaload, 1) := chkD_at okX1_isBarredBy_0 7 rfl
theorem dX1_isBarredBy_12 : decode cX1_isBarredBy 12 = .ok (.iload_n 2, 1) := chkD_at okX1_isBarredBy_0 8 rfl
theorem dX1_isBarredBy_13 : decode cX1_isBarredBy 13 = .ok (.aload_n 0, 1) := chkD_at okX1_isBarredBy_0 9 rfl
theorem dX1_isBarredBy_14 : decode cX1_isBarredBy 14 = .ok (.getfield 37, 3) := chkD_at okX1_isBarredBy_0 10 rfl
theorem dX1_isBarredBy_17 : decode cX1_isBarredBy 17 = .ok (.invokestatic 91, 3) := chkD_at okX1_isBarredBy_0 11 rfl
theorem dX1_isBarredBy_20 : decode cX1_isBarredBy 20 = .ok (.ireturn, 1) := chkD_at okX1_isBarredBy_0 12 rfl
theorem okX1_firstBarring_0 : chkD cX1_firstBarring [(0, .iconst 0, 1), (1, .istore_n 3, 1), (2, .iload_n 3, 1), (3, .iload_n 2, 1), (4, .if_icmp .ge 28, 3), (7, .iload_n 3, 1), (8, .aload_n 0, 1), (9, .getfield 33, 3), (12, .if_icmp .ge 20, 3), (15, .aload_n 0, 1), (16, .iload_n 3, 1), (17, .iload_n 1, 1), (18, .invokevirtual 95, 3), (21, .ifCond .eq 5, 3), (24, .iload_n 3, 1), (25, .ireturn, 1), (26, .iinc 3 1, 3), (29, .goto (-27), 3), (32, .iconst (-1), 1), (33, .ireturn, 1)] = true := by decide +kernel
theorem dX1_firstBarring_0 : decode cX1_firstBarring 0 = .ok (.iconst 0, 1) := chkD_at okX1_firstBarring_0 0 rfl
theorem dX1_firstBarring_1 : decode cX1_firstBarring 1 = .ok (.istore_n 3, 1) := chkD_at okX1_firstBarring_0 1 rfl
theorem dX1_firstBarring_2 : decode cX1_firstBarring 2 = .ok (.iload_n 3, 1) := chkD_at okX1_firstBarring_0 2 rfl
theorem dX1_firstBarring_3 : decode cX1_firstBarring 3 = .ok (.iload_n 2, 1) := chkD_at okX1_firstBarring_0 3 rfl
theorem dX1_firstBarring_4 : decode cX1_firstBarring 4 = .ok (.if_icmp .ge 28, 3) := chkD_at okX1_firstBarring_0 4 rfl
theorem dX1_firstBarring_7 : decode cX1_firstBarring 7 = .ok (.iload_n 3, 1) := chkD_at okX1_firstBarring_0 5 rfl
theorem dX1_firstBarring_8 : decode cX1_firstBarring 8 = .ok (.aload_n 0, 1) := chkD_at okX1_firstBarring_0 6 rfl
theorem dX1_firstBarring_9 : decode cX1_firstBarring 9 = .ok (.getfield 33, 3) := chkD_at okX1_firstBarring_0 7 rfl
theorem dX1_firstBarring_12 : decode cX1_firstBarring 12 = .ok (.if_icmp .ge 20, 3) := chkD_at okX1_firstBarring_0 8 rfl
theorem dX1_firstBarring_15 : decode cX1_firstBarring 15 = .ok (.aload_n 0, 1) := chkD_at okX1_firstBarring_0 9 rfl
theorem dX1_firstBarring_16 : decode cX1_firstBarring 16 = .ok (.iload_n 3, 1) := chkD_at okX1_firstBarring_0 10 rfl
theorem dX1_firstBarring_17 : decode cX1_firstBarring 17 = .ok (.iload_n 1, 1) := chkD_at okX1_firstBarring_0 11 rfl
theorem dX1_firstBarring_18 : decode cX1_firstBarring 18 = .ok (.invokevirtual 95, 3) := chkD_at okX1_firstBarring_0 12 rfl
theorem dX1_firstBarring_21 : decode cX1_firstBarring 21 = .ok (.ifCond .eq 5, 3) := chkD_at okX1_firstBarring_0 13 rfl
theorem dX1_firstBarring_24 : decode cX1_firstBarring 24 = .ok (.iload_n 3, 1) := chkD_at okX1_firstBarring_0 14 rfl
theorem dX1_firstBarring_25 : decode cX1_firstBarring 25 = .ok (.ireturn, 1) := chkD_at okX1_firstBarring_0 15 rfl
theorem dX1_firstBarring_26 : decode cX1_firstBarring 26 = .ok (.iinc 3 1, 3) := chkD_at okX1_firstBarring_0 16 rfl
theorem dX1_firstBarring_29 : decode cX1_firstBarring 29 = .ok (.goto (-27), 3) := chkD_at okX1_firstBarring_0 17 rfl
theorem dX1_firstBarring_32 : decode cX1_firstBarring 32 = .ok (.iconst (-1), 1) := chkD_at okX1_firstBarring_0 18 rfl
theorem dX1_firstBarring_33 : decode cX1_firstBarring 33 = .ok (.ireturn, 1) := chkD_at okX1_firstBarring_0 19 rfl
theorem okX1_firstBreach_0 : chkD cX1_firstBreach [(0, .iconst 0, 1), (1, .istore_n 1, 1), (2, .iload_n 1, 1), (3, .aload_n 0, 1), (4, .getfield 33, 3), (7, .if_icmp .ge 35, 3), (10, .aload_n 0, 1), (11, .getfield 24, 3), (14, .iload_n 1, 1), (15, .iaload, 1), (16, .iconst 2, 1), (17, .if_icmp .eq 19, 3), (20, .aload_n 0, 1), (21, .aload_n 0, 1), (22, .getfield 27, 3), (25, .iload_n 1, 1), (26, .iaload, 1), (27, .iload_n 1, 1), (28, .invokevirtual 73, 3), (31, .ifCond .lt 5, 3), (34, .iload_n 1, 1), (35, .ireturn, 1), (36, .iinc 1 1, 3), (39, .goto (-37), 3), (42, .iconst (-1), 1), (43, .ireturn, 1)] = true := by decide +kernel
theorem dX1_firstBreach_0 : decode cX1_firstBreach 0 = .ok (.iconst 0, 1) := chkD_at okX1_firstBreach_0 0 rfl
theorem dX1_firstBreach_1 : decode cX1_firstBreach 1 = .ok (.istore_n 1, 1) := chkD_at okX1_firstBreach_0 1 rfl
theorem dX1_firstBreach_2 : decode cX1_firstBreach 2 = .ok (.iload_n 1, 1) := chkD_at okX1_firstBreach_0 2 rfl
theorem dX1_firstBreach_3 : decode cX1_firstBreach 3 = .ok (.aload_n 0, 1) := chkD_at okX1_firstBreach_0 3 rfl
theorem dX1_firstBreach_4 : decode cX1_firstBreach 4 = .ok (.getfield 33, 3) := chkD_at okX1_firstBreach_0 4 rfl
theorem dX1_firstBreach_7 : decode cX1_firstBreach 7 = .ok (.if_icmp .ge 35, 3) := chkD_at okX1_firstBreach_0 5 rfl
theorem dX1_firstBreach_10 : decode cX1_firstBreach 10 = .ok (.aload_n 0, 1) := chkD_at okX1_firstBreach_0 6 rfl
theorem dX1_firstBreach_11 : decode cX1_firstBreach 11 = .ok (.getfield 24, 3) := chkD_at okX1_firstBreach_0 7 rfl
theorem dX1_firstBreach_14 : decode cX1_firstBreach 14 = .ok (.iload_n 1, 1) := chkD_at okX1_firstBreach_0 8 rfl
theorem dX1_firstBreach_15 : decode cX1_firstBreach 15 = .ok (.iaload, 1) := chkD_at okX1_firstBreach_0 9 rfl
theorem dX1_firstBreach_16 : decode cX1_firstBreach 16 = .ok (.iconst 2, 1) := chkD_at okX1_firstBreach_0 10 rfl
theorem dX1_firstBreach_17 : decode cX1_firstBreach 17 = .ok (.if_icmp .eq 19, 3) := chkD_at okX1_firstBreach_0 11 rfl
theorem dX1_firstBreach_20 : decode cX1_firstBreach 20 = .ok (.aload_n 0, 1) := chkD_at okX1_firstBreach_0 12 rfl
theorem dX1_firstBreach_21 : decode cX1_firstBreach 21 = .ok (.aload_n 0, 1) := chkD_at okX1_firstBreach_0 13 rfl
theorem dX1_firstBreach_22 : decode cX1_firstBreach 22 = .ok (.getfield 27, 3) := chkD_at okX1_firstBreach_0 14 rfl
theorem dX1_firstBreach_25 : decode cX1_firstBreach 25 = .ok (.iload_n 1, 1) := chkD_at okX1_firstBreach_0 15 rfl
theorem dX1_firstBreach_26 : decode cX1_firstBreach 26 = .ok (.iaload, 1) := chkD_at okX1_firstBreach_0 16 rfl
theorem dX1_firstBreach_27 : decode cX1_firstBreach 27 = .ok (.iload_n 1, 1) := chkD_at okX1_firstBreach_0 17 rfl
theorem dX1_firstBreach_28 : decode cX1_firstBreach 28 = .ok (.invokevirtual 73, 3) := chkD_at okX1_firstBreach_0 18 rfl
theorem dX1_firstBreach_31 : decode cX1_firstBreach 31 = .ok (.ifCond .lt 5, 3) := chkD_at okX1_firstBreach_0 19 rfl
theorem dX1_firstBreach_34 : decode cX1_firstBreach 34 = .ok (.iload_n 1, 1) := chkD_at okX1_firstBreach_0 20 rfl
theorem dX1_firstBreach_35 : decode cX1_firstBreach 35 = .ok (.ireturn, 1) := chkD_at okX1_firstBreach_0 21 rfl
theorem dX1_firstBreach_36 : decode cX1_firstBreach 36 = .ok (.iinc 1 1, 3) := chkD_at okX1_firstBreach_0 22 rfl
theorem dX1_firstBreach_39 : decode cX1_firstBreach 39 = .ok (.goto (-37), 3) := chkD_at okX1_firstBreach_0 23 rfl
theorem dX1_firstBreach_42 : decode cX1_firstBreach 42 = .ok (.iconst (-1), 1) := chkD_at okX1_firstBreach_0 24 rfl
theorem dX1_firstBreach_43 : decode cX1_firstBreach 43 = .ok (.ireturn, 1) := chkD_at okX1_firstBreach_0 25 rfl
theorem okX1_hadNear_0 : chkD cX1_hadNear [(0, .iconst 0, 1), (1, .istore_n 3, 1), (2, .iconst 0, 1), (3, .istore 4, 2), (5, .iload 4, 2), (7, .aload_n 0, 1), (8, .getfield 33, 3), (11, .if_icmp .ge 38, 3), (14, .aload_n 0, 1), (15, .getfield 24, 3), (18, .iload 4, 2), (20, .iaload, 1), (21, .iconst 2, 1), (22, .if_icmp .eq 21, 3), (25, .aload_n 0, 1), (26, .getfield 27, 3), (29, .iload 4, 2), (31, .iaload, 1), (32, .iload_n 1, 1), (33, .invokestatic 98, 3), (36, .iload_n 2, 1), (37, .if_icmp .gt 6, 3), (40, .iinc 3 1, 3), (43, .iinc 4 1, 3), (46, .goto (-41), 3), (49, .iload_n 3, 1), (50, .ireturn, 1)] = true := by decide +kernel
theorem dX1_hadNear_0 : decode cX1_hadNear 0 = .ok (.iconst 0, 1) := chkD_at okX1_hadNear_0 0 rfl
theorem dX1_hadNear_1 : decode cX1_hadNear 1 = .ok (.istore_n 3, 1) := chkD_at okX1_hadNear_0 1 rfl
theorem dX1_hadNear_2 : decode cX1_hadNear 2 = .ok (.iconst 0, 1) := chkD_at okX1_hadNear_0 2 rfl
theorem dX1_hadNear_3 : decode cX1_hadNear 3 = .ok (.istore 4, 2) := chkD_at okX1_hadNear_0 3 rfl
theorem dX1_hadNear_5 : decode cX1_hadNear 5 = .ok (.iload 4, 2) := chkD_at okX1_hadNear_0 4 rfl
theorem dX1_hadNear_7 : decode cX1_hadNear 7 = .ok (.aload_n 0, 1) := chkD_at okX1_hadNear_0 5 rfl
theorem dX1_hadNear_8 : decode cX1_hadNear 8 = .ok (.getfield 33, 3) := chkD_at okX1_hadNear_0 6 rfl
theorem dX1_hadNear_11 : decode cX1_hadNear 11 = .ok (.if_icmp .ge 38, 3) := chkD_at okX1_hadNear_0 7 rfl
theorem dX1_hadNear_14 : decode cX1_hadNear 14 = .ok (.aload_n 0, 1) := chkD_at okX1_hadNear_0 8 rfl
theorem dX1_hadNear_15 : decode cX1_hadNear 15 = .ok (.getfield 24, 3) := chkD_at okX1_hadNear_0 9 rfl
theorem dX1_hadNear_18 : decode cX1_hadNear 18 = .ok (.iload 4, 2) := chkD_at okX1_hadNear_0 10 rfl
theorem dX1_hadNear_20 : decode cX1_hadNear 20 = .ok (.iaload, 1) := chkD_at okX1_hadNear_0 11 rfl
theorem dX1_hadNear_21 : decode cX1_hadNear 21 = .ok (.iconst 2, 1) := chkD_at okX1_hadNear_0 12 rfl
theorem dX1_hadNear_22 : decode cX1_hadNear 22 = .ok (.if_icmp .eq 21, 3) := chkD_at okX1_hadNear_0 13 rfl
theorem dX1_hadNear_25 : decode cX1_hadNear 25 = .ok (.aload_n 0, 1) := chkD_at okX1_hadNear_0 14 rfl
theorem dX1_hadNear_26 : decode cX1_hadNear 26 = .ok (.getfield 27, 3) := chkD_at okX1_hadNear_0 15 rfl
theorem dX1_hadNear_29 : decode cX1_hadNear 29 = .ok (.iload 4, 2) := chkD_at okX1_hadNear_0 16 rfl
theorem dX1_hadNear_31 : decode cX1_hadNear 31 = .ok (.iaload, 1) := chkD_at okX1_hadNear_0 17 rfl
theorem dX1_hadNear_32 : decode cX1_hadNear 32 = .ok (.iload_n 1, 1) := chkD_at okX1_hadNear_0 18 rfl
theorem dX1_hadNear_33 : decode cX1_hadNear 33 = .ok (.invokestatic 98, 3) := chkD_at okX1_hadNear_0 19 rfl
theorem dX1_hadNear_36 : decode cX1_hadNear 36 = .ok (.iload_n 2, 1) := chkD_at okX1_hadNear_0 20 rfl
theorem dX1_hadNear_37 : decode cX1_hadNear 37 = .ok (.if_icmp .gt 6, 3) := chkD_at okX1_hadNear_0 21 rfl
theorem dX1_hadNear_40 : decode cX1_hadNear 40 = .ok (.iinc 3 1, 3) := chkD_at okX1_hadNear_0 22 rfl
theorem dX1_hadNear_43 : decode cX1_hadNear 43 = .ok (.iinc 4 1, 3) := chkD_at okX1_hadNear_0 23 rfl
theorem dX1_hadNear_46 : decode cX1_hadNear 46 = .ok (.goto (-41), 3) := chkD_at okX1_hadNear_0 24 rfl
theorem dX1_hadNear_49 : decode cX1_hadNear 49 = .ok (.iload_n 3, 1) := chkD_at okX1_hadNear_0 25 rfl
theorem dX1_hadNear_50 : decode cX1_hadNear 50 = .ok (.ireturn, 1) := chkD_at okX1_hadNear_0 26 rfl
theorem okX1_guests_0 : chkD cX1_guests [(0, .iconst 0, 1), (1, .istore_n 1, 1), (2, .iconst 0, 1), (3, .istore_n 2, 1), (4, .iload_n 2, 1), (5, .aload_n 0, 1), (6, .getfield 33, 3), (9, .if_icmp .ge 22, 3), (12, .aload_n 0, 1), (13, .getfield 24, 3), (16, .iload_n 2, 1), (17, .iaload, 1), (18, .iconst 2, 1), (19, .if_icmp .ne 6, 3), (22, .iinc 1 1, 3), (25, .iinc 2 1, 3), (28, .goto (-24), 3), (31, .iload_n 1, 1), (32, .ireturn, 1)] = true := by decide +kernel
theorem dX1_guests_0 : decode cX1_guests 0 = .ok (.iconst 0, 1) := chkD_at okX1_guests_0 0 rfl
theorem dX1_guests_1 : decode cX1_guests 1 = .ok (.istore_n 1, 1) := chkD_at okX1_guests_0 1 rfl
theorem dX1_guests_2 : decode cX1_guests 2 = .ok (.iconst 0, 1) := chkD_at okX1_guests_0 2 rfl
theorem dX1_guests_3 : decode cX1_guests 3 = .ok (.istore_n 2, 1) := chkD_at okX1_guests_0 3 rfl
theorem dX1_guests_4 : decode cX1_guests 4 = .ok (.iload_n 2, 1) := chkD_at okX1_guests_0 4 rfl
theorem dX1_guests_5 : decode cX1_guests 5 = .ok (.aload_n 0, 1) := chkD_at okX1_guests_0 5 rfl
theorem dX1_guests_6 : decode cX1_guests 6 = .ok (.getfield 33, 3) := chkD_at okX1_guests_0 6 rfl
theorem dX1_guests_9 : decode cX1_guests 9 = .ok (.if_icmp .ge 22, 3) := chkD_at okX1_guests_0 7 rfl
theorem dX1_guests_12 : decode cX1_guests 12 = .ok (.aload_n 0, 1) := chkD_at okX1_guests_0 8 rfl
theorem dX1_guests_13 : decode cX1_guests 13 = .ok (.getfield 24, 3) := chkD_at okX1_guests_0 9 rfl
theorem dX1_guests_16 : decode cX1_guests 16 = .ok (.iload_n 2, 1) := chkD_at okX1_guests_0 10 rfl
theorem dX1_guests_17 : decode cX1_guests 17 = .ok (.iaload, 1) := chkD_at okX1_guests_0 11 rfl
theorem dX1_guests_18 : decode cX1_guests 18 = .ok (.iconst 2, 1) := chkD_at okX1_guests_0 12 rfl
theorem dX1_guests_19 : decode cX1_guests 19 = .ok (.if_icmp .ne 6, 3) := chkD_at okX1_guests_0 13 rfl
theorem dX1_guests_22 : decode cX1_guests 22 = .ok (.iinc 1 1, 3) := chkD_at okX1_guests_0 14 rfl
theorem dX1_guests_25 : decode cX1_guests 25 = .ok (.iinc 2 1, 3) := chkD_at okX1_guests_0 15 rfl
theorem dX1_guests_28 : decode cX1_guests 28 = .ok (.goto (-24), 3) := chkD_at okX1_guests_0 16 rfl
theorem dX1_guests_31 : decode cX1_guests 31 = .ok (.iload_n 1, 1) := chkD_at okX1_guests_0 17 rfl
theorem dX1_guests_32 : decode cX1_guests 32 = .ok (.ireturn, 1) := chkD_at okX1_guests_0 18 rfl
theorem okX1_allStores_0 : chkD cX1_allStores [(0, .iconst 0, 1), (1, .istore_n 1, 1), (2, .iconst 0, 1), (3, .istore_n 2, 1), (4, .iload_n 2, 1), (5, .bipush 8, 2), (7, .if_icmp .ge 18, 3), (10, .iload_n 1, 1), (11, .aload_n 0, 1), (12, .getfield 9, 3), (15, .iload_n 2, 1), (16, .iaload, 1), (17, .iadd, 1), (18, .istore_n 1, 1), (19, .iinc 2 1, 3), (22, .goto (-18), 3), (25, .iload_n 1, 1), (26, .ireturn, 1)] = true := by decide +kernel
theorem dX1_allStores_0 : decode cX1_allStores 0 = .ok (.iconst 0, 1) := chkD_at okX1_allStores_0 0 rfl
theorem dX1_allStores_1 : decode cX1_allStores 1 = .ok (.istore_n 1, 1) := chkD_at okX1_allStores_0 1 rfl
theorem dX1_allStores_2 : decode cX1_allStores 2 = .ok (.iconst 0, 1) := chkD_at okX1_allStores_0 2 rfl
theorem dX1_allStores_3 : decode cX1_allStores 3 = .ok (.istore_n 2, 1) := chkD_at okX1_allStores_0 3 rfl
theorem dX1_allStores_4 : decode cX1_allStores 4 = .ok (.iload_n 2, 1) := chkD_at okX1_allStores_0 4 rfl
theorem dX1_allStores_5 : decode cX1_allStores 5 = .ok (.bipush 8, 2) := chkD_at okX1_allStores_0 5 rfl
theorem dX1_allStores_7 : decode cX1_allStores 7 = .ok (.if_icmp .ge 18, 3) := chkD_at okX1_allStores_0 6 rfl
theorem dX1_allStores_10 : decode cX1_allStores 10 = .ok (.iload_n 1, 1) := chkD_at okX1_allStores_0 7 rfl
theorem dX1_allStores_11 : decode cX1_allStores 11 = .ok (.aload_n 0, 1) := chkD_at okX1_allStores_0 8 rfl
theorem dX1_allStores_12 : decode cX1_allStores 12 = .ok (.getfield 9, 3) := chkD_at okX1_allStores_0 9 rfl
theorem dX1_allStores_15 : decode cX1_allStores 15 = .ok (.iload_n 2, 1) := chkD_at okX1_allStores_0 10 rfl
theorem dX1_allStores_16 : decode cX1_allStores 16 = .ok (.iaload, 1) := chkD_at okX1_allStores_0 11 rfl
theorem dX1_allStores_17 : decode cX1_allStores 17 = .ok (.iadd, 1) := chkD_at okX1_allStores_0 12 rfl
theorem dX1_allStores_18 : decode cX1_allStores 18 = .ok (.istore_n 1, 1) := chkD_at okX1_allStores_0 13 rfl
theorem dX1_allStores_19 : decode cX1_allStores 19 = .ok (.iinc 2 1, 3) := chkD_at okX1_allStores_0 14 rfl
theorem dX1_allStores_22 : decode cX1_allStores 22 = .ok (.goto (-18), 3) := chkD_at okX1_allStores_0 15 rfl
theorem dX1_allStores_25 : decode cX1_allStores 25 = .ok (.iload_n 1, 1) := chkD_at okX1_allStores_0 16 rfl
theorem dX1_allStores_26 : decode cX1_allStores 26 = .ok (.ireturn, 1) := chkD_at okX1_allStores_0 17 rfl
theorem okX2_init_0 : chkD cX2_init [(0, .aload_n 0, 1), (1, .invokespecial 3, 3), (4, .aload_n 0, 1), (5, .bipush 8, 2), (7, .newarray .int, 2), (9, .putfield 9, 3), (12, .aload_n 0, 1), (13, .new 15, 3), (16, .dup, 1), (17, .invokespecial 17, 3), (20, .putfield 18, 3), (23, .aload_n 0, 1), (24, .iconst 0, 1), (25, .putfield 22, 3), (28, .aload_n 0, 1), (29, .sipush 256, 3), (32, .newarray .int, 2), (34, .putfield 26, 3), (37, .aload_n 0, 1), (38, .bipush 20, 2), (40, .newarray .int, 2), (42, .putfield 29, 3), (45, .aload_n 0, 1), (46, .bipush 20, 2), (48, .newarray .int, 2), (50, .putfield 32, 3), (53, .aload_n 0, 1), (54, .sipush 256, 3), (57, .newarray .int, 2), (59, .putfield 35, 3), (62, .aload_n 0, 1), (63, .getfield 35, 3), (66, .ldc 38, 2), (68, .invokestatic 39, 3), (71, .return_, 1)] = true := by decide +kernel
theorem dX2_init_0 : decode cX2_init 0 = .ok (.aload_n 0, 1) := chkD_at okX2_init_0 0 rfl
theorem dX2_init_1 : decode cX2_init 1 = .ok (.invokespecial 3, 3) := chkD_at okX2_init_0 1 rfl
theorem dX2_init_4 : decode cX2_init 4 = .ok (.aload_n 0, 1) := chkD_at okX2_init_0 2 rfl
theorem dX2_init_5 : decode cX2_init 5 = .ok (.bipush 8, 2) := chkD_at okX2_init_0 3 rfl
theorem dX2_init_7 : decode cX2_init 7 = .ok (.newarray .int, 2) := chkD_at okX2_init_0 4 rfl
theorem dX2_init_9 : decode cX2_init 9 = .ok (.putfield 9, 3) := chkD_at okX2_init_0 5 rfl
theorem dX2_init_12 : decode cX2_init 12 = .ok (.aload_n 0, 1) := chkD_at okX2_init_0 6 rfl
theorem dX2_init_13 : decode cX2_init 13 = .ok (.new 15, 3) := chkD_at okX2_init_0 7 rfl
theorem dX2_init_16 : decode cX2_init 16 = .ok (.dup, 1) := chkD_at okX2_init_0 8 rfl
theorem dX2_init_17 : decode cX2_init 17 = .ok (.invokespecial 17, 3) := chkD_at okX2_init_0 9 rfl
theorem dX2_init_20 : decode cX2_init 20 = .ok (.putfield 18, 3) := chkD_at okX2_init_0 10 rfl
theorem dX2_init_23 : decode cX2_init 23 = .ok (.aload_n 0, 1) := chkD_at okX2_init_0 11 rfl
theorem dX2_init_24 : decode cX2_init 24 = .ok (.iconst 0, 1) := chkD_at okX2_init_0 12 rfl
theorem dX2_init_25 : decode cX2_init 25 = .ok (.putfield 22, 3) := chkD_at okX2_init_0 13 rfl
theorem dX2_init_28 : decode cX2_init 28 = .ok (.aload_n 0, 1) := chkD_at okX2_init_0 14 rfl
theorem dX2_init_29 : decode cX2_init 29 = .ok (.sipush 256, 3) := chkD_at okX2_init_0 15 rfl
theorem dX2_init_32 : decode cX2_init 32 = .ok (.newarray .int, 2) := chkD_at okX2_init_0 16 rfl
theorem dX2_init_34 : decode cX2_init 34 = .ok (.putfield 26, 3) := chkD_at okX2_init_0 17 rfl
theorem dX2_init_37 : decode cX2_init 37 = .ok (.aload_n 0, 1) := chkD_at okX2_init_0 18 rfl
theorem dX2_init_38 : decode cX2_init 38 = .ok (.bipush 20, 2) := chkD_at okX2_init_0 19 rfl
theorem dX2_init_40 : decode cX2_init 40 = .ok (.newarray .int, 2) := chkD_at okX2_init_0 20 rfl
theorem dX2_init_42 : decode cX2_init 42 = .ok (.putfield 29, 3) := chkD_at okX2_init_0 21 rfl
theorem dX2_init_45 : decode cX2_init 45 = .ok (.aload_n 0, 1) := chkD_at okX2_init_0 22 rfl
theorem dX2_init_46 : decode cX2_init 46 = .ok (.bipush 20, 2) := chkD_at okX2_init_0 23 rfl
theorem dX2_init_48 : decode cX2_init 48 = .ok (.newarray .int, 2) := chkD_at okX2_init_0 24 rfl
theorem dX2_init_50 : decode cX2_init 50 = .ok (.putfield 32, 3) := chkD_at okX2_init_0 25 rfl
theorem dX2_init_53 : decode cX2_init 53 = .ok (.aload_n 0, 1) := chkD_at okX2_init_0 26 rfl
theorem dX2_init_54 : decode cX2_init 54 = .ok (.sipush 256, 3) := chkD_at okX2_init_0 27 rfl
theorem dX2_init_57 : decode cX2_init 57 = .ok (.newarray .int, 2) := chkD_at okX2_init_0 28 rfl
theorem dX2_init_59 : decode cX2_init 59 = .ok (.putfield 35, 3) := chkD_at okX2_init_0 29 rfl
theorem dX2_init_62 : decode cX2_init 62 = .ok (.aload_n 0, 1) := chkD_at okX2_init_0 30 rfl
theorem dX2_init_63 : decode cX2_init 63 = .ok (.getfield 35, 3) := chkD_at okX2_init_0 31 rfl
theorem dX2_init_66 : decode cX2_init 66 = .ok (.ldc 38, 2) := chkD_at okX2_init_0 32 rfl
theorem dX2_init_68 : decode cX2_init 68 = .ok (.invokestatic 39, 3) := chkD_at okX2_init_0 33 rfl
theorem dX2_init_71 : decode cX2_init 71 = .ok (.return_, 1) := chkD_at okX2_init_0 34 rfl
theorem okX2_begin_0 : chkD cX2_begin [(0, .aload_n 1, 1), (1, .getfield 45, 3), (4, .iconst 0, 1), (5, .aload_n 0, 1), (6, .getfield 9, 3), (9, .iconst 0, 1), (10, .bipush 8, 2), (12, .invokestatic 50, 3), (15, .aload_n 0, 1), (16, .aload_n 1, 1), (17, .getfield 56, 3), (20, .putfield 22, 3), (23, .aload_n 0, 1), (24, .getfield 18, 3), (27, .aload_n 1, 1), (28, .aload_n 0, 1), (29, .getfield 22, 3), (32, .invokevirtual 57, 3), (35, .aload_n 0, 1), (36, .aload_n 1, 1), (37, .getfield 61, 3), (40, .invokevirtual 64, 3), (43, .aload_n 0, 1), (44, .aload_n 1, 1), (45, .invokevirtual 68, 3), (48, .aload_n 0, 1), (49, .invokevirtual 72, 3), (52, .return_, 1)] = true := by decide +kernel
theorem dX2_begin_0 : decode cX2_begin 0 = .ok (.aload_n 1, 1) := chkD_at okX2_begin_0 0 rfl
theorem dX2_begin_1 : decode cX2_begin 1 = .ok (.getfield 45, 3) := chkD_at okX2_begin_0 1 rfl
theorem dX2_begin_4 : decode cX2_begin 4 = .ok (.iconst 0, 1) := chkD_at okX2_begin_0 2 rfl
theorem dX2_begin_5 : decode cX2_begin 5 = .ok (.aload_n 0, 1) := chkD_at okX2_begin_0 3 rfl
theorem dX2_begin_6 : decode cX2_begin 6 = .ok (.getfield 9, 3) := chkD_at okX2_begin_0 4 rfl
theorem dX2_begin_9 : decode cX2_begin 9 = .ok (.iconst 0, 1) := chkD_at okX2_begin_0 5 rfl
theorem dX2_begin_10 : decode cX2_begin 10 = .ok (.bipush 8, 2) := chkD_at okX2_begin_0 6 rfl
theorem dX2_begin_12 : decode cX2_begin 12 = .ok (.invokestatic 50, 3) := chkD_at okX2_begin_0 7 rfl
theorem dX2_begin_15 : decode cX2_begin 15 = .ok (.aload_n 0, 1) := chkD_at okX2_begin_0 8 rfl
theorem dX2_begin_16 : decode cX2_begin 16 = .ok (.aload_n 1, 1) := chkD_at okX2_begin_0 9 rfl
theorem dX2_begin_17 : decode cX2_begin 17 = .ok (.getfield 56, 3) := chkD_at okX2_begin_0 10 rfl
theorem dX2_begin_20 : decode cX2_begin 20 = .ok (.putfield 22, 3) := chkD_at okX2_begin_0 11 rfl
theorem dX2_begin_23 : decode cX2_begin 23 = .ok (.aload_n 0, 1) := chkD_at okX2_begin_0 12 rfl
theorem dX2_begin_24 : decode cX2_begin 24 = .ok (.getfield 18, 3) := chkD_at okX2_begin_0 13 rfl
theorem dX2_begin_27 : decode cX2_begin 27 = .ok (.aload_n 1, 1) := chkD_at okX2_begin_0 14 rfl
theorem dX2_begin_28 : decode cX2_begin 28 = .ok (.aload_n 0, 1) := chkD_at okX2_begin_0 15 rfl
theorem dX2_begin_29 : decode cX2_begin 29 = .ok (.getfield 22, 3) := chkD_at okX2_begin_0 16 rfl
theorem dX2_begin_32 : decode cX2_begin 32 = .ok (.invokevirtual 57, 3) := chkD_at okX2_begin_0 17 rfl
theorem dX2_begin_35 : decode cX2_begin 35 = .ok (.aload_n 0, 1) := chkD_at okX2_begin_0 18 rfl
theorem dX2_begin_36 : decode cX2_begin 36 = .ok (.aload_n 1, 1) := chkD_at okX2_begin_0 19 rfl
theorem dX2_begin_37 : decode cX2_begin 37 = .ok (.getfield 61, 3) := chkD_at okX2_begin_0 20 rfl
theorem dX2_begin_40 : decode cX2_begin 40 = .ok (.invokevirtual 64, 3) := chkD_at okX2_begin_0 21 rfl
theorem dX2_begin_43 : decode cX2_begin 43 = .ok (.aload_n 0, 1) := chkD_at okX2_begin_0 22 rfl
theorem dX2_begin_44 : decode cX2_begin 44 = .ok (.aload_n 1, 1) := chkD_at okX2_begin_0 23 rfl
theorem dX2_begin_45 : decode cX2_begin 45 = .ok (.invokevirtual 68, 3) := chkD_at okX2_begin_0 24 rfl
theorem dX2_begin_48 : decode cX2_begin 48 = .ok (.aload_n 0, 1) := chkD_at okX2_begin_0 25 rfl
theorem dX2_begin_49 : decode cX2_begin 49 = .ok (.invokevirtual 72, 3) := chkD_at okX2_begin_0 26 rfl
theorem dX2_begin_52 : decode cX2_begin 52 = .ok (.return_, 1) := chkD_at okX2_begin_0 27 rfl
theorem okX2_weighSets_0 : chkD cX2_weighSets [(0, .iconst 0, 1), (1, .istore_n 2, 1), (2, .iload_n 2, 1), (3, .getstatic 75, 3), (6, .arraylength, 1), (7, .if_icmp .ge 58, 3), (10, .iconst 0, 1), (11, .istore_n 3, 1), (12, .iconst 0, 1), (13, .istore 4, 2), (15, .iload 4, 2), (17, .aload_n 1, 1), (18, .arraylength, 1), (19, .if_icmp .ge 29, 3), (22, .getstatic 75, 3), (25, .iload_n 2, 1), (26, .iaload, 1), (27, .iload 4, 2), (29, .invokestatic 78, 3), (32, .ifCond .eq 10, 3), (35, .iload_n 3, 1), (36, .aload_n 1, 1), (37, .iload 4, 2), (39, .iaload, 1), (40, .iadd, 1), (41, .istore_n 3, 1), (42, .iinc 4 1, 3), (45, .goto (-30), 3), (48, .aload_n 0, 1), (49, .getfield 26, 3), (52, .getstatic 75, 3), (55, .iload_n 2, 1), (56, .iaload, 1), (57, .iload_n 3, 1), (58, .iastore, 1), (59, .iinc 2 1, 3), (62, .goto (-60), 3), (65, .return_, 1)] = true := by decide +kernel
theorem dX2_weighSets_0 : decode cX2_weighSets 0 = .ok (.iconst 0, 1) := chkD_at okX2_weighSets_0 0 rfl
theorem dX2_weighSets_1 : decode cX2_weighSets 1 = .ok (.istore_n 2, 1) := chkD_at okX2_weighSets_0 1 rfl
theorem dX2_weighSets_2 : decode cX2_weighSets 2 = .ok (.iload_n 2, 1) := chkD_at okX2_weighSets_0 2 rfl
theorem dX2_weighSets_3 : decode cX2_weighSets 3 = .ok (.getstatic 75, 3) := chkD_at okX2_weighSets_0 3 rfl
theorem dX2_weighSets_6 : decode cX2_weighSets 6 = .ok (.arraylength, 1) := chkD_at okX2_weighSets_0 4 rfl
theorem dX2_weighSets_7 : decode cX2_weighSets 7 = .ok (.if_icmp .ge 58, 3) := chkD_at okX2_weighSets_0 5 rfl
theorem dX2_weighSets_10 : decode cX2_weighSets 10 = .ok (.iconst 0, 1) := chkD_at okX2_weighSets_0 6 rfl
theorem dX2_weighSets_11 : decode cX2_weighSets 11 = .ok (.istore_n 3, 1) := chkD_at okX2_weighSets_0 7 rfl
theorem dX2_weighSets_12 : decode cX2_weighSets 12 = .ok (.iconst 0, 1) := chkD_at okX2_weighSets_0 8 rfl
theorem dX2_weighSets_13 : decode cX2_weighSets 13 = .ok (.istore 4, 2) := chkD_at okX2_weighSets_0 9 rfl
theorem dX2_weighSets_15 : decode cX2_weighSets 15 = .ok (.iload 4, 2) := chkD_at okX2_weighSets_0 10 rfl
theorem dX2_weighSets_17 : decode cX2_weighSets 17 = .ok (.aload_n 1, 1) := chkD_at okX2_weighSets_0 11 rfl
theorem dX2_weighSets_18 : decode cX2_weighSets 18 = .ok (.arraylength, 1) := chkD_at okX2_weighSets_0 12 rfl
theorem dX2_weighSets_19 : decode cX2_weighSets 19 = .ok (.if_icmp .ge 29, 3) := chkD_at okX2_weighSets_0 13 rfl
theorem dX2_weighSets_22 : decode cX2_weighSets 22 = .ok (.getstatic 75, 3) := chkD_at okX2_weighSets_0 14 rfl
theorem dX2_weighSets_25 : decode cX2_weighSets 25 = .ok (.iload_n 2, 1) := chkD_at okX2_weighSets_0 15 rfl
theorem dX2_weighSets_26 : decode cX2_weighSets 26 = .ok (.iaload, 1) := chkD_at okX2_weighSets_0 16 rfl
theorem dX2_weighSets_27 : decode cX2_weighSets 27 = .ok (.iload 4, 2) := chkD_at okX2_weighSets_0 17 rfl
theorem dX2_weighSets_29 : decode cX2_weighSets 29 = .ok (.invokestatic 78, 3) := chkD_at okX2_weighSets_0 18 rfl
theorem dX2_weighSets_32 : decode cX2_weighSets 32 = .ok (.ifCond .eq 10, 3) := chkD_at okX2_weighSets_0 19 rfl
theorem dX2_weighSets_35 : decode cX2_weighSets 35 = .ok (.iload_n 3, 1) := chkD_at okX2_weighSets_0 20 rfl
theorem dX2_weighSets_36 : decode cX2_weighSets 36 = .ok (.aload_n 1, 1) := chkD_at okX2_weighSets_0 21 rfl
theorem dX2_weighSets_37 : decode cX2_weighSets 37 = .ok (.iload 4, 2) := chkD_at okX2_weighSets_0 22 rfl
theorem dX2_weighSets_39 : decode cX2_weighSets 39 = .ok (.iaload, 1) := chkD_at okX2_weighSets_0 23 rfl
theorem dX2_weighSets_40 : decode cX2_weighSets 40 = .ok (.iadd, 1) := chkD_at okX2_weighSets_0 24 rfl
theorem dX2_weighSets_41 : decode cX2_weighSets 41 = .ok (.istore_n 3, 1) := chkD_at okX2_weighSets_0 25 rfl
theorem dX2_weighSets_42 : decode cX2_weighSets 42 = .ok (.iinc 4 1, 3) := chkD_at okX2_weighSets_0 26 rfl
theorem dX2_weighSets_45 : decode cX2_weighSets 45 = .ok (.goto (-30), 3) := chkD_at okX2_weighSets_0 27 rfl
theorem dX2_weighSets_48 : decode cX2_weighSets 48 = .ok (.aload_n 0, 1) := chkD_at okX2_weighSets_0 28 rfl
theorem dX2_weighSets_49 : decode cX2_weighSets 49 = .ok (.getfield 26, 3) := chkD_at okX2_weighSets_0 29 rfl
theorem dX2_weighSets_52 : decode cX2_weighSets 52 = .ok (.getstatic 75, 3) := chkD_at okX2_weighSets_0 30 rfl
theorem dX2_weighSets_55 : decode cX2_weighSets 55 = .ok (.iload_n 2, 1) := chkD_at okX2_weighSets_0 31 rfl
theorem dX2_weighSets_56 : decode cX2_weighSets 56 = .ok (.iaload, 1) := chkD_at okX2_weighSets_0 32 rfl
theorem dX2_weighSets_57 : decode cX2_weighSets 57 = .ok (.iload_n 3, 1) := chkD_at okX2_weighSets_0 33 rfl
theorem dX2_weighSets_58 : decode cX2_weighSets 58 = .ok (.iastore, 1) := chkD_at okX2_weighSets_0 34 rfl
theorem dX2_weighSets_59 : decode cX2_weighSets 59 = .ok (.iinc 2 1, 3) := chkD_at okX2_weighSets_0 35 rfl
theorem dX2_weighSets_62 : decode cX2_weighSets 62 = .ok (.goto (-60), 3) := chkD_at okX2_weighSets_0 36 rfl
theorem dX2_weighSets_65 : decode cX2_weighSets 65 = .ok (.return_, 1) := chkD_at okX2_weighSets_0 37 rfl
theorem okX2_weighManners_0 : chkD cX2_weighManners [(0, .iconst 0, 1), (1, .istore_n 2, 1), (2, .iload_n 2, 1), (3, .bipush 20, 2), (5, .if_icmp .ge 34, 3), (8, .aload_n 0, 1), (9, .getfield 29, 3), (12, .iload_n 2, 1), (13, .aload_n 1, 1), (14, .getfield 82, 3), (17, .iload_n 2, 1), (18, .invokestatic 85, 3), (21, .iaload, 1), (22, .aload_n 1, 1), (23, .getfield 89, 3), (26, .iload_n 2, 1), (27, .invokestatic 92, 3), (30, .iaload, 1), (31, .iadd, 1), (32, .iastore, 1), (33, .iinc 2 1, 3), (36, .goto (-34), 3), (39, .return_, 1)] = true := by decide +kernel
theorem dX2_weighManners_0 : decode cX2_weighManners 0 = .ok (.iconst 0, 1) := chkD_at okX2_weighManners_0 0 rfl
theorem dX2_weighManners_1 : decode cX2_weighManners 1 = .ok (.istore_n 2, 1) := chkD_at okX2_weighManners_0 1 rfl
theorem dX2_weighManners_2 : decode cX2_weighManners 2 = .ok (.iload_n 2, 1) := chkD_at okX2_weighManners_0 2 rfl
theorem dX2_weighManners_3 : decode cX2_weighManners 3 = .ok (.bipush 20, 2) := chkD_at okX2_weighManners_0 3 rfl
theorem dX2_weighManners_5 : decode cX2_weighManners 5 = .ok (.if_icmp .ge 34, 3) := chkD_at okX2_weighManners_0 4 rfl
theorem dX2_weighManners_8 : decode cX2_weighManners 8 = .ok (.aload_n 0, 1) := chkD_at okX2_weighManners_0 5 rfl
theorem dX2_weighManners_9 : decode cX2_weighManners 9 = .ok (.getfield 29, 3) := chkD_at okX2_weighManners_0 6 rfl
theorem dX2_weighManners_12 : decode cX2_weighManners 12 = .ok (.iload_n 2, 1) := chkD_at okX2_weighManners_0 7 rfl
theorem dX2_weighManners_13 : decode cX2_weighManners 13 = .ok (.aload_n 1, 1) := chkD_at okX2_weighManners_0 8 rfl
theorem dX2_weighManners_14 : decode cX2_weighManners 14 = .ok (.getfield 82, 3) := chkD_at okX2_weighManners_0 9 rfl
theorem dX2_weighManners_17 : decode cX2_weighManners 17 = .ok (.iload_n 2, 1) := chkD_at okX2_weighManners_0 10 rfl
theorem dX2_weighManners_18 : decode cX2_weighManners 18 = .ok (.invokestatic 85, 3) := chkD_at okX2_weighManners_0 11 rfl
theorem dX2_weighManners_21 : decode cX2_weighManners 21 = .ok (.iaload, 1) := chkD_at okX2_weighManners_0 12 rfl
theorem dX2_weighManners_22 : decode cX2_weighManners 22 = .ok (.aload_n 1, 1) := chkD_at okX2_weighManners_0 13 rfl
theorem dX2_weighManners_23 : decode cX2_weighManners 23 = .ok (.getfield 89, 3) := chkD_at okX2_weighManners_0 14 rfl
theorem dX2_weighManners_26 : decode cX2_weighManners 26 = .ok (.iload_n 2, 1) := chkD_at okX2_weighManners_0 15 rfl
theorem dX2_weighManners_27 : decode cX2_weighManners 27 = .ok (.invokestatic 92, 3) := chkD_at okX2_weighManners_0 16 rfl
theorem dX2_weighManners_30 : decode cX2_weighManners 30 = .ok (.iaload, 1) := chkD_at okX2_weighManners_0 17 rfl
theorem dX2_weighManners_31 : decode cX2_weighManners 31 = .ok (.iadd, 1) := chkD_at okX2_weighManners_0 18 rfl
theorem dX2_weighManners_32 : decode cX2_weighManners 32 = .ok (.iastore, 1) := chkD_at okX2_weighManners_0 19 rfl
theorem dX2_weighManners_33 : decode cX2_weighManners 33 = .ok (.iinc 2 1, 3) := chkD_at okX2_weighManners_0 20 rfl
theorem dX2_weighManners_36 : decode cX2_weighManners 36 = .ok (.goto (-34), 3) := chkD_at okX2_weighManners_0 21 rfl
theorem dX2_weighManners_39 : decode cX2_weighManners 39 = .ok (.return_, 1) := chkD_at okX2_weighManners_0 22 rfl
theorem okX2_rankManners_0 : chkD cX2_rankManners [(0, .iconst 0, 1), (1, .istore_n 1, 1), (2, .iload_n 1, 1), (3, .bipush 20, 2), (5, .if_icmp .ge 64, 3), (8, .iload_n 1, 1), (9, .istore_n 2, 1), (10, .iload_n 2, 1), (11, .ifCond .le 45, 3), (14, .aload_n 0, 1), (15, .getfield 29, 3), (18, .aload_n 0, 1), (19, .getfield 32, 3), (22, .iload_n 2, 1), (23, .iconst 1, 1), (24, .isub, 1), (25, .iaload, 1), (26, .iaload, 1), (27, .aload_n 0, 1), (28, .getfield 29, 3), (31, .iload_n 1, 1), (32, .iaload, 1), (33, .if_icmp .ge 23, 3), (36, .aload_n 0, 1), (37, .getfield 32, 3), (40, .iload_n 2, 1), (41, .aload_n 0, 1), (42, .getfield 32, 3), (45, .iload_n 2, 1), (46, .iconst 1, 1), (47, .isub, 1), (48, .iaload, 1), (49, .iastore, 1), (50, .iinc 2 (-1), 3), (53, .goto (-43), 3), (56, .aload_n 0, 1), (57, .getfield 32, 3), (60, .iload_n 2, 1), (61, .iload_n 1, 1), (62, .iastore, 1), (63, .iinc 1 1, 3), (66, .goto (-64), 3), (69, .return_, 1)] = true := by decide +kernel
theorem dX2_rankManners_0 : decode cX2_rankManners 0 = .ok (.iconst 0, 1) := chkD_at okX2_rankManners_0 0 rfl
theorem dX2_rankManners_1 : decode cX2_rankManners 1 = .ok (.istore_n 1, 1) := chkD_at okX2_rankManners_0 1 rfl
theorem dX2_rankManners_2 : decode cX2_rankManners 2 = .ok (.iload_n 1, 1) := chkD_at okX2_rankManners_0 2 rfl
theorem dX2_rankManners_3 : decode cX2_rankManners 3 = .ok (.bipush 20, 2) := chkD_at okX2_rankManners_0 3 rfl
theorem dX2_rankManners_5 : decode cX2_rankManners 5 = .ok (.if_icmp .ge 64, 3) := chkD_at okX2_rankManners_0 4 rfl
theorem dX2_rankManners_8 : decode cX2_rankManners 8 = .ok (.iload_n 1, 1) := chkD_at okX2_rankManners_0 5 rfl
theorem dX2_rankManners_9 : decode cX2_rankManners 9 = .ok (.istore_n 2, 1) := chkD_at okX2_rankManners_0 6 rfl
theorem dX2_rankManners_10 : decode cX2_rankManners 10 = .ok (.iload_n 2, 1) := chkD_at okX2_rankManners_0 7 rfl
theorem dX2_rankManners_11 : decode cX2_rankManners 11 = .ok (.ifCond .le 45, 3) := chkD_at okX2_rankManners_0 8 rfl
theorem dX2_rankManners_14 : decode cX2_rankManners 14 = .ok (.aload_n 0, 1) := chkD_at okX2_rankManners_0 9 rfl
theorem dX2_rankManners_15 : decode cX2_rankManners 15 = .ok (.getfield 29, 3) := chkD_at okX2_rankManners_0 10 rfl
theorem dX2_rankManners_18 : decode cX2_rankManners 18 = .ok (.aload_n 0, 1) := chkD_at okX2_rankManners_0 11 rfl
theorem dX2_rankManners_19 : decode cX2_rankManners 19 = .ok (.getfield 32, 3) := chkD_at okX2_rankManners_0 12 rfl
theorem dX2_rankManners_22 : decode cX2_rankManners 22 = .ok (.iload_n 2, 1) := chkD_at okX2_rankManners_0 13 rfl
theorem dX2_rankManners_23 : decode cX2_rankManners 23 = .ok (.iconst 1, 1) := chkD_at okX2_rankManners_0 14 rfl
theorem dX2_rankManners_24 : decode cX2_rankManners 24 = .ok (.isub, 1) := chkD_at okX2_rankManners_0 15 rfl
theorem dX2_rankManners_25 : decode cX2_rankManners 25 = .ok (.iaload, 1) := chkD_at okX2_rankManners_0 16 rfl
theorem dX2_rankManners_26 : decode cX2_rankManners 26 = .ok (.iaload, 1) := chkD_at okX2_rankManners_0 17 rfl
theorem dX2_rankManners_27 : decode cX2_rankManners 27 = .ok (.aload_n 0, 1) := chkD_at okX2_rankManners_0 18 rfl
theorem dX2_rankManners_28 : decode cX2_rankManners 28 = .ok (.getfield 29, 3) := chkD_at okX2_rankManners_0 19 rfl
theorem dX2_rankManners_31 : decode cX2_rankManners 31 = .ok (.iload_n 1, 1) := chkD_at okX2_rankManners_0 20 rfl
theorem dX2_rankManners_32 : decode cX2_rankManners 32 = .ok (.iaload, 1) := chkD_at okX2_rankManners_0 21 rfl
theorem dX2_rankManners_33 : decode cX2_rankManners 33 = .ok (.if_icmp .ge 23, 3) := chkD_at okX2_rankManners_0 22 rfl
theorem dX2_rankManners_36 : decode cX2_rankManners 36 = .ok (.aload_n 0, 1) := chkD_at okX2_rankManners_0 23 rfl
theorem dX2_rankManners_37 : decode cX2_rankManners 37 = .ok (.getfield 32, 3) := chkD_at okX2_rankManners_0 24 rfl
theorem dX2_rankManners_40 : decode cX2_rankManners 40 = .ok (.iload_n 2, 1) := chkD_at okX2_rankManners_0 25 rfl
theorem dX2_rankManners_41 : decode cX2_rankManners 41 = .ok (.aload_n 0, 1) := chkD_at okX2_rankManners_0 26 rfl
theorem dX2_rankManners_42 : decode cX2_rankManners 42 = .ok (.getfield 32, 3) := chkD_at okX2_rankManners_0 27 rfl
theorem dX2_rankManners_45 : decode cX2_rankManners 45 = .ok (.iload_n 2, 1) := chkD_at okX2_rankManners_0 28 rfl
theorem dX2_rankManners_46 : decode cX2_rankManners 46 = .ok (.iconst 1, 1) := chkD_at okX2_rankManners_0 29 rfl
theorem dX2_rankManners_47 : decode cX2_rankManners 47 = .ok (.isub, 1) := chkD_at okX2_rankManners_0 30 rfl
theorem dX2_rankManners_48 : decode cX2_rankManners 48 = .ok (.iaload, 1) := chkD_at okX2_rankManners_0 31 rfl
theorem dX2_rankManners_49 : decode cX2_rankManners 49 = .ok (.iastore, 1) := chkD_at okX2_rankManners_0 32 rfl
theorem dX2_rankManners_50 : decode cX2_rankManners 50 = .ok (.iinc 2 (-1), 3) := chkD_at okX2_rankManners_0 33 rfl
theorem dX2_rankManners_53 : decode cX2_rankManners 53 = .ok (.goto (-43), 3) := chkD_at okX2_rankManners_0 34 rfl
theorem dX2_rankManners_56 : decode cX2_rankManners 56 = .ok (.aload_n 0, 1) := chkD_at okX2_rankManners_0 35 rfl
theorem dX2_rankManners_57 : decode cX2_rankManners 57 = .ok (.getfield 32, 3) := chkD_at okX2_rankManners_0 36 rfl
theorem dX2_rankManners_60 : decode cX2_rankManners 60 = .ok (.iload_n 2, 1) := chkD_at okX2_rankManners_0 37 rfl
theorem dX2_rankManners_61 : decode cX2_rankManners 61 = .ok (.iload_n 1, 1) := chkD_at okX2_rankManners_0 38 rfl
theorem dX2_rankManners_62 : decode cX2_rankManners 62 = .ok (.iastore, 1) := chkD_at okX2_rankManners_0 39 rfl
theorem dX2_rankManners_63 : decode cX2_rankManners 63 = .ok (.iinc 1 1, 3) := chkD_at okX2_rankManners_0 40 rfl
theorem dX2_rankManners_66 : decode cX2_rankManners 66 = .ok (.goto (-64), 3) := chkD_at okX2_rankManners_0 41 rfl
theorem dX2_rankManners_69 : decode cX2_rankManners 69 = .ok (.return_, 1) := chkD_at okX2_rankManners_0 42 rfl
theorem okX2_servableManners_0 : chkD cX2_servableManners [(0, .iload_n 1, 1), (1, .iload_n 2, 1), (2, .iconst (-1), 1), (3, .ixor, 1), (4, .iand, 1), (5, .ifCond .ne 20, 3), (8, .ldc 38, 2), (10, .aload_n 0, 1), (11, .getfield 18, 3), (14, .getfield 95, 3), (17, .iload_n 1, 1), (18, .iaload, 1), (19, .iconst (-1), 1), (20, .ixor, 1), (21, .iand, 1), (22, .goto 4, 3), (25, .iconst 0, 1), (26, .ireturn, 1)] = true := by decide +kernel
theorem dX2_servableManners_0 : decode cX2_servableManners 0 = .ok (.iload_n 1, 1) := chkD_at okX2_servableManners_0 0 rfl
theorem dX2_servableManners_1 : decode cX2_servableManners 1 = .ok (.iload_n 2, 1) := chkD_at okX2_servableManners_0 1 rfl
theorem dX2_servableManners_2 : decode cX2_servableManners 2 = .ok (.iconst (-1), 1) := chkD_at okX2_servableManners_0 2 rfl
theorem dX2_servableManners_3 : decode cX2_servableManners 3 = .ok (.ixor, 1) := chkD_at okX2_servableManners_0 3 rfl
theorem dX2_servableManners_4 : decode cX2_servableManners 4 = .ok (.iand, 1) := chkD_at okX2_servableManners_0 4 rfl
theorem dX2_servableManners_5 : decode cX2_servableManners 5 = .ok (.ifCond .ne 20, 3) := chkD_at okX2_servableManners_0 5 rfl
theorem dX2_servableManners_8 : decode cX2_servableManners 8 = .ok (.ldc 38, 2) := chkD_at okX2_servableManners_0 6 rfl
theorem dX2_servableManners_10 : decode cX2_servableManners 10 = .ok (.aload_n 0, 1) := chkD_at okX2_servableManners_0 7 rfl
theorem dX2_servableManners_11 : decode cX2_servableManners 11 = .ok (.getfield 18, 3) := chkD_at okX2_servableManners_0 8 rfl
theorem dX2_servableManners_14 : decode cX2_servableManners 14 = .ok (.getfield 95, 3) := chkD_at okX2_servableManners_0 9 rfl
theorem dX2_servableManners_17 : decode cX2_servableManners 17 = .ok (.iload_n 1, 1) := chkD_at okX2_servableManners_0 10 rfl
theorem dX2_servableManners_18 : decode cX2_servableManners 18 = .ok (.iaload, 1) := chkD_at okX2_servableManners_0 11 rfl
theorem dX2_servableManners_19 : decode cX2_servableManners 19 = .ok (.iconst (-1), 1) := chkD_at okX2_servableManners_0 12 rfl
theorem dX2_servableManners_20 : decode cX2_servableManners 20 = .ok (.ixor, 1) := chkD_at okX2_servableManners_0 13 rfl
theorem dX2_servableManners_21 : decode cX2_servableManners 21 = .ok (.iand, 1) := chkD_at okX2_servableManners_0 14 rfl
theorem dX2_servableManners_22 : decode cX2_servableManners 22 = .ok (.goto 4, 3) := chkD_at okX2_servableManners_0 15 rfl
theorem dX2_servableManners_25 : decode cX2_servableManners 25 = .ok (.iconst 0, 1) := chkD_at okX2_servableManners_0 16 rfl
theorem dX2_servableManners_26 : decode cX2_servableManners 26 = .ok (.ireturn, 1) := chkD_at okX2_servableManners_0 17 rfl
theorem okX2_possible_0 : chkD cX2_possible [(0, .aload_n 0, 1), (1, .getfield 9, 3), (4, .invokestatic 98, 3), (7, .istore_n 1, 1), (8, .iconst 0, 1), (9, .istore_n 2, 1), (10, .iconst 0, 1), (11, .istore_n 3, 1), (12, .iload_n 3, 1), (13, .getstatic 75, 3), (16, .arraylength, 1), (17, .if_icmp .ge 24, 3), (20, .getstatic 75, 3), (23, .iload_n 3, 1), (24, .iaload, 1), (25, .iload_n 1, 1), (26, .iconst (-1), 1), (27, .ixor, 1), (28, .iand, 1), (29, .ifCond .ne 6, 3), (32, .iinc 2 1, 3), (35, .iinc 3 1, 3), (38, .goto (-26), 3), (41, .iload_n 2, 1), (42, .bipush 20, 2), (44, .imul, 1), (45, .ireturn, 1)] = true := by decide +kernel
theorem dX2_possible_0 : decode cX2_possible 0 = .ok (.aload_n 0, 1) := chkD_at okX2_possible_0 0 rfl
theorem dX2_possible_1 : decode cX2_possible 1 = .ok (.getfield 9, 3) := chkD_at okX2_possible_0 1 rfl
theorem dX2_possible_4 : decode cX2_possible 4 = .ok (.invokestatic 98, 3) := chkD_at okX2_possible_0 2 rfl
theorem dX2_possible_7 : decode cX2_possible 7 = .ok (.istore_n 1, 1) := chkD_at okX2_possible_0 3 rfl
theorem dX2_possible_8 : decode cX2_possible 8 = .ok (.iconst 0, 1) := chkD_at okX2_possible_0 4 rfl
theorem dX2_possible_9 : decode cX2_possible 9 = .ok (.istore_n 2, 1) := chkD_at okX2_possible_0 5 rfl
theorem dX2_possible_10 : decode cX2_possible 10 = .ok (.iconst 0, 1) := chkD_at okX2_possible_0 6 rfl
theorem dX2_possible_11 : decode cX2_possible 11 = .ok (.istore_n 3, 1) := chkD_at okX2_possible_0 7 rfl
theorem dX2_possible_12 : decode cX2_possible 12 = .ok (.iload_n 3, 1) := chkD_at okX2_possible_0 8 rfl
theorem dX2_possible_13 : decode cX2_possible 13 = .ok (.getstatic 75, 3) := chkD_at okX2_possible_0 9 rfl
theorem dX2_possible_16 : decode cX2_possible 16 = .ok (.arraylength, 1) := chkD_at okX2_possible_0 10 rfl
theorem dX2_possible_17 : decode cX2_possible 17 = .ok (.if_icmp .ge 24, 3) := chkD_at okX2_possible_0 11 rfl
theorem dX2_possible_20 : decode cX2_possible 20 = .ok (.getstatic 75, 3) := chkD_at okX2_possible_0 12 rfl
theorem dX2_possible_23 : decode cX2_possible 23 = .ok (.iload_n 3, 1) := chkD_at okX2_possible_0 13 rfl
theorem dX2_possible_24 : decode cX2_possible 24 = .ok (.iaload, 1) := chkD_at okX2_possible_0 14 rfl
theorem dX2_possible_25 : decode cX2_possible 25 = .ok (.iload_n 1, 1) := chkD_at okX2_possible_0 15 rfl
theorem dX2_possible_26 : decode cX2_possible 26 = .ok (.iconst (-1), 1) := chkD_at okX2_possible_0 16 rfl
theorem dX2_possible_27 : decode cX2_possible 27 = .ok (.ixor, 1) := chkD_at okX2_possible_0 17 rfl
theorem dX2_possible_28 : decode cX2_possible 28 = .ok (.iand, 1) := chkD_at okX2_possible_0 18 rfl
theorem dX2_possible_29 : decode cX2_possible 29 = .ok (.ifCond .ne 6, 3) := chkD_at okX2_possible_0 19 rfl
theorem dX2_possible_32 : decode cX2_possible 32 = .ok (.iinc 2 1, 3) := chkD_at okX2_possible_0 20 rfl
theorem dX2_possible_35 : decode cX2_possible 35 = .ok (.iinc 3 1, 3) := chkD_at okX2_possible_0 21 rfl
theorem dX2_possible_38 : decode cX2_possible 38 = .ok (.goto (-26), 3) := chkD_at okX2_possible_0 22 rfl
theorem dX2_possible_41 : decode cX2_possible 41 = .ok (.iload_n 2, 1) := chkD_at okX2_possible_0 23 rfl
theorem dX2_possible_42 : decode cX2_possible 42 = .ok (.bipush 20, 2) := chkD_at okX2_possible_0 24 rfl
theorem dX2_possible_44 : decode cX2_possible 44 = .ok (.imul, 1) := chkD_at okX2_possible_0 25 rfl
theorem dX2_possible_45 : decode cX2_possible 45 = .ok (.ireturn, 1) := chkD_at okX2_possible_0 26 rfl
theorem okX2_servable_0 : chkD cX2_servable [(0, .aload_n 0, 1), (1, .getfield 9, 3), (4, .invokestatic 98, 3), (7, .istore_n 1, 1), (8, .iconst 0, 1), (9, .istore_n 2, 1), (10, .iconst 0, 1), (11, .istore_n 3, 1), (12, .iload_n 3, 1), (13, .getstatic 75, 3), (16, .arraylength, 1), (17, .if_icmp .ge 25, 3), (20, .iload_n 2, 1), (21, .aload_n 0, 1), (22, .getstatic 75, 3), (25, .iload_n 3, 1), (26, .iaload, 1), (27, .iload_n 1, 1), (28, .invokevirtual 102, 3), (31, .invokestatic 106, 3), (34, .iadd, 1), (35, .istore_n 2, 1), (36, .iinc 3 1, 3), (39, .goto (-27), 3), (42, .iload_n 2, 1), (43, .ireturn, 1)] = true := by decide +kernel
theorem dX2_servable_0 : decode cX2_servable 0 = .ok (.aload_n 0, 1) := chkD_at okX2_servable_0 0 rfl
theorem dX2_servable_1 : decode cX2_servable 1 = .ok (.getfield 9, 3) := chkD_at okX2_servable_0 1 rfl
theorem dX2_servable_4 : decode cX2_servable 4 = .ok (.invokestatic 98, 3) := chkD_at okX2_servable_0 2 rfl
theorem dX2_servable_7 : decode cX2_servable 7 = .ok (.istore_n 1, 1) := chkD_at okX2_servable_0 3 rfl
theorem dX2_servable_8 : decode cX2_servable 8 = .ok (.iconst 0, 1) := chkD_at okX2_servable_0 4 rfl
theorem dX2_servable_9 : decode cX2_servable 9 = .ok (.istore_n 2, 1) := chkD_at okX2_servable_0 5 rfl
theorem dX2_servable_10 : decode cX2_servable 10 = .ok (.iconst 0, 1) := chkD_at okX2_servable_0 6 rfl
theorem dX2_servable_11 : decode cX2_servable 11 = .ok (.istore_n 3, 1) := chkD_at okX2_servable_0 7 rfl
theorem dX2_servable_12 : decode cX2_servable 12 = .ok (.iload_n 3, 1) := chkD_at okX2_servable_0 8 rfl
theorem dX2_servable_13 : decode cX2_servable 13 = .ok (.getstatic 75, 3) := chkD_at okX2_servable_0 9 rfl
theorem dX2_servable_16 : decode cX2_servable 16 = .ok (.arraylength, 1) := chkD_at okX2_servable_0 10 rfl
theorem dX2_servable_17 : decode cX2_servable 17 = .ok (.if_icmp .ge 25, 3) := chkD_at okX2_servable_0 11 rfl
theorem dX2_servable_20 : decode cX2_servable 20 = .ok (.iload_n 2, 1) := chkD_at okX2_servable_0 12 rfl
theorem dX2_servable_21 : decode cX2_servable 21 = .ok (.aload_n 0, 1) := chkD_at okX2_servable_0 13 rfl
theorem dX2_servable_22 : decode cX2_servable 22 = .ok (.getstatic 75, 3) := chkD_at okX2_servable_0 14 rfl
theorem dX2_servable_25 : decode cX2_servable 25 = .ok (.iload_n 3, 1) := chkD_at okX2_servable_0 15 rfl
theorem dX2_servable_26 : decode cX2_servable 26 = .ok (.iaload, 1) := chkD_at okX2_servable_0 16 rfl
theorem dX2_servable_27 : decode cX2_servable 27 = .ok (.iload_n 1, 1) := chkD_at okX2_servable_0 17 rfl
theorem dX2_servable_28 : decode cX2_servable 28 = .ok (.invokevirtual 102, 3) := chkD_at okX2_servable_0 18 rfl
theorem dX2_servable_31 : decode cX2_servable 31 = .ok (.invokestatic 106, 3) := chkD_at okX2_servable_0 19 rfl
theorem dX2_servable_34 : decode cX2_servable 34 = .ok (.iadd, 1) := chkD_at okX2_servable_0 20 rfl
theorem dX2_servable_35 : decode cX2_servable 35 = .ok (.istore_n 2, 1) := chkD_at okX2_servable_0 21 rfl
theorem dX2_servable_36 : decode cX2_servable 36 = .ok (.iinc 3 1, 3) := chkD_at okX2_servable_0 22 rfl
theorem dX2_servable_39 : decode cX2_servable 39 = .ok (.goto (-27), 3) := chkD_at okX2_servable_0 23 rfl
theorem dX2_servable_42 : decode cX2_servable 42 = .ok (.iload_n 2, 1) := chkD_at okX2_servable_0 24 rfl
theorem dX2_servable_43 : decode cX2_servable 43 = .ok (.ireturn, 1) := chkD_at okX2_servable_0 25 rfl
theorem okX2_firstFrom_0 : chkD cX2_firstFrom [(0, .aload_n 0, 1), (1, .getfield 9, 3), (4, .invokestatic 98, 3), (7, .istore_n 2, 1), (8, .iconst 0, 1), (9, .istore_n 3, 1), (10, .iload_n 3, 1), (11, .getstatic 75, 3), (14, .arraylength, 1), (15, .if_icmp .ge 72, 3), (18, .aload_n 0, 1), (19, .getstatic 75, 3), (22, .iload_n 3, 1), (23, .iaload, 1), (24, .iload_n 2, 1), (25, .invokevirtual 102, 3), (28, .istore 4, 2), (30, .bipush 20, 2), (32, .getstatic 75, 3), (35, .iload_n 3, 1), (36, .iaload, 1), (37, .imul, 1), (38, .istore 5, 2), (40, .iconst 0, 1), (41, .istore 6, 2), (43, .iload 6, 2), (45, .bipush 20, 2), (47, .if_icmp .ge 34, 3), (50, .iload 5, 2), (52, .iload 6, 2), (54, .iadd, 1), (55, .iload_n 1, 1), (56, .if_icmp .lt 19, 3), (59, .iload 4, 2), (61, .iload 6, 2), (63, .invokestatic 78, 3), (66, .ifCond .eq 9, 3), (69, .iload 5, 2), (71, .iload 6, 2), (73, .iadd, 1), (74, .ireturn, 1), (75, .iinc 6 1, 3), (78, .goto (-35), 3), (81, .iinc 3 1, 3), (84, .goto (-74), 3), (87, .iconst (-1), 1), (88, .ireturn, 1)] = true := by decide +kernel
theorem dX2_firstFrom_0 : decode cX2_firstFrom 0 = .ok (.aload_n 0, 1) := chkD_at okX2_firstFrom_0 0 rfl
theorem dX2_firstFrom_1 : decode cX2_firstFrom 1 = .ok (.getfield 9, 3) := chkD_at okX2_firstFrom_0 1 rfl
theorem dX2_firstFrom_4 : decode cX2_firstFrom 4 = .ok (.invokestatic 98, 3) := chkD_at okX2_firstFrom_0 2 rfl
theorem dX2_firstFrom_7 : decode cX2_firstFrom 7 = .ok (.istore_n 2, 1) := chkD_at okX2_firstFrom_0 3 rfl
theorem dX2_firstFrom_8 : decode cX2_firstFrom 8 = .ok (.iconst 0, 1) := chkD_at okX2_firstFrom_0 4 rfl
theorem dX2_firstFrom_9 : decode cX2_firstFrom 9 = .ok (.istore_n 3, 1) := chkD_at okX2_firstFrom_0 5 rfl
theorem dX2_firstFrom_10 : decode cX2_firstFrom 10 = .ok (.iload_n 3, 1) := chkD_at okX2_firstFrom_0 6 rfl
theorem dX2_firstFrom_11 : decode cX2_firstFrom 11 = .ok (.getstatic 75, 3) := chkD_at okX2_firstFrom_0 7 rfl
theorem dX2_firstFrom_14 : decode cX2_firstFrom 14 = .ok (.arraylength, 1) := chkD_at okX2_firstFrom_0 8 rfl
theorem dX2_firstFrom_15 : decode cX2_firstFrom 15 = .ok (.if_icmp .ge 72, 3) := chkD_at okX2_firstFrom_0 9 rfl
theorem dX2_firstFrom_18 : decode cX2_firstFrom 18 = .ok (.aload_n 0, 1) := chkD_at okX2_firstFrom_0 10 rfl
theorem dX2_firstFrom_19 : decode cX2_firstFrom 19 = .ok (.getstatic 75, 3) := chkD_at okX2_firstFrom_0 11 rfl
theorem dX2_firstFrom_22 : decode cX2_firstFrom 22 = .ok (.iload_n 3, 1) := chkD_at okX2_firstFrom_0 12 rfl
theorem dX2_firstFrom_23 : decode cX2_firstFrom 23 = .ok (.iaload, 1) := chkD_at okX2_firstFrom_0 13 rfl
theorem dX2_firstFrom_24 : decode cX2_firstFrom 24 = .ok (.iload_n 2, 1) := chkD_at okX2_firstFrom_0 14 rfl
theorem dX2_firstFrom_25 : decode cX2_firstFrom 25 = .ok (.invokevirtual 102, 3) := chkD_at okX2_firstFrom_0 15 rfl
theorem dX2_firstFrom_28 : decode cX2_firstFrom 28 = .ok (.istore 4, 2) := chkD_at okX2_firstFrom_0 16 rfl
theorem dX2_firstFrom_30 : decode cX2_firstFrom 30 = .ok (.bipush 20, 2) := chkD_at okX2_firstFrom_0 17 rfl
theorem dX2_firstFrom_32 : decode cX2_firstFrom 32 = .ok (.getstatic 75, 3) := chkD_at okX2_firstFrom_0 18 rfl
theorem dX2_firstFrom_35 : decode cX2_firstFrom 35 = .ok (.iload_n 3, 1) := chkD_at okX2_firstFrom_0 19 rfl
theorem dX2_firstFrom_36 : decode cX2_firstFrom 36 = .ok (.iaload, 1) := chkD_at okX2_firstFrom_0 20 rfl
theorem dX2_firstFrom_37 : decode cX2_firstFrom 37 = .ok (.imul, 1) := chkD_at okX2_firstFrom_0 21 rfl
theorem dX2_firstFrom_38 : decode cX2_firstFrom 38 = .ok (.istore 5, 2) := chkD_at okX2_firstFrom_0 22 rfl
theorem dX2_firstFrom_40 : decode cX2_firstFrom 40 = .ok (.iconst 0, 1) := chkD_at okX2_firstFrom_0 23 rfl
theorem dX2_firstFrom_41 : decode cX2_firstFrom 41 = .ok (.istore 6, 2) := chkD_at okX2_firstFrom_0 24 rfl
theorem dX2_firstFrom_43 : decode cX2_firstFrom 43 = .ok (.iload 6, 2) := chkD_at okX2_firstFrom_0 25 rfl
theorem dX2_firstFrom_45 : decode cX2_firstFrom 45 = .ok (.bipush 20, 2) := chkD_at okX2_firstFrom_0 26 rfl
theorem dX2_firstFrom_47 : decode cX2_firstFrom 47 = .ok (.if_icmp .ge 34, 3) := chkD_at okX2_firstFrom_0 27 rfl
theorem dX2_firstFrom_50 : decode cX2_firstFrom 50 = .ok (.iload 5, 2) := chkD_at okX2_firstFrom_0 28 rfl
theorem dX2_firstFrom_52 : decode cX2_firstFrom 52 = .ok (.iload 6, 2) := chkD_at okX2_firstFrom_0 29 rfl
theorem dX2_firstFrom_54 : decode cX2_firstFrom 54 = .ok (.iadd, 1) := chkD_at okX2_firstFrom_0 30 rfl
theorem dX2_firstFrom_55 : decode cX2_firstFrom 55 = .ok (.iload_n 1, 1) := chkD_at okX2_firstFrom_0 31 rfl
theorem dX2_firstFrom_56 : decode cX2_firstFrom 56 = .ok (.if_icmp .lt 19, 3) := chkD_at okX2_firstFrom_0 32 rfl
theorem dX2_firstFrom_59 : decode cX2_firstFrom 59 = .ok (.iload 4, 2) := chkD_at okX2_firstFrom_0 33 rfl
theorem dX2_firstFrom_61 : decode cX2_firstFrom 61 = .ok (.iload 6, 2) := chkD_at okX2_firstFrom_0 34 rfl
theorem dX2_firstFrom_63 : decode cX2_firstFrom 63 = .ok (.invokestatic 78, 3) := chkD_at okX2_firstFrom_0 35 rfl
theorem dX2_firstFrom_66 : decode cX2_firstFrom 66 = .ok (.ifCond .eq 9, 3) := chkD_at okX2_firstFrom_0 36 rfl
theorem dX2_firstFrom_69 : decode cX2_firstFrom 69 = .ok (.iload 5, 2) := chkD_at okX2_firstFrom_0 37 rfl
theorem dX2_firstFrom_71 : decode cX2_firstFrom 71 = .ok (.iload 6, 2) := chkD_at okX2_firstFrom_0 38 rfl
theorem dX2_firstFrom_73 : decode cX2_firstFrom 73 = .ok (.iadd, 1) := chkD_at okX2_firstFrom_0 39 rfl
theorem dX2_firstFrom_74 : decode cX2_firstFrom 74 = .ok (.ireturn, 1) := chkD_at okX2_firstFrom_0 40 rfl
theorem dX2_firstFrom_75 : decode cX2_firstFrom 75 = .ok (.iinc 6 1, 3) := chkD_at okX2_firstFrom_0 41 rfl
theorem dX2_firstFrom_78 : decode cX2_firstFrom 78 = .ok (.goto (-35), 3) := chkD_at okX2_firstFrom_0 42 rfl
theorem dX2_firstFrom_81 : decode cX2_firstFrom 81 = .ok (.iinc 3 1, 3) := chkD_at okX2_firstFrom_0 43 rfl
theorem dX2_firstFrom_84 : decode cX2_firstFrom 84 = .ok (.goto (-74), 3) := chkD_at okX2_firstFrom_0 44 rfl
theorem dX2_firstFrom_87 : decode cX2_firstFrom 87 = .ok (.iconst (-1), 1) := chkD_at okX2_firstFrom_0 45 rfl
theorem dX2_firstFrom_88 : decode cX2_firstFrom 88 = .ok (.ireturn, 1) := chkD_at okX2_firstFrom_0 46 rfl
theorem okX2_favourite_0 : chkD cX2_favourite [(0, .aload_n 0, 1), (1, .aload_n 0, 1), (2, .getfield 35, 3), (5, .invokevirtual 111, 3), (8, .ireturn, 1)] = true := by decide +kernel
theorem dX2_favourite_0 : decode cX2_favourite 0 = .ok (.aload_n 0, 1) := chkD_at okX2_favourite_0 0 rfl
theorem dX2_favourite_1 : decode cX2_favourite 1 = .ok (.aload_n 0, 1) := chkD_at okX2_favourite_0 1 rfl
theorem dX2_favourite_2 : decode cX2_favourite 2 = .ok (.getfield 35, 3) := chkD_at okX2_favourite_0 2 rfl
theorem dX2_favourite_5 : decode cX2_favourite 5 = .ok (.invokevirtual 111, 3) := chkD_at okX2_favourite_0 3 rfl
theorem dX2_favourite_8 : decode cX2_favourite 8 = .ok (.ireturn, 1) := chkD_at okX2_favourite_0 4 rfl
theorem okX2_favouriteAmong_0 : chkD cX2_favouriteAmong [(0, .aload_n 0, 1), (1, .getfield 9, 3), (4, .invokestatic 98, 3), (7, .istore_n 2, 1), (8, .aload_n 0, 1), (9, .getfield 29, 3), (12, .aload_n 0, 1), (13, .getfield 32, 3), (16, .iconst 0, 1), (17, .iaload, 1), (18, .iaload, 1), (19, .istore_n 3, 1), (20, .iconst (-1), 1), (21, .istore 4, 2), (23, .iconst 0, 1), (24, .istore 5, 2), (26, .iconst 0, 1), (27, .istore 6, 2), (29, .iload 6, 2), (31, .getstatic 75, 3), (34, .arraylength, 1), (35, .if_icmp .ge 114, 3), (38, .getstatic 75, 3), (41, .iload 6, 2), (43, .iaload, 1), (44, .istore 7, 2), (46, .iload 4, 2), (48, .ifCond .lt 20, 3), (51, .aload_n 0, 1), (52, .getfield 26, 3), (55, .iload 7, 2), (57, .iaload, 1), (58, .iload_n 3, 1), (59, .iadd, 1), (60, .iload 5, 2), (62, .if_icmp .gt 6, 3), (65, .goto 78, 3), (68, .aload_n 0, 1), (69, .aload_n 0, 1), (70, .iload 7, 2), (72, .iload_n 2, 1), (73, .invokevirtual 102, 3), (76, .aload_n 1, 1), (77, .iload 7, 2), (79, .iaload, 1), (80, .iand, 1), (81, .invokevirtual 114, 3), (84, .istore 8, 2), (86, .iload 8, 2), (88, .ifCond .lt 55, 3), (91, .iload 4, 2), (93, .ifCond .lt 23, 3), (96, .aload_n 0, 1), (97, .getfield 26, 3), (100, .iload 7, 2), (102, .iaload, 1), (103, .aload_n 0, 1), (104, .getfield 29, 3), (107, .iload 8, 2), (109, .iaload, 1), (110, .iadd, 1), (111, .iload 5, 2), (113, .if_icmp .le 30, 3), (116, .aload_n 0, 1), (117, .getfield 26, 3), (120, .iload 7, 2), (122, .iaload, 1), (123, .aload_n 0, 1), (124, .getfield 29, 3), (127, .iload 8, 2), (129, .iaload, 1), (130, .iadd, 1), (131, .istore 5, 2), (133, .bipush 20, 2), (135, .iload 7, 2), (137, .imul, 1), (138, .iload 8, 2), (140, .iadd, 1), (141, .istore 4, 2), (143, .iinc 6 1, 3)] = true := by decide +kernel
theorem dX2_favouriteAmong_0 : decode cX2_favouriteAmong 0 = .ok (.aload_n 0, 1) := chkD_at okX2_favouriteAmong_0 0 rfl
theorem dX2_favouriteAmong_1 : decode cX2_favouriteAmong 1 = .ok (.getfield 9, 3) := chkD_at okX2_favouriteAmong_0 1 rfl
theorem dX2_favouriteAmong_4 : decode cX2_favouriteAmong 4 = .ok (.invokestatic 98, 3) := chkD_at okX2_favouriteAmong_0 2 rfl
theorem dX2_favouriteAmong_7 : decode cX2_favouriteAmong 7 = .ok (.istore_n 2, 1) := chkD_at okX2_favouriteAmong_0 3 rfl
theorem dX2_favouriteAmong_8 : decode cX2_favouriteAmong 8 = .ok (.aload_n 0, 1) := chkD_at okX2_favouriteAmong_0 4 rfl
theorem dX2_favouriteAmong_9 : decode cX2_favouriteAmong 9 = .ok (.getfield 29, 3) := chkD_at okX2_favouriteAmong_0 5 rfl
theorem dX2_favouriteAmong_12 : decode cX2_favouriteAmong 12 = .ok (.aload_n 0, 1) := chkD_at okX2_favouriteAmong_0 6 rfl
theorem dX2_favouriteAmong_13 : decode cX2_favouriteAmong 13 = .ok (.getfield 32, 3) := chkD_at okX2_favouriteAmong_0 7 rfl
theorem dX2_favouriteAmong_16 : decode cX2_favouriteAmong 16 = .ok (.iconst 0, 1) := chkD_at okX2_favouriteAmong_0 8 rfl
theorem dX2_favouriteAmong_17 : decode cX2_favouriteAmong 17 = .ok (.iaload, 1) := chkD_at okX2_favouriteAmong_0 9 rfl
theorem dX2_favouriteAmong_18 : decode cX2_favouriteAmong 18 = .ok (.iaload, 1) := chkD_at okX2_favouriteAmong_0 10 rfl
theorem dX2_favouriteAmong_19 : decode cX2_favouriteAmong 19 = .ok (.istore_n 3, 1) := chkD_at okX2_favouriteAmong_0 11 rfl
theorem dX2_favouriteAmong_20 : decode cX2_favouriteAmong 20 = .ok (.iconst (-1), 1) := chkD_at okX2_favouriteAmong_0 12 rfl
theorem dX2_favouriteAmong_21 : decode cX2_favouriteAmong 21 = .ok (.istore 4, 2) := chkD_at okX2_favouriteAmong_0 13 rfl
theorem dX2_favouriteAmong_23 : decode cX2_favouriteAmong 23 = .ok (.iconst 0, 1) := chkD_at okX2_favouriteAmong_0 14 rfl
theorem dX2_favouriteAmong_24 : decode cX2_favouriteAmong 24 = .ok (.istore 5, 2) := chkD_at okX2_favouriteAmong_0 15 rfl
theorem dX2_favouriteAmong_26 : decode cX2_favouriteAmong 26 = .ok (.iconst 0, 1) := chkD_at okX2_favouriteAmong_0 16 rfl
theorem dX2_favouriteAmong_27 : decode cX2_favouriteAmong 27 = .ok (.istore 6, 2) := chkD_at okX2_favouriteAmong_0 17 rfl
theorem dX2_favouriteAmong_29 : decode cX2_favouriteAmong 29 = .ok (.iload 6, 2) := chkD_at okX2_favouriteAmong_0 18 rfl
theorem dX2_favouriteAmong_31 : decode cX2_favouriteAmong 31 = .ok (.getstatic 75, 3) := chkD_at okX2_favouriteAmong_0 19 rfl
theorem dX2_favouriteAmong_34 : decode cX2_favouriteAmong 34 = .ok (.arraylength, 1) := chkD_at okX2_favouriteAmong_0 20 rfl
theorem dX2_favouriteAmong_35 : decode cX2_favouriteAmong 35 = .ok (.if_icmp .ge 114, 3) := chkD_at okX2_favouriteAmong_0 21 rfl
theorem dX2_favouriteAmong_38 : decode cX2_favouriteAmong 38 = .ok (.getstatic 75, 3) := chkD_at okX2_favouriteAmong_0 22 rfl
theorem dX2_favouriteAmong_41 : decode cX2_favouriteAmong 41 = .ok (.iload 6, 2) := chkD_at okX2_favouriteAmong_0 23 rfl
theorem dX2_favouriteAmong_43 : decode cX2_favouriteAmong 43 = .ok (.iaload, 1) := chkD_at okX2_favouriteAmong_0 24 rfl
theorem dX2_favouriteAmong_44 : decode cX2_favouriteAmong 44 = .ok (.istore 7, 2) := chkD_at okX2_favouriteAmong_0 25 rfl
theorem dX2_favouriteAmong_46 : decode cX2_favouriteAmong 46 = .ok (.iload 4, 2) := chkD_at okX2_favouriteAmong_0 26 rfl
theorem dX2_favouriteAmong_48 : decode cX2_favouriteAmong 48 = .ok (.ifCond .lt 20, 3) := chkD_at okX2_favouriteAmong_0 27 rfl
theorem dX2_favouriteAmong_51 : decode cX2_favouriteAmong 51 = .ok (.aload_n 0, 1) := chkD_at okX2_favouriteAmong_0 28 rfl
theorem dX2_favouriteAmong_52 : decode cX2_favouriteAmong 52 = .ok (.getfield 26, 3) := chkD_at okX2_favouriteAmong_0 29 rfl
theorem dX2_favouriteAmong_55 : decode cX2_favouriteAmong 55 = .ok (.iload 7, 2) := chkD_at okX2_favouriteAmong_0 30 rfl
theorem dX2_favouriteAmong_57 : decode cX2_favouriteAmong 57 = .ok (.iaload, 1) := chkD_at okX2_favouriteAmong_0 31 rfl
theorem dX2_favouriteAmong_58 : decode cX2_favouriteAmong 58 = .ok (.iload_n 3, 1) := chkD_at okX2_favouriteAmong_0 32 rfl
theorem dX2_favouriteAmong_59 : decode cX2_favouriteAmong 59 = .ok (.iadd, 1) := chkD_at okX2_favouriteAmong_0 33 rfl
theorem dX2_favouriteAmong_60 : decode cX2_favouriteAmong 60 = .ok (.iload 5, 2) := chkD_at okX2_favouriteAmong_0 34 rfl
theorem dX2_favouriteAmong_62 : decode cX2_favouriteAmong 62 = .ok (.if_icmp .gt 6, 3) := chkD_at okX2_favouriteAmong_0 35 rfl
theorem dX2_favouriteAmong_65 : decode cX2_favouriteAmong 65 = .ok (.goto 78, 3) := chkD_at okX2_favouriteAmong_0 36 rfl
theorem dX2_favouriteAmong_68 : decode cX2_favouriteAmong 68 = .ok (.aload_n 0, 1) := chkD_at okX2_favouriteAmong_0 37 rfl
theorem dX2_favouriteAmong_69 : decode cX2_favouriteAmong 69 = .ok (.aload_n 0, 1) := chkD_at okX2_favouriteAmong_0 38 rfl
theorem dX2_favouriteAmong_70 : decode cX2_favouriteAmong 70 = .ok (.iload 7, 2) := chkD_at okX2_favouriteAmong_0 39 rfl
theorem dX2_favouriteAmong_72 : decode cX2_favouriteAmong 72 = .ok (.iload_n 2, 1) := chkD_at okX2_favouriteAmong_0 40 rfl
theorem dX2_favouriteAmong_73 : decode cX2_favouriteAmong 73 = .ok (.invokevirtual 102, 3) := chkD_at okX2_favouriteAmong_0 41 rfl
theorem dX2_favouriteAmong_76 : decode cX2_favouriteAmong 76 = .ok (.aload_n 1, 1) := chkD_at okX2_favouriteAmong_0 42 rfl
theorem dX2_favouriteAmong_77 : decode cX2_favouriteAmong 77 = .ok (.iload 7, 2) := chkD_at okX2_favouriteAmong_0 43 rfl
theorem dX2_favouriteAmong_79 : decode cX2_favouriteAmong 79 = .ok (.iaload, 1) := chkD_at okX2_favouriteAmong_0 44 rfl
theorem dX2_favouriteAmong_80 : decode cX2_favouriteAmong 80 = .ok (.iand, 1) := chkD_at okX2_favouriteAmong_0 45 rfl
theorem dX2_favouriteAmong_81 : decode cX2_favouriteAmong 81 = .ok (.invokevirtual 114, 3) := chkD_at okX2_favouriteAmong_0 46 rfl
theorem dX2_favouriteAmong_84 : decode cX2_favouriteAmong 84 = .ok (.istore 8, 2) := chkD_at okX2_favouriteAmong_0 47 rfl
theorem dX2_favouriteAmong_86 : decode cX2_favouriteAmong 86 = .ok (.iload 8, 2) := chkD_at okX2_favouriteAmong_0 48 rfl
theorem dX2_favouriteAmong_88 : decode cX2_favouriteAmong 88 = .ok (.ifCond .lt 55, 3) := chkD_at okX2_favouriteAmong_0 49 rfl
theorem dX2_favouriteAmong_91 : decode cX2_favouriteAmong 91 = .ok (.iload 4, 2) := chkD_at okX2_favouriteAmong_0 50 rfl
theorem dX2_favouriteAmong_93 : decode cX2_favouriteAmong 93 = .ok (.ifCond .lt 23, 3) := chkD_at okX2_favouriteAmong_0 51 rfl
theorem dX2_favouriteAmong_96 : decode cX2_favouriteAmong 96 = .ok (.aload_n 0, 1) := chkD_at okX2_favouriteAmong_0 52 rfl
theorem dX2_favouriteAmong_97 : decode cX2_favouriteAmong 97 = .ok (.getfield 26, 3) := chkD_at okX2_favouriteAmong_0 53 rfl
theorem dX2_favouriteAmong_100 : decode cX2_favouriteAmong 100 = .ok (.iload 7, 2) := chkD_at okX2_favouriteAmong_0 54 rfl
theorem dX2_favouriteAmong_102 : decode cX2_favouriteAmong 102 = .ok (.iaload, 1) := chkD_at okX2_favouriteAmong_0 55 rfl
theorem dX2_favouriteAmong_103 : decode cX2_favouriteAmong 103 = .ok (.aload_n 0, 1) := chkD_at okX2_favouriteAmong_0 56 rfl
theorem dX2_favouriteAmong_104 : decode cX2_favouriteAmong 104 = .ok (.getfield 29, 3) := chkD_at okX2_favouriteAmong_0 57 rfl
theorem dX2_favouriteAmong_107 : decode cX2_favouriteAmong 107 = .ok (.iload 8, 2) := chkD_at okX2_favouriteAmong_0 58 rfl
theorem dX2_favouriteAmong_109 : decode cX2_favouriteAmong 109 = .ok (.iaload, 1) := chkD_at okX2_favouriteAmong_0 59 rfl
theorem dX2_favouriteAmong_110 : decode cX2_favouriteAmong 110 = .ok (.iadd, 1) := chkD_at okX2_favouriteAmong_0 60 rfl
theorem dX2_favouriteAmong_111 : decode cX2_favouriteAmong 111 = .ok (.iload 5, 2) := chkD_at okX2_favouriteAmong_0 61 rfl
theorem dX2_favouriteAmong_113 : decode cX2_favouriteAmong 113 = .ok (.if_icmp .le 30, 3) := chkD_at okX2_favouriteAmong_0 62 rfl
theorem dX2_favouriteAmong_116 : decode cX2_favouriteAmong 116 = .ok (.aload_n 0, 1) := chkD_at okX2_favouriteAmong_0 63 rfl
theorem dX2_favouriteAmong_117 : decode cX2_favouriteAmong 117 = .ok (.getfield 26, 3) := chkD_at okX2_favouriteAmong_0 64 rfl
theorem dX2_favouriteAmong_120 : decode cX2_favouriteAmong 120 = .ok (.iload 7, 2) := chkD_at okX2_favouriteAmong_0 65 rfl
theorem dX2_favouriteAmong_122 : decode cX2_favouriteAmong 122 = .ok (.iaload, 1) := chkD_at okX2_favouriteAmong_0 66 rfl
theorem dX2_favouriteAmong_123 : decode cX2_favouriteAmong 123 = .ok (.aload_n 0, 1) := chkD_at okX2_favouriteAmong_0 67 rfl
theorem dX2_favouriteAmong_124 : decode cX2_favouriteAmong 124 = .ok (.getfield 29, 3) := chkD_at okX2_favouriteAmong_0 68 rfl
theorem dX2_favouriteAmong_127 : decode cX2_favouriteAmong 127 = .ok (.iload 8, 2) := chkD_at okX2_favouriteAmong_0 69 rfl
theorem dX2_favouriteAmong_129 : decode cX2_favouriteAmong 129 = .ok (.iaload, 1) := chkD_at okX2_favouriteAmong_0 70 rfl
theorem dX2_favouriteAmong_130 : decode cX2_favouriteAmong 130 = .ok (.iadd, 1) := chkD_at okX2_favouriteAmong_0 71 rfl
theorem dX2_favouriteAmong_131 : decode cX2_favouriteAmong 131 = .ok (.istore 5, 2) := chkD_at okX2_favouriteAmong_0 72 rfl
theorem dX2_favouriteAmong_133 : decode cX2_favouriteAmong 133 = .ok (.bipush 20, 2) := chkD_at okX2_favouriteAmong_0 73 rfl
theorem dX2_favouriteAmong_135 : decode cX2_favouriteAmong 135 = .ok (.iload 7, 2) := chkD_at okX2_favouriteAmong_0 74 rfl
theorem dX2_favouriteAmong_137 : decode cX2_favouriteAmong 137 = .ok (.imul, 1) := chkD_at okX2_favouriteAmong_0 75 rfl
theorem dX2_favouriteAmong_138 : decode cX2_favouriteAmong 138 = .ok (.iload 8, 2) := chkD_at okX2_favouriteAmong_0 76 rfl
theorem dX2_favouriteAmong_140 : decode cX2_favouriteAmong 140 = .ok (.iadd, 1) := chkD_at okX2_favouriteAmong_0 77 rfl
theorem dX2_favouriteAmong_141 : decode cX2_favouriteAmong 141 = .ok (.istore 4, 2) := chkD_at okX2_favouriteAmong_0 78 rfl
theorem dX2_favouriteAmong_143 : decode cX2_favouriteAmong 143 = .ok (.iinc 6 1, 3) := chkD_at okX2_favouriteAmong_0 79 rfl
theorem okX2_favouriteAmong_1 : chkD cX2_favouriteAmong [(146, .goto (-117), 3), (149, .iload 4, 2), (151, .ireturn, 1)] = true := by decide +kernel
theorem dX2_favouriteAmong_146 : decode cX2_favouriteAmong 146 = .ok (.goto (-117), 3) := chkD_at okX2_favouriteAmong_1 0 rfl
theorem dX2_favouriteAmong_149 : decode cX2_favouriteAmong 149 = .ok (.iload 4, 2) := chkD_at okX2_favouriteAmong_1 1 rfl
theorem dX2_favouriteAmong_151 : decode cX2_favouriteAmong 151 = .ok (.ireturn, 1) := chkD_at okX2_favouriteAmong_1 2 rfl
theorem okX2_favouriteManner_0 : chkD cX2_favouriteManner [(0, .iload_n 1, 1), (1, .ifCond .ne 5, 3), (4, .iconst (-1), 1), (5, .ireturn, 1), (6, .iconst 0, 1), (7, .istore_n 2, 1), (8, .iload_n 2, 1), (9, .bipush 20, 2), (11, .if_icmp .ge 29, 3), (14, .iload_n 1, 1), (15, .aload_n 0, 1), (16, .getfield 32, 3), (19, .iload_n 2, 1), (20, .iaload, 1), (21, .invokestatic 78, 3), (24, .ifCond .eq 10, 3), (27, .aload_n 0, 1), (28, .getfield 32, 3), (31, .iload_n 2, 1), (32, .iaload, 1), (33, .ireturn, 1), (34, .iinc 2 1, 3), (37, .goto (-29), 3), (40, .iconst (-1), 1), (41, .ireturn, 1)] = true := by decide +kernel
theorem dX2_favouriteManner_0 : decode cX2_favouriteManner 0 = .ok (.iload_n 1, 1) := chkD_at okX2_favouriteManner_0 0 rfl
theorem dX2_favouriteManner_1 : decode cX2_favouriteManner 1 = .ok (.ifCond .ne 5, 3) := chkD_at okX2_favouriteManner_0 1 rfl
theorem dX2_favouriteManner_4 : decode cX2_favouriteManner 4 = .ok (.iconst (-1), 1) := chkD_at okX2_favouriteManner_0 2 rfl
theorem dX2_favouriteManner_5 : decode cX2_favouriteManner 5 = .ok (.ireturn, 1) := chkD_at okX2_favouriteManner_0 3 rfl
theorem dX2_favouriteManner_6 : decode cX2_favouriteManner 6 = .ok (.iconst 0, 1) := chkD_at okX2_favouriteManner_0 4 rfl
theorem dX2_favouriteManner_7 : decode cX2_favouriteManner 7 = .ok (.istore_n 2, 1) := chkD_at okX2_favouriteManner_0 5 rfl
theorem dX2_favouriteManner_8 : decode cX2_favouriteManner 8 = .ok (.iload_n 2, 1) := chkD_at okX2_favouriteManner_0 6 rfl
theorem dX2_favouriteManner_9 : decode cX2_favouriteManner 9 = .ok (.bipush 20, 2) := chkD_at okX2_favouriteManner_0 7 rfl
theorem dX2_favouriteManner_11 : decode cX2_favouriteManner 11 = .ok (.if_icmp .ge 29, 3) := chkD_at okX2_favouriteManner_0 8 rfl
theorem dX2_favouriteManner_14 : decode cX2_favouriteManner 14 = .ok (.iload_n 1, 1) := chkD_at okX2_favouriteManner_0 9 rfl
theorem dX2_favouriteManner_15 : decode cX2_favouriteManner 15 = .ok (.aload_n 0, 1) := chkD_at okX2_favouriteManner_0 10 rfl
theorem dX2_favouriteManner_16 : decode cX2_favouriteManner 16 = .ok (.getfield 32, 3) := chkD_at okX2_favouriteManner_0 11 rfl
theorem dX2_favouriteManner_19 : decode cX2_favouriteManner 19 = .ok (.iload_n 2, 1) := chkD_at okX2_favouriteManner_0 12 rfl
theorem dX2_favouriteManner_20 : decode cX2_favouriteManner 20 = .ok (.iaload, 1) := chkD_at okX2_favouriteManner_0 13 rfl
theorem dX2_favouriteManner_21 : decode cX2_favouriteManner 21 = .ok (.invokestatic 78, 3) := chkD_at okX2_favouriteManner_0 14 rfl
theorem dX2_favouriteManner_24 : decode cX2_favouriteManner 24 = .ok (.ifCond .eq 10, 3) := chkD_at okX2_favouriteManner_0 15 rfl
theorem dX2_favouriteManner_27 : decode cX2_favouriteManner 27 = .ok (.aload_n 0, 1) := chkD_at okX2_favouriteManner_0 16 rfl
theorem dX2_favouriteManner_28 : decode cX2_favouriteManner 28 = .ok (.getfield 32, 3) := chkD_at okX2_favouriteManner_0 17 rfl
theorem dX2_favouriteManner_31 : decode cX2_favouriteManner 31 = .ok (.iload_n 2, 1) := chkD_at okX2_favouriteManner_0 18 rfl
theorem dX2_favouriteManner_32 : decode cX2_favouriteManner 32 = .ok (.iaload, 1) := chkD_at okX2_favouriteManner_0 19 rfl
theorem dX2_favouriteManner_33 : decode cX2_favouriteManner 33 = .ok (.ireturn, 1) := chkD_at okX2_favouriteManner_0 20 rfl
theorem dX2_favouriteManner_34 : decode cX2_favouriteManner 34 = .ok (.iinc 2 1, 3) := chkD_at okX2_favouriteManner_0 21 rfl
theorem dX2_favouriteManner_37 : decode cX2_favouriteManner 37 = .ok (.goto (-29), 3) := chkD_at okX2_favouriteManner_0 22 rfl
theorem dX2_favouriteManner_40 : decode cX2_favouriteManner 40 = .ok (.iconst (-1), 1) := chkD_at okX2_favouriteManner_0 23 rfl
theorem dX2_favouriteManner_41 : decode cX2_favouriteManner 41 = .ok (.ireturn, 1) := chkD_at okX2_favouriteManner_0 24 rfl
theorem okX2_canCook_0 : chkD cX2_canCook [(0, .iload_n 2, 1), (1, .invokestatic 117, 3), (4, .istore_n 3, 1), (5, .aload_n 0, 1), (6, .getfield 9, 3), (9, .invokestatic 98, 3), (12, .istore 4, 2), (14, .iload_n 1, 1), (15, .iconst 2, 1), (16, .if_icmp .ne 18, 3), (19, .iload_n 3, 1), (20, .iload 4, 2), (22, .iconst (-1), 1), (23, .ixor, 1), (24, .iand, 1), (25, .ifCond .ne 7, 3), (28, .iconst 1, 1), (29, .goto 4, 3), (32, .iconst 0, 1), (33, .ireturn, 1), (34, .aload_n 0, 1), (35, .iload_n 3, 1), (36, .iload 4, 2), (38, .invokevirtual 102, 3), (41, .iload_n 2, 1), (42, .invokestatic 120, 3), (45, .invokestatic 78, 3), (48, .ireturn, 1)] = true := by decide +kernel
theorem dX2_canCook_0 : decode cX2_canCook 0 = .ok (.iload_n 2, 1) := chkD_at okX2_canCook_0 0 rfl
theorem dX2_canCook_1 : decode cX2_canCook 1 = .ok (.invokestatic 117, 3) := chkD_at okX2_canCook_0 1 rfl
theorem dX2_canCook_4 : decode cX2_canCook 4 = .ok (.istore_n 3, 1) := chkD_at okX2_canCook_0 2 rfl
theorem dX2_canCook_5 : decode cX2_canCook 5 = .ok (.aload_n 0, 1) := chkD_at okX2_canCook_0 3 rfl
theorem dX2_canCook_6 : decode cX2_canCook 6 = .ok (.getfield 9, 3) := chkD_at okX2_canCook_0 4 rfl
theorem dX2_canCook_9 : decode cX2_canCook 9 = .ok (.invokestatic 98, 3) := chkD_at okX2_canCook_0 5 rfl
theorem dX2_canCook_12 : decode cX2_canCook 12 = .ok (.istore 4, 2) := chkD_at okX2_canCook_0 6 rfl
theorem dX2_canCook_14 : decode cX2_canCook 14 = .ok (.iload_n 1, 1) := chkD_at okX2_canCook_0 7 rfl
theorem dX2_canCook_15 : decode cX2_canCook 15 = .ok (.iconst 2, 1) := chkD_at okX2_canCook_0 8 rfl
theorem dX2_canCook_16 : decode cX2_canCook 16 = .ok (.if_icmp .ne 18, 3) := chkD_at okX2_canCook_0 9 rfl
theorem dX2_canCook_19 : decode cX2_canCook 19 = .ok (.iload_n 3, 1) := chkD_at okX2_canCook_0 10 rfl
theorem dX2_canCook_20 : decode cX2_canCook 20 = .ok (.iload 4, 2) := chkD_at okX2_canCook_0 11 rfl
theorem dX2_canCook_22 : decode cX2_canCook 22 = .ok (.iconst (-1), 1) := chkD_at okX2_canCook_0 12 rfl
theorem dX2_canCook_23 : decode cX2_canCook 23 = .ok (.ixor, 1) := chkD_at okX2_canCook_0 13 rfl
theorem dX2_canCook_24 : decode cX2_canCook 24 = .ok (.iand, 1) := chkD_at okX2_canCook_0 14 rfl
theorem dX2_canCook_25 : decode cX2_canCook 25 = .ok (.ifCond .ne 7, 3) := chkD_at okX2_canCook_0 15 rfl
theorem dX2_canCook_28 : decode cX2_canCook 28 = .ok (.iconst 1, 1) := chkD_at okX2_canCook_0 16 rfl
theorem dX2_canCook_29 : decode cX2_canCook 29 = .ok (.goto 4, 3) := chkD_at okX2_canCook_0 17 rfl
theorem dX2_canCook_32 : decode cX2_canCook 32 = .ok (.iconst 0, 1) := chkD_at okX2_canCook_0 18 rfl
theorem dX2_canCook_33 : decode cX2_canCook 33 = .ok (.ireturn, 1) := chkD_at okX2_canCook_0 19 rfl
theorem dX2_canCook_34 : decode cX2_canCook 34 = .ok (.aload_n 0, 1) := chkD_at okX2_canCook_0 20 rfl
theorem dX2_canCook_35 : decode cX2_canCook 35 = .ok (.iload_n 3, 1) := chkD_at okX2_canCook_0 21 rfl
theorem dX2_canCook_36 : decode cX2_canCook 36 = .ok (.iload 4, 2) := chkD_at okX2_canCook_0 22 rfl
theorem dX2_canCook_38 : decode cX2_canCook 38 = .ok (.invokevirtual 102, 3) := chkD_at okX2_canCook_0 23 rfl
theorem dX2_canCook_41 : decode cX2_canCook 41 = .ok (.iload_n 2, 1) := chkD_at okX2_canCook_0 24 rfl
theorem dX2_canCook_42 : decode cX2_canCook 42 = .ok (.invokestatic 120, 3) := chkD_at okX2_canCook_0 25 rfl
theorem dX2_canCook_45 : decode cX2_canCook 45 = .ok (.invokestatic 78, 3) := chkD_at okX2_canCook_0 26 rfl
theorem dX2_canCook_48 : decode cX2_canCook 48 = .ok (.ireturn, 1) := chkD_at okX2_canCook_0 27 rfl
theorem okX2_cook_0 : chkD cX2_cook [(0, .aload_n 0, 1), (1, .getfield 9, 3), (4, .iload_n 2, 1), (5, .invokestatic 123, 3), (8, .aload_n 0, 1), (9, .getfield 18, 3), (12, .iload_n 1, 1), (13, .iload_n 2, 1), (14, .aload_n 0, 1), (15, .getfield 22, 3), (18, .invokevirtual 126, 3), (21, .return_, 1)] = true := by decide +kernel
theorem dX2_cook_0 : decode cX2_cook 0 = .ok (.aload_n 0, 1) := chkD_at okX2_cook_0 0 rfl
theorem dX2_cook_1 : decode cX2_cook 1 = .ok (.getfield 9, 3) := chkD_at okX2_cook_0 1 rfl
theorem dX2_cook_4 : decode cX2_cook 4 = .ok (.iload_n 2, 1) := chkD_at okX2_cook_0 2 rfl
theorem dX2_cook_5 : decode cX2_cook 5 = .ok (.invokestatic 123, 3) := chkD_at okX2_cook_0 3 rfl
theorem dX2_cook_8 : decode cX2_cook 8 = .ok (.aload_n 0, 1) := chkD_at okX2_cook_0 4 rfl
theorem dX2_cook_9 : decode cX2_cook 9 = .ok (.getfield 18, 3) := chkD_at okX2_cook_0 5 rfl
theorem dX2_cook_12 : decode cX2_cook 12 = .ok (.iload_n 1, 1) := chkD_at okX2_cook_0 6 rfl
theorem dX2_cook_13 : decode cX2_cook 13 = .ok (.iload_n 2, 1) := chkD_at okX2_cook_0 7 rfl
theorem dX2_cook_14 : decode cX2_cook 14 = .ok (.aload_n 0, 1) := chkD_at okX2_cook_0 8 rfl
theorem dX2_cook_15 : decode cX2_cook 15 = .ok (.getfield 22, 3) := chkD_at okX2_cook_0 9 rfl
theorem dX2_cook_18 : decode cX2_cook 18 = .ok (.invokevirtual 126, 3) := chkD_at okX2_cook_0 10 rfl
theorem dX2_cook_21 : decode cX2_cook 21 = .ok (.return_, 1) := chkD_at okX2_cook_0 11 rfl
theorem okX2_cookFavourite_0 : chkD cX2_cookFavourite [(0, .aload_n 0, 1), (1, .invokevirtual 130, 3), (4, .istore_n 2, 1), (5, .iload_n 2, 1), (6, .ifCond .lt 9, 3), (9, .aload_n 0, 1), (10, .iload_n 1, 1), (11, .iload_n 2, 1), (12, .invokevirtual 134, 3), (15, .iload_n 2, 1), (16, .ireturn, 1)] = true := by decide +kernel
theorem dX2_cookFavourite_0 : decode cX2_cookFavourite 0 = .ok (.aload_n 0, 1) := chkD_at okX2_cookFavourite_0 0 rfl
theorem dX2_cookFavourite_1 : decode cX2_cookFavourite 1 = .ok (.invokevirtual 130, 3) := chkD_at okX2_cookFavourite_0 1 rfl
theorem dX2_cookFavourite_4 : decode cX2_cookFavourite 4 = .ok (.istore_n 2, 1) := chkD_at okX2_cookFavourite_0 2 rfl
theorem dX2_cookFavourite_5 : decode cX2_cookFavourite 5 = .ok (.iload_n 2, 1) := chkD_at okX2_cookFavourite_0 3 rfl
theorem dX2_cookFavourite_6 : decode cX2_cookFavourite 6 = .ok (.ifCond .lt 9, 3) := chkD_at okX2_cookFavourite_0 4 rfl
theorem dX2_cookFavourite_9 : decode cX2_cookFavourite 9 = .ok (.aload_n 0, 1) := chkD_at okX2_cookFavourite_0 5 rfl
theorem dX2_cookFavourite_10 : decode cX2_cookFavourite 10 = .ok (.iload_n 1, 1) := chkD_at okX2_cookFavourite_0 6 rfl
theorem dX2_cookFavourite_11 : decode cX2_cookFavourite 11 = .ok (.iload_n 2, 1) := chkD_at okX2_cookFavourite_0 7 rfl
theorem dX2_cookFavourite_12 : decode cX2_cookFavourite 12 = .ok (.invokevirtual 134, 3) := chkD_at okX2_cookFavourite_0 8 rfl
theorem dX2_cookFavourite_15 : decode cX2_cookFavourite 15 = .ok (.iload_n 2, 1) := chkD_at okX2_cookFavourite_0 9 rfl
theorem dX2_cookFavourite_16 : decode cX2_cookFavourite 16 = .ok (.ireturn, 1) := chkD_at okX2_cookFavourite_0 10 rfl
theorem okX2_mealsLeft_0 : chkD cX2_mealsLeft [(0, .iconst 0, 1), (1, .istore_n 2, 1), (2, .iload_n 2, 1), (3, .bipush 60, 2), (5, .if_icmp .ge 19, 3), (8, .aload_n 0, 1), (9, .iload_n 1, 1), (10, .invokevirtual 138, 3), (13, .ifCond .ge 5, 3), (16, .iload_n 2, 1), (17, .ireturn, 1), (18, .iinc 2 1, 3), (21, .goto (-19), 3), (24, .bipush 60, 2), (26, .ireturn, 1)] = true := by decide +kernel
theorem dX2_mealsLeft_0 : decode cX2_mealsLeft 0 = .ok (.iconst 0, 1) := chkD_at okX2_mealsLeft_0 0 rfl
theorem dX2_mealsLeft_1 : decode cX2_mealsLeft 1 = .ok (.istore_n 2, 1) := chkD_at okX2_mealsLeft_0 1 rfl
theorem dX2_mealsLeft_2 : decode cX2_mealsLeft 2 = .ok (.iload_n 2, 1) := chkD_at okX2_mealsLeft_0 2 rfl
theorem dX2_mealsLeft_3 : decode cX2_mealsLeft 3 = .ok (.bipush 60, 2) := chkD_at okX2_mealsLeft_0 3 rfl
theorem dX2_mealsLeft_5 : decode cX2_mealsLeft 5 = .ok (.if_icmp .ge 19, 3) := chkD_at okX2_mealsLeft_0 4 rfl
theorem dX2_mealsLeft_8 : decode cX2_mealsLeft 8 = .ok (.aload_n 0, 1) := chkD_at okX2_mealsLeft_0 5 rfl
theorem dX2_mealsLeft_9 : decode cX2_mealsLeft 9 = .ok (.iload_n 1, 1) := chkD_at okX2_mealsLeft_0 6 rfl
theorem dX2_mealsLeft_10 : decode cX2_mealsLeft 10 = .ok (.invokevirtual 138, 3) := chkD_at okX2_mealsLeft_0 7 rfl
theorem dX2_mealsLeft_13 : decode cX2_mealsLeft 13 = .ok (.ifCond .ge 5, 3) := chkD_at okX2_mealsLeft_0 8 rfl
theorem dX2_mealsLeft_16 : decode cX2_mealsLeft 16 = .ok (.iload_n 2, 1) := chkD_at okX2_mealsLeft_0 9 rfl
theorem dX2_mealsLeft_17 : decode cX2_mealsLeft 17 = .ok (.ireturn, 1) := chkD_at okX2_mealsLeft_0 10 rfl
theorem dX2_mealsLeft_18 : decode cX2_mealsLeft 18 = .ok (.iinc 2 1, 3) := chkD_at okX2_mealsLeft_0 11 rfl
theorem dX2_mealsLeft_21 : decode cX2_mealsLeft 21 = .ok (.goto (-19), 3) := chkD_at okX2_mealsLeft_0 12 rfl
theorem dX2_mealsLeft_24 : decode cX2_mealsLeft 24 = .ok (.bipush 60, 2) := chkD_at okX2_mealsLeft_0 13 rfl
theorem dX2_mealsLeft_26 : decode cX2_mealsLeft 26 = .ok (.ireturn, 1) := chkD_at okX2_mealsLeft_0 14 rfl
theorem okX3_init_0 : chkD cX3_init [(0, .aload_n 0, 1), (1, .invokespecial 3, 3), (4, .aload_n 0, 1), (5, .sipush 256, 3), (8, .newarray .int, 2), (10, .putfield 9, 3), (13, .aload_n 0, 1), (14, .sipush 256, 3), (17, .newarray .int, 2), (19, .putfield 15, 3), (22, .return_, 1)] = true := by decide +kernel
theorem dX3_init_0 : decode cX3_init 0 = .ok (.aload_n 0, 1) := chkD_at okX3_init_0 0 rfl
theorem dX3_init_1 : decode cX3_init 1 = .ok (.invokespecial 3, 3) := chkD_at okX3_init_0 1 rfl
theorem dX3_init_4 : decode cX3_init 4 = .ok (.aload_n 0, 1) := chkD_at okX3_init_0 2 rfl
theorem dX3_init_5 : decode cX3_init 5 = .ok (.sipush 256, 3) := chkD_at okX3_init_0 3 rfl
theorem dX3_init_8 : decode cX3_init 8 = .ok (.newarray .int, 2) := chkD_at okX3_init_0 4 rfl
theorem dX3_init_10 : decode cX3_init 10 = .ok (.putfield 9, 3) := chkD_at okX3_init_0 5 rfl
theorem dX3_init_13 : decode cX3_init 13 = .ok (.aload_n 0, 1) := chkD_at okX3_init_0 6 rfl
theorem dX3_init_14 : decode cX3_init 14 = .ok (.sipush 256, 3) := chkD_at okX3_init_0 7 rfl
theorem dX3_init_17 : decode cX3_init 17 = .ok (.newarray .int, 2) := chkD_at okX3_init_0 8 rfl
theorem dX3_init_19 : decode cX3_init 19 = .ok (.putfield 15, 3) := chkD_at okX3_init_0 9 rfl
theorem dX3_init_22 : decode cX3_init 22 = .ok (.return_, 1) := chkD_at okX3_init_0 10 rfl
theorem okX3_reach_0 : chkD cX3_reach [(0, .aload_n 0, 1), (1, .iload_n 1, 1), (2, .invokevirtual 18, 3), (5, .iconst 1, 1), (6, .istore 4, 2), (8, .iconst 0, 1), (9, .istore 5, 2), (11, .iload 5, 2), (13, .iload_n 2, 1), (14, .if_icmp .ge 21, 3), (17, .iload 4, 2), (19, .ifCond .eq 16, 3), (22, .aload_n 0, 1), (23, .aload_n 3, 1), (24, .invokevirtual 22, 3), (27, .istore 4, 2), (29, .iinc 5 1, 3), (32, .goto (-21), 3), (35, .return_, 1)] = true := by decide +kernel
theorem dX3_reach_0 : decode cX3_reach 0 = .ok (.aload_n 0, 1) := chkD_at okX3_reach_0 0 rfl
theorem dX3_reach_1 : decode cX3_reach 1 = .ok (.iload_n 1, 1) := chkD_at okX3_reach_0 1 rfl
theorem dX3_reach_2 : decode cX3_reach 2 = .ok (.invokevirtual 18, 3) := chkD_at okX3_reach_0 2 rfl
theorem dX3_reach_5 : decode cX3_reach 5 = .ok (.iconst 1, 1) := chkD_at okX3_reach_0 3 rfl
theorem dX3_reach_6 : decode cX3_reach 6 = .ok (.istore 4, 2) := chkD_at okX3_reach_0 4 rfl
theorem dX3_reach_8 : decode cX3_reach 8 = .ok (.iconst 0, 1) := chkD_at okX3_reach_0 5 rfl
theorem dX3_reach_9 : decode cX3_reach 9 = .ok (.istore 5, 2) := chkD_at okX3_reach_0 6 rfl
theorem dX3_reach_11 : decode cX3_reach 11 = .ok (.iload 5, 2) := chkD_at okX3_reach_0 7 rfl
theorem dX3_reach_13 : decode cX3_reach 13 = .ok (.iload_n 2, 1) := chkD_at okX3_reach_0 8 rfl
theorem dX3_reach_14 : decode cX3_reach 14 = .ok (.if_icmp .ge 21, 3) := chkD_at okX3_reach_0 9 rfl
theorem dX3_reach_17 : decode cX3_reach 17 = .ok (.iload 4, 2) := chkD_at okX3_reach_0 10 rfl
theorem dX3_reach_19 : decode cX3_reach 19 = .ok (.ifCond .eq 16, 3) := chkD_at okX3_reach_0 11 rfl
theorem dX3_reach_22 : decode cX3_reach 22 = .ok (.aload_n 0, 1) := chkD_at okX3_reach_0 12 rfl
theorem dX3_reach_23 : decode cX3_reach 23 = .ok (.aload_n 3, 1) := chkD_at okX3_reach_0 13 rfl
theorem dX3_reach_24 : decode cX3_reach 24 = .ok (.invokevirtual 22, 3) := chkD_at okX3_reach_0 14 rfl
theorem dX3_reach_27 : decode cX3_reach 27 = .ok (.istore 4, 2) := chkD_at okX3_reach_0 15 rfl
theorem dX3_reach_29 : decode cX3_reach 29 = .ok (.iinc 5 1, 3) := chkD_at okX3_reach_0 16 rfl
theorem dX3_reach_32 : decode cX3_reach 32 = .ok (.goto (-21), 3) := chkD_at okX3_reach_0 17 rfl
theorem dX3_reach_35 : decode cX3_reach 35 = .ok (.return_, 1) := chkD_at okX3_reach_0 18 rfl
theorem okX3_stepsBetween_0 : chkD cX3_stepsBetween [(0, .aload_n 0, 1), (1, .iload_n 1, 1), (2, .invokevirtual 18, 3), (5, .iconst 0, 1), (6, .istore 4, 2), (8, .iload 4, 2), (10, .sipush 1840, 3), (13, .if_icmp .gt 41, 3), (16, .aload_n 0, 1), (17, .getfield 9, 3), (20, .iload_n 2, 1), (21, .invokestatic 26, 3), (24, .iaload, 1), (25, .iload_n 2, 1), (26, .invokestatic 30, 3), (29, .invokestatic 33, 3), (32, .ifCond .eq 6, 3), (35, .iload 4, 2), (37, .ireturn, 1), (38, .aload_n 0, 1), (39, .aload_n 3, 1), (40, .invokevirtual 22, 3), (43, .ifCond .ne 5, 3), (46, .iconst (-1), 1), (47, .ireturn, 1), (48, .iinc 4 1, 3), (51, .goto (-43), 3), (54, .iconst (-1), 1), (55, .ireturn, 1)] = true := by decide +kernel
theorem dX3_stepsBetween_0 : decode cX3_stepsBetween 0 = .ok (.aload_n 0, 1) := chkD_at okX3_stepsBetween_0 0 rfl
theorem dX3_stepsBetween_1 : decode cX3_stepsBetween 1 = .ok (.iload_n 1, 1) := chkD_at okX3_stepsBetween_0 1 rfl
theorem dX3_stepsBetween_2 : decode cX3_stepsBetween 2 = .ok (.invokevirtual 18, 3) := chkD_at okX3_stepsBetween_0 2 rfl
theorem dX3_stepsBetween_5 : decode cX3_stepsBetween 5 = .ok (.iconst 0, 1) := chkD_at okX3_stepsBetween_0 3 rfl
theorem dX3_stepsBetween_6 : decode cX3_stepsBetween 6 = .ok (.istore 4, 2) := chkD_at okX3_stepsBetween_0 4 rfl
theorem dX3_stepsBetween_8 : decode cX3_stepsBetween 8 = .ok (.iload 4, 2) := chkD_at okX3_stepsBetween_0 5 rfl
theorem dX3_stepsBetween_10 : decode cX3_stepsBetween 10 = .ok (.sipush 1840, 3) := chkD_at okX3_stepsBetween_0 6 rfl
theorem dX3_stepsBetween_13 : decode cX3_stepsBetween 13 = .ok (.if_icmp .gt 41, 3) := chkD_at okX3_stepsBetween_0 7 rfl
theorem dX3_stepsBetween_16 : decode cX3_stepsBetween 16 = .ok (.aload_n 0, 1) := chkD_at okX3_stepsBetween_0 8 rfl
theorem dX3_stepsBetween_17 : decode cX3_stepsBetween 17 = .ok (.getfield 9, 3) := chkD_at okX3_stepsBetween_0 9 rfl
theorem dX3_stepsBetween_20 : decode cX3_stepsBetween 20 = .ok (.iload_n 2, 1) := chkD_at okX3_stepsBetween_0 10 rfl
theorem dX3_stepsBetween_21 : decode cX3_stepsBetween 21 = .ok (.invokestatic 26, 3) := chkD_at okX3_stepsBetween_0 11 rfl
theorem dX3_stepsBetween_24 : decode cX3_stepsBetween 24 = .ok (.iaload, 1) := chkD_at okX3_stepsBetween_0 12 rfl
theorem dX3_stepsBetween_25 : decode cX3_stepsBetween 25 = .ok (.iload_n 2, 1) := chkD_at okX3_stepsBetween_0 13 rfl
theorem dX3_stepsBetween_26 : decode cX3_stepsBetween 26 = .ok (.invokestatic 30, 3) := chkD_at okX3_stepsBetween_0 14 rfl
theorem dX3_stepsBetween_29 : decode cX3_stepsBetween 29 = .ok (.invokestatic 33, 3) := chkD_at okX3_stepsBetween_0 15 rfl
theorem dX3_stepsBetween_32 : decode cX3_stepsBetween 32 = .ok (.ifCond .eq 6, 3) := chkD_at okX3_stepsBetween_0 16 rfl
theorem dX3_stepsBetween_35 : decode cX3_stepsBetween 35 = .ok (.iload 4, 2) := chkD_at okX3_stepsBetween_0 17 rfl
theorem dX3_stepsBetween_37 : decode cX3_stepsBetween 37 = .ok (.ireturn, 1) := chkD_at okX3_stepsBetween_0 18 rfl
theorem dX3_stepsBetween_38 : decode cX3_stepsBetween 38 = .ok (.aload_n 0, 1) := chkD_at okX3_stepsBetween_0 19 rfl
theorem dX3_stepsBetween_39 : decode cX3_stepsBetween 39 = .ok (.aload_n 3, 1) := chkD_at okX3_stepsBetween_0 20 rfl
theorem dX3_stepsBetween_40 : decode cX3_stepsBetween 40 = .ok (.invokevirtual 22, 3) := chkD_at okX3_stepsBetween_0 21 rfl
theorem dX3_stepsBetween_43 : decode cX3_stepsBetween 43 = .ok (.ifCond .ne 5, 3) := chkD_at okX3_stepsBetween_0 22 rfl
theorem dX3_stepsBetween_46 : decode cX3_stepsBetween 46 = .ok (.iconst (-1), 1) := chkD_at okX3_stepsBetween_0 23 rfl
theorem dX3_stepsBetween_47 : decode cX3_stepsBetween 47 = .ok (.ireturn, 1) := chkD_at okX3_stepsBetween_0 24 rfl
theorem dX3_stepsBetween_48 : decode cX3_stepsBetween 48 = .ok (.iinc 4 1, 3) := chkD_at okX3_stepsBetween_0 25 rfl
theorem dX3_stepsBetween_51 : decode cX3_stepsBetween 51 = .ok (.goto (-43), 3) := chkD_at okX3_stepsBetween_0 26 rfl
theorem dX3_stepsBetween_54 : decode cX3_stepsBetween 54 = .ok (.iconst (-1), 1) := chkD_at okX3_stepsBetween_0 27 rfl
theorem dX3_stepsBetween_55 : decode cX3_stepsBetween 55 = .ok (.ireturn, 1) := chkD_at okX3_stepsBetween_0 28 rfl
theorem okX3_setOut_0 : chkD cX3_setOut [(0, .aload_n 0, 1), (1, .getfield 9, 3), (4, .iconst 0, 1), (5, .invokestatic 37, 3), (8, .aload_n 0, 1), (9, .getfield 9, 3), (12, .iload_n 1, 1), (13, .invokestatic 26, 3), (16, .iconst 1, 1), (17, .iload_n 1, 1), (18, .invokestatic 30, 3), (21, .ishl, 1), (22, .iastore, 1), (23, .return_, 1)] = true := by decide +kernel
theorem dX3_setOut_0 : decode cX3_setOut 0 = .ok (.aload_n 0, 1) := chkD_at okX3_setOut_0 0 rfl
theorem dX3_setOut_1 : decode cX3_setOut 1 = .ok (.getfield 9, 3) := chkD_at okX3_setOut_0 1 rfl
theorem dX3_setOut_4 : decode cX3_setOut 4 = .ok (.iconst 0, 1) := chkD_at okX3_setOut_0 2 rfl
theorem dX3_setOut_5 : decode cX3_setOut 5 = .ok (.invokestatic 37, 3) := chkD_at okX3_setOut_0 3 rfl
theorem dX3_setOut_8 : decode cX3_setOut 8 = .ok (.aload_n 0, 1) := chkD_at okX3_setOut_0 4 rfl
theorem dX3_setOut_9 : decode cX3_setOut 9 = .ok (.getfield 9, 3) := chkD_at okX3_setOut_0 5 rfl
theorem dX3_setOut_12 : decode cX3_setOut 12 = .ok (.iload_n 1, 1) := chkD_at okX3_setOut_0 6 rfl
theorem dX3_setOut_13 : decode cX3_setOut 13 = .ok (.invokestatic 26, 3) := chkD_at okX3_setOut_0 7 rfl
theorem dX3_setOut_16 : decode cX3_setOut 16 = .ok (.iconst 1, 1) := chkD_at okX3_setOut_0 8 rfl
theorem dX3_setOut_17 : decode cX3_setOut 17 = .ok (.iload_n 1, 1) := chkD_at okX3_setOut_0 9 rfl
theorem dX3_setOut_18 : decode cX3_setOut 18 = .ok (.invokestatic 30, 3) := chkD_at okX3_setOut_0 10 rfl
theorem dX3_setOut_21 : decode cX3_setOut 21 = .ok (.ishl, 1) := chkD_at okX3_setOut_0 11 rfl
theorem dX3_setOut_22 : decode cX3_setOut 22 = .ok (.iastore, 1) := chkD_at okX3_setOut_0 12 rfl
theorem dX3_setOut_23 : decode cX3_setOut 23 = .ok (.return_, 1) := chkD_at okX3_setOut_0 13 rfl
theorem okX3_goFurther_0 : chkD cX3_goFurther [(0, .aload_n 0, 1), (1, .getfield 9, 3), (4, .iconst 0, 1), (5, .aload_n 0, 1), (6, .getfield 15, 3), (9, .iconst 0, 1), (10, .sipush 256, 3), (13, .invokestatic 43, 3), (16, .aload_n 1, 1), (17, .getfield 49, 3), (20, .invokestatic 54, 3), (23, .istore_n 2, 1), (24, .iconst 0, 1), (25, .istore_n 3, 1), (26, .iconst 0, 1), (27, .istore 4, 2), (29, .iload 4, 2), (31, .getstatic 58, 3), (34, .arraylength, 1), (35, .if_icmp .ge 98, 3), (38, .getstatic 58, 3), (41, .iload 4, 2), (43, .iaload, 1), (44, .istore 5, 2), (46, .aload_n 1, 1), (47, .iload 5, 2), (49, .iload_n 2, 1), (50, .invokevirtual 61, 3), (53, .aload_n 0, 1), (54, .getfield 15, 3), (57, .iload 5, 2), (59, .iaload, 1), (60, .iconst (-1), 1), (61, .ixor, 1), (62, .iand, 1), (63, .istore 6, 2), (65, .iload 6, 2), (67, .ifCond .eq 60, 3), (70, .aload_n 0, 1), (71, .getfield 9, 3), (74, .iload 5, 2), (76, .dup2, 1), (77, .iaload, 1), (78, .iload 6, 2), (80, .aload_n 0, 1), (81, .getfield 15, 3), (84, .iload 5, 2), (86, .iaload, 1), (87, .invokestatic 65, 3), (90, .aload_n 0, 1), (91, .iload 5, 2), (93, .invokevirtual 68, 3), (96, .ior, 1), (97, .iand, 1), (98, .ior, 1), (99, .iastore, 1), (100, .iload_n 3, 1), (101, .ifCond .ne 20, 3), (104, .aload_n 0, 1), (105, .getfield 9, 3), (108, .iload 5, 2), (110, .iaload, 1), (111, .aload_n 0, 1), (112, .getfield 15, 3), (115, .iload 5, 2), (117, .iaload, 1), (118, .if_icmp .eq 7, 3), (121, .iconst 1, 1), (122, .goto 4, 3), (125, .iconst 0, 1), (126, .istore_n 3, 1), (127, .iinc 4 1, 3), (130, .goto (-101), 3), (133, .iload_n 3, 1), (134, .ireturn, 1)] = true := by decide +kernel
theorem dX3_goFurther_0 : decode cX3_goFurther 0 = .ok (.aload_n 0, 1) := chkD_at okX3_goFurther_0 0 rfl
theorem dX3_goFurther_1 : decode cX3_goFurther 1 = .ok (.getfield 9, 3) := chkD_at okX3_goFurther_0 1 rfl
theorem dX3_goFurther_4 : decode cX3_goFurther 4 = .ok (.iconst 0, 1) := chkD_at okX3_goFurther_0 2 rfl
theorem dX3_goFurther_5 : decode cX3_goFurther 5 = .ok (.aload_n 0, 1) := chkD_at okX3_goFurther_0 3 rfl
theorem dX3_goFurther_6 : decode cX3_goFurther 6 = .ok (.getfield 15, 3) := chkD_at okX3_goFurther_0 4 rfl
theorem dX3_goFurther_9 : decode cX3_goFurther 9 = .ok (.iconst 0, 1) := chkD_at okX3_goFurther_0 5 rfl
theorem dX3_goFurther_10 : decode cX3_goFurther 10 = .ok (.sipush 256, 3) := chkD_at okX3_goFurther_0 6 rfl
theorem dX3_goFurther_13 : decode cX3_goFurther 13 = .ok (.invokestatic 43, 3) := chkD_at okX3_goFurther_0 7 rfl
theorem dX3_goFurther_16 : decode cX3_goFurther 16 = .ok (.aload_n 1, 1) := chkD_at okX3_goFurther_0 8 rfl
theorem dX3_goFurther_17 : decode cX3_goFurther 17 = .ok (.getfield 49, 3) := chkD_at okX3_goFurther_0 9 rfl
theorem dX3_goFurther_20 : decode cX3_goFurther 20 = .ok (.invokestatic 54, 3) := chkD_at okX3_goFurther_0 10 rfl
theorem dX3_goFurther_23 : decode cX3_goFurther 23 = .ok (.istore_n 2, 1) := chkD_at okX3_goFurther_0 11 rfl
theorem dX3_goFurther_24 : decode cX3_goFurther 24 = .ok (.iconst 0, 1) := chkD_at okX3_goFurther_0 12 rfl
theorem dX3_goFurther_25 : decode cX3_goFurther 25 = .ok (.istore_n 3, 1) := chkD_at okX3_goFurther_0 13 rfl
theorem dX3_goFurther_26 : decode cX3_goFurther 26 = .ok (.iconst 0, 1) := chkD_at okX3_goFurther_0 14 rfl
theorem dX3_goFurther_27 : decode cX3_goFurther 27 = .ok (.istore 4, 2) := chkD_at okX3_goFurther_0 15 rfl
theorem dX3_goFurther_29 : decode cX3_goFurther 29 = .ok (.iload 4, 2) := chkD_at okX3_goFurther_0 16 rfl
theorem dX3_goFurther_31 : decode cX3_goFurther 31 = .ok (.getstatic 58, 3) := chkD_at okX3_goFurther_0 17 rfl
theorem dX3_goFurther_34 : decode cX3_goFurther 34 = .ok (.arraylength, 1) := chkD_at okX3_goFurther_0 18 rfl
theorem dX3_goFurther_35 : decode cX3_goFurther 35 = .ok (.if_icmp .ge 98, 3) := chkD_at okX3_goFurther_0 19 rfl
theorem dX3_goFurther_38 : decode cX3_goFurther 38 = .ok (.getstatic 58, 3) := chkD_at okX3_goFurther_0 20 rfl
theorem dX3_goFurther_41 : decode cX3_goFurther 41 = .ok (.iload 4, 2) := chkD_at okX3_goFurther_0 21 rfl
theorem dX3_goFurther_43 : decode cX3_goFurther 43 = .ok (.iaload, 1) := chkD_at okX3_goFurther_0 22 rfl
theorem dX3_goFurther_44 : decode cX3_goFurther 44 = .ok (.istore 5, 2) := chkD_at okX3_goFurther_0 23 rfl
theorem dX3_goFurther_46 : decode cX3_goFurther 46 = .ok (.aload_n 1, 1) := chkD_at okX3_goFurther_0 24 rfl
theorem dX3_goFurther_47 : decode cX3_goFurther 47 = .ok (.iload 5, 2) := chkD_at okX3_goFurther_0 25 rfl
theorem dX3_goFurther_49 : decode cX3_goFurther 49 = .ok (.iload_n 2, 1) := chkD_at okX3_goFurther_0 26 rfl
theorem dX3_goFurther_50 : decode cX3_goFurther 50 = .ok (.invokevirtual 61, 3) := chkD_at okX3_goFurther_0 27 rfl
theorem dX3_goFurther_53 : decode cX3_goFurther 53 = .ok (.aload_n 0, 1) := chkD_at okX3_goFurther_0 28 rfl
theorem dX3_goFurther_54 : decode cX3_goFurther 54 = .ok (.getfield 15, 3) := chkD_at okX3_goFurther_0 29 rfl
theorem dX3_goFurther_57 : decode cX3_goFurther 57 = .ok (.iload 5, 2) := chkD_at okX3_goFurther_0 30 rfl
theorem dX3_goFurther_59 : decode cX3_goFurther 59 = .ok (.iaload, 1) := chkD_at okX3_goFurther_0 31 rfl
theorem dX3_goFurther_60 : decode cX3_goFurther 60 = .ok (.iconst (-1), 1) := chkD_at okX3_goFurther_0 32 rfl
theorem dX3_goFurther_61 : decode cX3_goFurther 61 = .ok (.ixor, 1) := chkD_at okX3_goFurther_0 33 rfl
theorem dX3_goFurther_62 : decode cX3_goFurther 62 = .ok (.iand, 1) := chkD_at okX3_goFurther_0 34 rfl
theorem dX3_goFurther_63 : decode cX3_goFurther 63 = .ok (.istore 6, 2) := chkD_at okX3_goFurther_0 35 rfl
theorem dX3_goFurther_65 : decode cX3_goFurther 65 = .ok (.iload 6, 2) := chkD_at okX3_goFurther_0 36 rfl
theorem dX3_goFurther_67 : decode cX3_goFurther 67 = .ok (.ifCond .eq 60, 3) := chkD_at okX3_goFurther_0 37 rfl
theorem dX3_goFurther_70 : decode cX3_goFurther 70 = .ok (.aload_n 0, 1) := chkD_at okX3_goFurther_0 38 rfl
theorem dX3_goFurther_71 : decode cX3_goFurther 71 = .ok (.getfield 9, 3) := chkD_at okX3_goFurther_0 39 rfl
theorem dX3_goFurther_74 : decode cX3_goFurther 74 = .ok (.iload 5, 2) := chkD_at okX3_goFurther_0 40 rfl
theorem dX3_goFurther_76 : decode cX3_goFurther 76 = .ok (.dup2, 1) := chkD_at okX3_goFurther_0 41 rfl
theorem dX3_goFurther_77 : decode cX3_goFurther 77 = .ok (.iaload, 1) := chkD_at okX3_goFurther_0 42 rfl
theorem dX3_goFurther_78 : decode cX3_goFurther 78 = .ok (.iload 6, 2) := chkD_at okX3_goFurther_0 43 rfl
theorem dX3_goFurther_80 : decode cX3_goFurther 80 = .ok (.aload_n 0, 1) := chkD_at okX3_goFurther_0 44 rfl
theorem dX3_goFurther_81 : decode cX3_goFurther 81 = .ok (.getfield 15, 3) := chkD_at okX3_goFurther_0 45 rfl
theorem dX3_goFurther_84 : decode cX3_goFurther 84 = .ok (.iload 5, 2) := chkD_at okX3_goFurther_0 46 rfl
theorem dX3_goFurther_86 : decode cX3_goFurther 86 = .ok (.iaload, 1) := chkD_at okX3_goFurther_0 47 rfl
theorem dX3_goFurther_87 : decode cX3_goFurther 87 = .ok (.invokestatic 65, 3) := chkD_at okX3_goFurther_0 48 rfl
theorem dX3_goFurther_90 : decode cX3_goFurther 90 = .ok (.aload_n 0, 1) := chkD_at okX3_goFurther_0 49 rfl
theorem dX3_goFurther_91 : decode cX3_goFurther 91 = .ok (.iload 5, 2) := chkD_at okX3_goFurther_0 50 rfl
theorem dX3_goFurther_93 : decode cX3_goFurther 93 = .ok (.invokevirtual 68, 3) := chkD_at okX3_goFurther_0 51 rfl
theorem dX3_goFurther_96 : decode cX3_goFurther 96 = .ok (.ior, 1) := chkD_at okX3_goFurther_0 52 rfl
theorem dX3_goFurther_97 : decode cX3_goFurther 97 = .ok (.iand, 1) := chkD_at okX3_goFurther_0 53 rfl
theorem dX3_goFurther_98 : decode cX3_goFurther 98 = .ok (.ior, 1) := chkD_at okX3_goFurther_0 54 rfl
theorem dX3_goFurther_99 : decode cX3_goFurther 99 = .ok (.iastore, 1) := chkD_at okX3_goFurther_0 55 rfl
theorem dX3_goFurther_100 : decode cX3_goFurther 100 = .ok (.iload_n 3, 1) := chkD_at okX3_goFurther_0 56 rfl
theorem dX3_goFurther_101 : decode cX3_goFurther 101 = .ok (.ifCond .ne 20, 3) := chkD_at okX3_goFurther_0 57 rfl
theorem dX3_goFurther_104 : decode cX3_goFurther 104 = .ok (.aload_n 0, 1) := chkD_at okX3_goFurther_0 58 rfl
theorem dX3_goFurther_105 : decode cX3_goFurther 105 = .ok (.getfield 9, 3) := chkD_at okX3_goFurther_0 59 rfl
theorem dX3_goFurther_108 : decode cX3_goFurther 108 = .ok (.iload 5, 2) := chkD_at okX3_goFurther_0 60 rfl
theorem dX3_goFurther_110 : decode cX3_goFurther 110 = .ok (.iaload, 1) := chkD_at okX3_goFurther_0 61 rfl
theorem dX3_goFurther_111 : decode cX3_goFurther 111 = .ok (.aload_n 0, 1) := chkD_at okX3_goFurther_0 62 rfl
theorem dX3_goFurther_112 : decode cX3_goFurther 112 = .ok (.getfield 15, 3) := chkD_at okX3_goFurther_0 63 rfl
theorem dX3_goFurther_115 : decode cX3_goFurther 115 = .ok (.iload 5, 2) := chkD_at okX3_goFurther_0 64 rfl
theorem dX3_goFurther_117 : decode cX3_goFurther 117 = .ok (.iaload, 1) := chkD_at okX3_goFurther_0 65 rfl
theorem dX3_goFurther_118 : decode cX3_goFurther 118 = .ok (.if_icmp .eq 7, 3) := chkD_at okX3_goFurther_0 66 rfl
theorem dX3_goFurther_121 : decode cX3_goFurther 121 = .ok (.iconst 1, 1) := chkD_at okX3_goFurther_0 67 rfl
theorem dX3_goFurther_122 : decode cX3_goFurther 122 = .ok (.goto 4, 3) := chkD_at okX3_goFurther_0 68 rfl
theorem dX3_goFurther_125 : decode cX3_goFurther 125 = .ok (.iconst 0, 1) := chkD_at okX3_goFurther_0 69 rfl
theorem dX3_goFurther_126 : decode cX3_goFurther 126 = .ok (.istore_n 3, 1) := chkD_at okX3_goFurther_0 70 rfl
theorem dX3_goFurther_127 : decode cX3_goFurther 127 = .ok (.iinc 4 1, 3) := chkD_at okX3_goFurther_0 71 rfl
theorem dX3_goFurther_130 : decode cX3_goFurther 130 = .ok (.goto (-101), 3) := chkD_at okX3_goFurther_0 72 rfl
theorem dX3_goFurther_133 : decode cX3_goFurther 133 = .ok (.iload_n 3, 1) := chkD_at okX3_goFurther_0 73 rfl
theorem dX3_goFurther_134 : decode cX3_goFurther 134 = .ok (.ireturn, 1) := chkD_at okX3_goFurther_0 74 rfl
theorem okX3_fromOtherSets_0 : chkD cX3_fromOtherSets [(0, .iconst 0, 1), (1, .istore_n 2, 1), (2, .iconst 0, 1), (3, .istore_n 3, 1), (4, .iload_n 3, 1), (5, .bipush 8, 2), (7, .if_icmp .ge 22, 3), (10, .iload_n 2, 1), (11, .aload_n 0, 1), (12, .getfield 15, 3), (15, .iload_n 1, 1), (16, .iconst 1, 1), (17, .iload_n 3, 1), (18, .ishl, 1), (19, .ixor, 1), (20, .iaload, 1), (21, .ior, 1), (22, .istore_n 2, 1), (23, .iinc 3 1, 3), (26, .goto (-22), 3), (29, .iload_n 2, 1), (30, .ireturn, 1)] = true := by decide +kernel
theorem dX3_fromOtherSets_0 : decode cX3_fromOtherSets 0 = .ok (.iconst 0, 1) := chkD_at okX3_fromOtherSets_0 0 rfl
theorem dX3_fromOtherSets_1 : decode cX3_fromOtherSets 1 = .ok (.istore_n 2, 1) := chkD_at okX3_fromOtherSets_0 1 rfl
theorem dX3_fromOtherSets_2 : decode cX3_fromOtherSets 2 = .ok (.iconst 0, 1) := chkD_at okX3_fromOtherSets_0 2 rfl
theorem dX3_fromOtherSets_3 : decode cX3_fromOtherSets 3 = .ok (.istore_n 3, 1) := chkD_at okX3_fromOtherSets_0 3 rfl
theorem dX3_fromOtherSets_4 : decode cX3_fromOtherSets 4 = .ok (.iload_n 3, 1) := chkD_at okX3_fromOtherSets_0 4 rfl
theorem dX3_fromOtherSets_5 : decode cX3_fromOtherSets 5 = .ok (.bipush 8, 2) := chkD_at okX3_fromOtherSets_0 5 rfl
theorem dX3_fromOtherSets_7 : decode cX3_fromOtherSets 7 = .ok (.if_icmp .ge 22, 3) := chkD_at okX3_fromOtherSets_0 6 rfl
theorem dX3_fromOtherSets_10 : decode cX3_fromOtherSets 10 = .ok (.iload_n 2, 1) := chkD_at okX3_fromOtherSets_0 7 rfl
theorem dX3_fromOtherSets_11 : decode cX3_fromOtherSets 11 = .ok (.aload_n 0, 1) := chkD_at okX3_fromOtherSets_0 8 rfl
theorem dX3_fromOtherSets_12 : decode cX3_fromOtherSets 12 = .ok (.getfield 15, 3) := chkD_at okX3_fromOtherSets_0 9 rfl
theorem dX3_fromOtherSets_15 : decode cX3_fromOtherSets 15 = .ok (.iload_n 1, 1) := chkD_at okX3_fromOtherSets_0 10 rfl
theorem dX3_fromOtherSets_16 : decode cX3_fromOtherSets 16 = .ok (.iconst 1, 1) := chkD_at okX3_fromOtherSets_0 11 rfl
theorem dX3_fromOtherSets_17 : decode cX3_fromOtherSets 17 = .ok (.iload_n 3, 1) := chkD_at okX3_fromOtherSets_0 12 rfl
theorem dX3_fromOtherSets_18 : decode cX3_fromOtherSets 18 = .ok (.ishl, 1) := chkD_at okX3_fromOtherSets_0 13 rfl
theorem dX3_fromOtherSets_19 : decode cX3_fromOtherSets 19 = .ok (.ixor, 1) := chkD_at okX3_fromOtherSets_0 14 rfl
theorem dX3_fromOtherSets_20 : decode cX3_fromOtherSets 20 = .ok (.iaload, 1) := chkD_at okX3_fromOtherSets_0 15 rfl
theorem dX3_fromOtherSets_21 : decode cX3_fromOtherSets 21 = .ok (.ior, 1) := chkD_at okX3_fromOtherSets_0 16 rfl
theorem dX3_fromOtherSets_22 : decode cX3_fromOtherSets 22 = .ok (.istore_n 2, 1) := chkD_at okX3_fromOtherSets_0 17 rfl
theorem dX3_fromOtherSets_23 : decode cX3_fromOtherSets 23 = .ok (.iinc 3 1, 3) := chkD_at okX3_fromOtherSets_0 18 rfl
theorem dX3_fromOtherSets_26 : decode cX3_fromOtherSets 26 = .ok (.goto (-22), 3) := chkD_at okX3_fromOtherSets_0 19 rfl
theorem dX3_fromOtherSets_29 : decode cX3_fromOtherSets 29 = .ok (.iload_n 2, 1) := chkD_at okX3_fromOtherSets_0 20 rfl
theorem dX3_fromOtherSets_30 : decode cX3_fromOtherSets 30 = .ok (.ireturn, 1) := chkD_at okX3_fromOtherSets_0 21 rfl
theorem okX3_otherManners_0 : chkD cX3_otherManners [(0, .iconst 0, 1), (1, .istore_n 1, 1), (2, .iconst 0, 1), (3, .istore_n 2, 1), (4, .iconst 0, 1), (5, .istore_n 3, 1), (6, .iload_n 3, 1), (7, .iconst 5, 1), (8, .if_icmp .ge 38, 3), (11, .iload_n 0, 1), (12, .iconst 4, 1), (13, .iload_n 3, 1), (14, .imul, 1), (15, .ishr, 1), (16, .bipush 15, 2), (18, .iand, 1), (19, .istore 4, 2), (21, .iload_n 1, 1), (22, .iload 4, 2), (24, .ior, 1), (25, .istore_n 1, 1), (26, .iload 4, 2), (28, .ifCond .eq 12, 3), (31, .iload_n 2, 1), (32, .bipush 15, 2), (34, .iconst 4, 1), (35, .iload_n 3, 1), (36, .imul, 1), (37, .ishl, 1), (38, .ior, 1), (39, .istore_n 2, 1), (40, .iinc 3 1, 3), (43, .goto (-37), 3), (46, .iload_n 2, 1), (47, .iload_n 1, 1), (48, .ldc 71, 2), (50, .imul, 1), (51, .ior, 1), (52, .ireturn, 1)] = true := by decide +kernel
theorem dX3_otherManners_0 : decode cX3_otherManners 0 = .ok (.iconst 0, 1) := chkD_at okX3_otherManners_0 0 rfl
theorem dX3_otherManners_1 : decode cX3_otherManners 1 = .ok (.istore_n 1, 1) := chkD_at okX3_otherManners_0 1 rfl
theorem dX3_otherManners_2 : decode cX3_otherManners 2 = .ok (.iconst 0, 1) := chkD_at okX3_otherManners_0 2 rfl
theorem dX3_otherManners_3 : decode cX3_otherManners 3 = .ok (.istore_n 2, 1) := chkD_at okX3_otherManners_0 3 rfl
theorem dX3_otherManners_4 : decode cX3_otherManners 4 = .ok (.iconst 0, 1) := chkD_at okX3_otherManners_0 4 rfl
theorem dX3_otherManners_5 : decode cX3_otherManners 5 = .ok (.istore_n 3, 1) := chkD_at okX3_otherManners_0 5 rfl
theorem dX3_otherManners_6 : decode cX3_otherManners 6 = .ok (.iload_n 3, 1) := chkD_at okX3_otherManners_0 6 rfl
theorem dX3_otherManners_7 : decode cX3_otherManners 7 = .ok (.iconst 5, 1) := chkD_at okX3_otherManners_0 7 rfl
theorem dX3_otherManners_8 : decode cX3_otherManners 8 = .ok (.if_icmp .ge 38, 3) := chkD_at okX3_otherManners_0 8 rfl
theorem dX3_otherManners_11 : decode cX3_otherManners 11 = .ok (.iload_n 0, 1) := chkD_at okX3_otherManners_0 9 rfl
theorem dX3_otherManners_12 : decode cX3_otherManners 12 = .ok (.iconst 4, 1) := chkD_at okX3_otherManners_0 10 rfl
theorem dX3_otherManners_13 : decode cX3_otherManners 13 = .ok (.iload_n 3, 1) := chkD_at okX3_otherManners_0 11 rfl
theorem dX3_otherManners_14 : decode cX3_otherManners 14 = .ok (.imul, 1) := chkD_at okX3_otherManners_0 12 rfl
theorem dX3_otherManners_15 : decode cX3_otherManners 15 = .ok (.ishr, 1) := chkD_at okX3_otherManners_0 13 rfl
theorem dX3_otherManners_16 : decode cX3_otherManners 16 = .ok (.bipush 15, 2) := chkD_at okX3_otherManners_0 14 rfl
theorem dX3_otherManners_18 : decode cX3_otherManners 18 = .ok (.iand, 1) := chkD_at okX3_otherManners_0 15 rfl
theorem dX3_otherManners_19 : decode cX3_otherManners 19 = .ok (.istore 4, 2) := chkD_at okX3_otherManners_0 16 rfl
theorem dX3_otherManners_21 : decode cX3_otherManners 21 = .ok (.iload_n 1, 1) := chkD_at okX3_otherManners_0 17 rfl
theorem dX3_otherManners_22 : decode cX3_otherManners 22 = .ok (.iload 4, 2) := chkD_at okX3_otherManners_0 18 rfl
theorem dX3_otherManners_24 : decode cX3_otherManners 24 = .ok (.ior, 1) := chkD_at okX3_otherManners_0 19 rfl
theorem dX3_otherManners_25 : decode cX3_otherManners 25 = .ok (.istore_n 1, 1) := chkD_at okX3_otherManners_0 20 rfl
theorem dX3_otherManners_26 : decode cX3_otherManners 26 = .ok (.iload 4, 2) := chkD_at okX3_otherManners_0 21 rfl
theorem dX3_otherManners_28 : decode cX3_otherManners 28 = .ok (.ifCond .eq 12, 3) := chkD_at okX3_otherManners_0 22 rfl
theorem dX3_otherManners_31 : decode cX3_otherManners 31 = .ok (.iload_n 2, 1) := chkD_at okX3_otherManners_0 23 rfl
theorem dX3_otherManners_32 : decode cX3_otherManners 32 = .ok (.bipush 15, 2) := chkD_at okX3_otherManners_0 24 rfl
theorem dX3_otherManners_34 : decode cX3_otherManners 34 = .ok (.iconst 4, 1) := chkD_at okX3_otherManners_0 25 rfl
theorem dX3_otherManners_35 : decode cX3_otherManners 35 = .ok (.iload_n 3, 1) := chkD_at okX3_otherManners_0 26 rfl
theorem dX3_otherManners_36 : decode cX3_otherManners 36 = .ok (.imul, 1) := chkD_at okX3_otherManners_0 27 rfl
theorem dX3_otherManners_37 : decode cX3_otherManners 37 = .ok (.ishl, 1) := chkD_at okX3_otherManners_0 28 rfl
theorem dX3_otherManners_38 : decode cX3_otherManners 38 = .ok (.ior, 1) := chkD_at okX3_otherManners_0 29 rfl
theorem dX3_otherManners_39 : decode cX3_otherManners 39 = .ok (.istore_n 2, 1) := chkD_at okX3_otherManners_0 30 rfl
theorem dX3_otherManners_40 : decode cX3_otherManners 40 = .ok (.iinc 3 1, 3) := chkD_at okX3_otherManners_0 31 rfl
theorem dX3_otherManners_43 : decode cX3_otherManners 43 = .ok (.goto (-37), 3) := chkD_at okX3_otherManners_0 32 rfl
theorem dX3_otherManners_46 : decode cX3_otherManners 46 = .ok (.iload_n 2, 1) := chkD_at okX3_otherManners_0 33 rfl
theorem dX3_otherManners_47 : decode cX3_otherManners 47 = .ok (.iload_n 1, 1) := chkD_at okX3_otherManners_0 34 rfl
theorem dX3_otherManners_48 : decode cX3_otherManners 48 = .ok (.ldc 71, 2) := chkD_at okX3_otherManners_0 35 rfl
theorem dX3_otherManners_50 : decode cX3_otherManners 50 = .ok (.imul, 1) := chkD_at okX3_otherManners_0 36 rfl
theorem dX3_otherManners_51 : decode cX3_otherManners 51 = .ok (.ior, 1) := chkD_at okX3_otherManners_0 37 rfl
theorem dX3_otherManners_52 : decode cX3_otherManners 52 = .ok (.ireturn, 1) := chkD_at okX3_otherManners_0 38 rfl
theorem okX4_init_0 : chkD cX4_init [(0, .aload_n 0, 1), (1, .invokespecial 3, 3), (4, .aload_n 0, 1), (5, .iconst 0, 1), (6, .putfield 9, 3), (9, .aload_n 0, 1), (10, .iconst 0, 1), (11, .putfield 15, 3), (14, .aload_n 0, 1), (15, .bipush 40, 2), (17, .newarray .long, 2), (19, .putfield 18, 3), (22, .return_, 1)] = true := by decide +kernel
theorem dX4_init_0 : decode cX4_init 0 = .ok (.aload_n 0, 1) := chkD_at okX4_init_0 0 rfl
theorem dX4_init_1 : decode cX4_init 1 = .ok (.invokespecial 3, 3) := chkD_at okX4_init_0 1 rfl
theorem dX4_init_4 : decode cX4_init 4 = .ok (.aload_n 0, 1) := chkD_at okX4_init_0 2 rfl
theorem dX4_init_5 : decode cX4_init 5 = .ok (.iconst 0, 1) := chkD_at okX4_init_0 3 rfl
theorem dX4_init_6 : decode cX4_init 6 = .ok (.putfield 9, 3) := chkD_at okX4_init_0 4 rfl
theorem dX4_init_9 : decode cX4_init 9 = .ok (.aload_n 0, 1) := chkD_at okX4_init_0 5 rfl
theorem dX4_init_10 : decode cX4_init 10 = .ok (.iconst 0, 1) := chkD_at okX4_init_0 6 rfl
theorem dX4_init_11 : decode cX4_init 11 = .ok (.putfield 15, 3) := chkD_at okX4_init_0 7 rfl
theorem dX4_init_14 : decode cX4_init 14 = .ok (.aload_n 0, 1) := chkD_at okX4_init_0 8 rfl
theorem dX4_init_15 : decode cX4_init 15 = .ok (.bipush 40, 2) := chkD_at okX4_init_0 9 rfl
theorem dX4_init_17 : decode cX4_init 17 = .ok (.newarray .long, 2) := chkD_at okX4_init_0 10 rfl
theorem dX4_init_19 : decode cX4_init 19 = .ok (.putfield 18, 3) := chkD_at okX4_init_0 11 rfl
theorem dX4_init_22 : decode cX4_init 22 = .ok (.return_, 1) := chkD_at okX4_init_0 12 rfl
theorem okX4_lay_0 : chkD cX4_lay [(0, .aload_n 0, 1), (1, .iload_n 1, 1), (2, .putfield 9, 3), (5, .aload_n 0, 1), (6, .iload_n 1, 1), (7, .ifCond .ne 7, 3), (10, .iconst 0, 1), (11, .goto 4, 3), (14, .iload_n 2, 1), (15, .putfield 15, 3), (18, .aload_n 0, 1), (19, .getfield 18, 3), (22, .lconst 0, 1), (23, .invokestatic 22, 3), (26, .return_, 1)] = true := by decide +kernel
theorem dX4_lay_0 : decode cX4_lay 0 = .ok (.aload_n 0, 1) := chkD_at okX4_lay_0 0 rfl
theorem dX4_lay_1 : decode cX4_lay 1 = .ok (.iload_n 1, 1) := chkD_at okX4_lay_0 1 rfl
theorem dX4_lay_2 : decode cX4_lay 2 = .ok (.putfield 9, 3) := chkD_at okX4_lay_0 2 rfl
theorem dX4_lay_5 : decode cX4_lay 5 = .ok (.aload_n 0, 1) := chkD_at okX4_lay_0 3 rfl
theorem dX4_lay_6 : decode cX4_lay 6 = .ok (.iload_n 1, 1) := chkD_at okX4_lay_0 4 rfl
theorem dX4_lay_7 : decode cX4_lay 7 = .ok (.ifCond .ne 7, 3) := chkD_at okX4_lay_0 5 rfl
theorem dX4_lay_10 : decode cX4_lay 10 = .ok (.iconst 0, 1) := chkD_at okX4_lay_0 6 rfl
theorem dX4_lay_11 : decode cX4_lay 11 = .ok (.goto 4, 3) := chkD_at okX4_lay_0 7 rfl
theorem dX4_lay_14 : decode cX4_lay 14 = .ok (.iload_n 2, 1) := chkD_at okX4_lay_0 8 rfl
theorem dX4_lay_15 : decode cX4_lay 15 = .ok (.putfield 15, 3) := chkD_at okX4_lay_0 9 rfl
theorem dX4_lay_18 : decode cX4_lay 18 = .ok (.aload_n 0, 1) := chkD_at okX4_lay_0 10 rfl
theorem dX4_lay_19 : decode cX4_lay 19 = .ok (.getfield 18, 3) := chkD_at okX4_lay_0 11 rfl
theorem dX4_lay_22 : decode cX4_lay 22 = .ok (.lconst 0, 1) := chkD_at okX4_lay_0 12 rfl
theorem dX4_lay_23 : decode cX4_lay 23 = .ok (.invokestatic 22, 3) := chkD_at okX4_lay_0 13 rfl
theorem dX4_lay_26 : decode cX4_lay 26 = .ok (.return_, 1) := chkD_at okX4_lay_0 14 rfl
theorem okX4_isMissing_0 : chkD cX4_isMissing [(0, .aload_n 0, 1), (1, .getfield 9, 3), (4, .ifCond .ne 7, 3), (7, .iconst 1, 1), (8, .goto 4, 3), (11, .iconst 0, 1), (12, .ireturn, 1)] = true := by decide +kernel
theorem dX4_isMissing_0 : decode cX4_isMissing 0 = .ok (.aload_n 0, 1) := chkD_at okX4_isMissing_0 0 rfl
theorem dX4_isMissing_1 : decode cX4_isMissing 1 = .ok (.getfield 9, 3) := chkD_at okX4_isMissing_0 1 rfl
theorem dX4_isMissing_4 : decode cX4_isMissing 4 = .ok (.ifCond .ne 7, 3) := chkD_at okX4_isMissing_0 2 rfl
theorem dX4_isMissing_7 : decode cX4_isMissing 7 = .ok (.iconst 1, 1) := chkD_at okX4_isMissing_0 3 rfl
theorem dX4_isMissing_8 : decode cX4_isMissing 8 = .ok (.goto 4, 3) := chkD_at okX4_isMissing_0 4 rfl
theorem dX4_isMissing_11 : decode cX4_isMissing 11 = .ok (.iconst 0, 1) := chkD_at okX4_isMissing_0 5 rfl
theorem dX4_isMissing_12 : decode cX4_isMissing 12 = .ok (.ireturn, 1) := chkD_at okX4_isMissing_0 6 rfl
theorem okX4_hasPart_0 : chkD cX4_hasPart [(0, .iload_n 1, 1), (1, .ifCond .lt 21, 3), (4, .iload_n 2, 1), (5, .ifCond .lt 17, 3), (8, .iload_n 2, 1), (9, .aload_n 0, 1), (10, .getfield 15, 3), (13, .iload_n 1, 1), (14, .isub, 1), (15, .if_icmp .gt 7, 3), (18, .iconst 1, 1), (19, .goto 4, 3), (22, .iconst 0, 1), (23, .ireturn, 1)] = true := by decide +kernel
theorem dX4_hasPart_0 : decode cX4_hasPart 0 = .ok (.iload_n 1, 1) := chkD_at okX4_hasPart_0 0 rfl
theorem dX4_hasPart_1 : decode cX4_hasPart 1 = .ok (.ifCond .lt 21, 3) := chkD_at okX4_hasPart_0 1 rfl
theorem dX4_hasPart_4 : decode cX4_hasPart 4 = .ok (.iload_n 2, 1) := chkD_at okX4_hasPart_0 2 rfl
theorem dX4_hasPart_5 : decode cX4_hasPart 5 = .ok (.ifCond .lt 17, 3) := chkD_at okX4_hasPart_0 3 rfl
theorem dX4_hasPart_8 : decode cX4_hasPart 8 = .ok (.iload_n 2, 1) := chkD_at okX4_hasPart_0 4 rfl
theorem dX4_hasPart_9 : decode cX4_hasPart 9 = .ok (.aload_n 0, 1) := chkD_at okX4_hasPart_0 5 rfl
theorem dX4_hasPart_10 : decode cX4_hasPart 10 = .ok (.getfield 15, 3) := chkD_at okX4_hasPart_0 6 rfl
theorem dX4_hasPart_13 : decode cX4_hasPart 13 = .ok (.iload_n 1, 1) := chkD_at okX4_hasPart_0 7 rfl
theorem dX4_hasPart_14 : decode cX4_hasPart 14 = .ok (.isub, 1) := chkD_at okX4_hasPart_0 8 rfl
theorem dX4_hasPart_15 : decode cX4_hasPart 15 = .ok (.if_icmp .gt 7, 3) := chkD_at okX4_hasPart_0 9 rfl
theorem dX4_hasPart_18 : decode cX4_hasPart 18 = .ok (.iconst 1, 1) := chkD_at okX4_hasPart_0 10 rfl
theorem dX4_hasPart_19 : decode cX4_hasPart 19 = .ok (.goto 4, 3) := chkD_at okX4_hasPart_0 11 rfl
theorem dX4_hasPart_22 : decode cX4_hasPart 22 = .ok (.iconst 0, 1) := chkD_at okX4_hasPart_0 12 rfl
theorem dX4_hasPart_23 : decode cX4_hasPart 23 = .ok (.ireturn, 1) := chkD_at okX4_hasPart_0 13 rfl
theorem okX4_put_0 : chkD cX4_put [(0, .iload_n 1, 1), (1, .aload_n 0, 1), (2, .getfield 15, 3), (5, .invokestatic 28, 3), (8, .ifCond .eq 14, 3), (11, .aload_n 0, 1), (12, .getfield 18, 3), (15, .iload_n 1, 1), (16, .aload_n 0, 1), (17, .lload_n 2, 1), (18, .invokevirtual 32, 3), (21, .lastore, 1), (22, .return_, 1)] = true := by decide +kernel
theorem dX4_put_0 : decode cX4_put 0 = .ok (.iload_n 1, 1) := chkD_at okX4_put_0 0 rfl
theorem dX4_put_1 : decode cX4_put 1 = .ok (.aload_n 0, 1) := chkD_at okX4_put_0 1 rfl
theorem dX4_put_2 : decode cX4_put 2 = .ok (.getfield 15, 3) := chkD_at okX4_put_0 2 rfl
theorem dX4_put_5 : decode cX4_put 5 = .ok (.invokestatic 28, 3) := chkD_at okX4_put_0 3 rfl
theorem dX4_put_8 : decode cX4_put 8 = .ok (.ifCond .eq 14, 3) := chkD_at okX4_put_0 4 rfl
theorem dX4_put_11 : decode cX4_put 11 = .ok (.aload_n 0, 1) := chkD_at okX4_put_0 5 rfl
theorem dX4_put_12 : decode cX4_put 12 = .ok (.getfield 18, 3) := chkD_at okX4_put_0 6 rfl
theorem dX4_put_15 : decode cX4_put 15 = .ok (.iload_n 1, 1) := chkD_at okX4_put_0 7 rfl
theorem dX4_put_16 : decode cX4_put 16 = .ok (.aload_n 0, 1) := chkD_at okX4_put_0 8 rfl
theorem dX4_put_17 : decode cX4_put 17 = .ok (.lload_n 2, 1) := chkD_at okX4_put_0 9 rfl
theorem dX4_put_18 : decode cX4_put 18 = .ok (.invokevirtual 32, 3) := chkD_at okX4_put_0 10 rfl
theorem dX4_put_21 : decode cX4_put 21 = .ok (.lastore, 1) := chkD_at okX4_put_0 11 rfl
theorem dX4_put_22 : decode cX4_put 22 = .ok (.return_, 1) := chkD_at okX4_put_0 12 rfl
theorem okX4_cut_0 : chkD cX4_cut [(0, .aload_n 0, 1), (1, .getfield 9, 3), (4, .bipush 8, 2), (6, .if_icmp .ne 8, 3), (9, .lload_n 1, 1), (10, .l2i, 1), (11, .i2b, 1), (12, .i2l, 1), (13, .lreturn, 1), (14, .aload_n 0, 1), (15, .getfield 9, 3), (18, .bipush 16, 2), (20, .if_icmp .ne 10, 3), (23, .lload_n 1, 1), (24, .l2i, 1), (25, .i2s, 1), (26, .i2l, 1), (27, .goto 4, 3), (30, .lload_n 1, 1), (31, .lreturn, 1)] = true := by decide +kernel
theorem dX4_cut_0 : decode cX4_cut 0 = .ok (.aload_n 0, 1) := chkD_at okX4_cut_0 0 rfl
theorem dX4_cut_1 : decode cX4_cut 1 = .ok (.getfield 9, 3) := chkD_at okX4_cut_0 1 rfl
theorem dX4_cut_4 : decode cX4_cut 4 = .ok (.bipush 8, 2) := chkD_at okX4_cut_0 2 rfl
theorem dX4_cut_6 : decode cX4_cut 6 = .ok (.if_icmp .ne 8, 3) := chkD_at okX4_cut_0 3 rfl
theorem dX4_cut_9 : decode cX4_cut 9 = .ok (.lload_n 1, 1) := chkD_at okX4_cut_0 4 rfl
theorem dX4_cut_10 : decode cX4_cut 10 = .ok (.l2i, 1) := chkD_at okX4_cut_0 5 rfl
theorem dX4_cut_11 : decode cX4_cut 11 = .ok (.i2b, 1) := chkD_at okX4_cut_0 6 rfl
theorem dX4_cut_12 : decode cX4_cut 12 = .ok (.i2l, 1) := chkD_at okX4_cut_0 7 rfl
theorem dX4_cut_13 : decode cX4_cut 13 = .ok (.lreturn, 1) := chkD_at okX4_cut_0 8 rfl
theorem dX4_cut_14 : decode cX4_cut 14 = .ok (.aload_n 0, 1) := chkD_at okX4_cut_0 9 rfl
theorem dX4_cut_15 : decode cX4_cut 15 = .ok (.getfield 9, 3) := chkD_at okX4_cut_0 10 rfl
theorem dX4_cut_18 : decode cX4_cut 18 = .ok (.bipush 16, 2) := chkD_at okX4_cut_0 11 rfl
theorem dX4_cut_20 : decode cX4_cut 20 = .ok (.if_icmp .ne 10, 3) := chkD_at okX4_cut_0 12 rfl
theorem dX4_cut_23 : decode cX4_cut 23 = .ok (.lload_n 1, 1) := chkD_at okX4_cut_0 13 rfl
theorem dX4_cut_24 : decode cX4_cut 24 = .ok (.l2i, 1) := chkD_at okX4_cut_0 14 rfl
theorem dX4_cut_25 : decode cX4_cut 25 = .ok (.i2s, 1) := chkD_at okX4_cut_0 15 rfl
theorem dX4_cut_26 : decode cX4_cut 26 = .ok (.i2l, 1) := chkD_at okX4_cut_0 16 rfl
theorem dX4_cut_27 : decode cX4_cut 27 = .ok (.goto 4, 3) := chkD_at okX4_cut_0 17 rfl
theorem dX4_cut_30 : decode cX4_cut 30 = .ok (.lload_n 1, 1) := chkD_at okX4_cut_0 18 rfl
theorem dX4_cut_31 : decode cX4_cut 31 = .ok (.lreturn, 1) := chkD_at okX4_cut_0 19 rfl
theorem okX5_init_0 : chkD cX5_init [(0, .aload_n 0, 1), (1, .invokespecial 3, 3), (4, .aload_n 0, 1), (5, .iconst 0, 1), (6, .putfield 9, 3), (9, .aload_n 0, 1), (10, .bipush 120, 2), (12, .newarray .int, 2), (14, .putfield 15, 3), (17, .aload_n 0, 1), (18, .iconst 0, 1), (19, .putfield 19, 3), (22, .aload_n 0, 1), (23, .iconst 0, 1), (24, .putfield 22, 3), (27, .aload_n 0, 1), (28, .iconst 0, 1), (29, .putfield 25, 3), (32, .aload_n 0, 1), (33, .iconst 0, 1), (34, .putfield 28, 3), (37, .return_, 1)] = true := by decide +kernel
theorem dX5_init_0 : decode cX5_init 0 = .ok (.aload_n 0, 1) := chkD_at okX5_init_0 0 rfl
theorem dX5_init_1 : decode cX5_init 1 = .ok (.invokespecial 3, 3) := chkD_at okX5_init_0 1 rfl
theorem dX5_init_4 : decode cX5_init 4 = .ok (.aload_n 0, 1) := chkD_at okX5_init_0 2 rfl
theorem dX5_init_5 : decode cX5_init 5 = .ok (.iconst 0, 1) := chkD_at okX5_init_0 3 rfl
theorem dX5_init_6 : decode cX5_init 6 = .ok (.putfield 9, 3) := chkD_at okX5_init_0 4 rfl
theorem dX5_init_9 : decode cX5_init 9 = .ok (.aload_n 0, 1) := chkD_at okX5_init_0 5 rfl
theorem dX5_init_10 : decode cX5_init 10 = .ok (.bipush 120, 2) := chkD_at okX5_init_0 6 rfl
theorem dX5_init_12 : decode cX5_init 12 = .ok (.newarray .int, 2) := chkD_at okX5_init_0 7 rfl
theorem dX5_init_14 : decode cX5_init 14 = .ok (.putfield 15, 3) := chkD_at okX5_init_0 8 rfl
theorem dX5_init_17 : decode cX5_init 17 = .ok (.aload_n 0, 1) := chkD_at okX5_init_0 9 rfl
theorem dX5_init_18 : decode cX5_init 18 = .ok (.iconst 0, 1) := chkD_at okX5_init_0 10 rfl
theorem dX5_init_19 : decode cX5_init 19 = .ok (.putfield 19, 3) := chkD_at okX5_init_0 11 rfl
theorem dX5_init_22 : decode cX5_init 22 = .ok (.aload_n 0, 1) := chkD_at okX5_init_0 12 rfl
theorem dX5_init_23 : decode cX5_init 23 = .ok (.iconst 0, 1) := chkD_at okX5_init_0 13 rfl
theorem dX5_init_24 : decode cX5_init 24 = .ok (.putfield 22, 3) := chkD_at okX5_init_0 14 rfl
theorem dX5_init_27 : decode cX5_init 27 = .ok (.aload_n 0, 1) := chkD_at okX5_init_0 15 rfl
theorem dX5_init_28 : decode cX5_init 28 = .ok (.iconst 0, 1) := chkD_at okX5_init_0 16 rfl
theorem dX5_init_29 : decode cX5_init 29 = .ok (.putfield 25, 3) := chkD_at okX5_init_0 17 rfl
theorem dX5_init_32 : decode cX5_init 32 = .ok (.aload_n 0, 1) := chkD_at okX5_init_0 18 rfl
theorem dX5_init_33 : decode cX5_init 33 = .ok (.iconst 0, 1) := chkD_at okX5_init_0 19 rfl
theorem dX5_init_34 : decode cX5_init 34 = .ok (.putfield 28, 3) := chkD_at okX5_init_0 20 rfl
theorem dX5_init_37 : decode cX5_init 37 = .ok (.return_, 1) := chkD_at okX5_init_0 21 rfl
theorem okX5_put_0 : chkD cX5_put [(0, .aload_n 0, 1), (1, .getfield 9, 3), (4, .bipush 120, 2), (6, .if_icmp .ge 23, 3), (9, .aload_n 0, 1), (10, .getfield 15, 3), (13, .aload_n 0, 1), (14, .getfield 9, 3), (17, .iload_n 1, 1), (18, .iastore, 1), (19, .aload_n 0, 1), (20, .dup, 1), (21, .getfield 9, 3), (24, .iconst 1, 1), (25, .iadd, 1), (26, .putfield 9, 3), (29, .return_, 1)] = true := by decide +kernel
theorem dX5_put_0 : decode cX5_put 0 = .ok (.aload_n 0, 1) := chkD_at okX5_put_0 0 rfl
theorem dX5_put_1 : decode cX5_put 1 = .ok (.getfield 9, 3) := chkD_at okX5_put_0 1 rfl
theorem dX5_put_4 : decode cX5_put 4 = .ok (.bipush 120, 2) := chkD_at okX5_put_0 2 rfl
theorem dX5_put_6 : decode cX5_put 6 = .ok (.if_icmp .ge 23, 3) := chkD_at okX5_put_0 3 rfl
theorem dX5_put_9 : decode cX5_put 9 = .ok (.aload_n 0, 1) := chkD_at okX5_put_0 4 rfl
theorem dX5_put_10 : decode cX5_put 10 = .ok (.getfield 15, 3) := chkD_at okX5_put_0 5 rfl
theorem dX5_put_13 : decode cX5_put 13 = .ok (.aload_n 0, 1) := chkD_at okX5_put_0 6 rfl
theorem dX5_put_14 : decode cX5_put 14 = .ok (.getfield 9, 3) := chkD_at okX5_put_0 7 rfl
theorem dX5_put_17 : decode cX5_put 17 = .ok (.iload_n 1, 1) := chkD_at okX5_put_0 8 rfl
theorem dX5_put_18 : decode cX5_put 18 = .ok (.iastore, 1) := chkD_at okX5_put_0 9 rfl
theorem dX5_put_19 : decode cX5_put 19 = .ok (.aload_n 0, 1) := chkD_at okX5_put_0 10 rfl
theorem dX5_put_20 : decode cX5_put 20 = .ok (.dup, 1) := chkD_at okX5_put_0 11 rfl
theorem dX5_put_21 : decode cX5_put 21 = .ok (.getfield 9, 3) := chkD_at okX5_put_0 12 rfl
theorem dX5_put_24 : decode cX5_put 24 = .ok (.iconst 1, 1) := chkD_at okX5_put_0 13 rfl
theorem dX5_put_25 : decode cX5_put 25 = .ok (.iadd, 1) := chkD_at okX5_put_0 14 rfl
theorem dX5_put_26 : decode cX5_put 26 = .ok (.putfield 9, 3) := chkD_at okX5_put_0 15 rfl
theorem dX5_put_29 : decode cX5_put 29 = .ok (.return_, 1) := chkD_at okX5_put_0 16 rfl
theorem okX5_tellTo_0 : chkD cX5_tellTo [(0, .aload_n 0, 1), (1, .iconst 0, 1), (2, .putfield 25, 3), (5, .iconst 1, 1), (6, .istore_n 2, 1), (7, .iload_n 2, 1), (8, .bipush 120, 2), (10, .if_icmp .gt 44, 3), (13, .aload_n 0, 1), (14, .invokevirtual 31, 3), (17, .aload_n 0, 1), (18, .aload_n 1, 1), (19, .invokevirtual 34, 3), (22, .ifCond .ne 6, 3), (25, .goto 29, 3), (28, .aload_n 0, 1), (29, .getfield 19, 3), (32, .ifCond .ne 5, 3), (35, .iload_n 2, 1), (36, .ireturn, 1), (37, .aload_n 0, 1), (38, .getfield 19, 3), (41, .iconst 3, 1), (42, .if_icmp .eq 6, 3), (45, .goto 9, 3), (48, .iinc 2 1, 3), (51, .goto (-44), 3), (54, .iconst (-1), 1), (55, .aload_n 0, 1), (56, .getfield 22, 3), (59, .isub, 1), (60, .ireturn, 1)] = true := by decide +kernel
theorem dX5_tellTo_0 : decode cX5_tellTo 0 = .ok (.aload_n 0, 1) := chkD_at okX5_tellTo_0 0 rfl
theorem dX5_tellTo_1 : decode cX5_tellTo 1 = .ok (.iconst 0, 1) := chkD_at okX5_tellTo_0 1 rfl
theorem dX5_tellTo_2 : decode cX5_tellTo 2 = .ok (.putfield 25, 3) := chkD_at okX5_tellTo_0 2 rfl
theorem dX5_tellTo_5 : decode cX5_tellTo 5 = .ok (.iconst 1, 1) := chkD_at okX5_tellTo_0 3 rfl
theorem dX5_tellTo_6 : decode cX5_tellTo 6 = .ok (.istore_n 2, 1) := chkD_at okX5_tellTo_0 4 rfl
theorem dX5_tellTo_7 : decode cX5_tellTo 7 = .ok (.iload_n 2, 1) := chkD_at okX5_tellTo_0 5 rfl
theorem dX5_tellTo_8 : decode cX5_tellTo 8 = .ok (.bipush 120, 2) := chkD_at okX5_tellTo_0 6 rfl
theorem dX5_tellTo_10 : decode cX5_tellTo 10 = .ok (.if_icmp .gt 44, 3) := chkD_at okX5_tellTo_0 7 rfl
theorem dX5_tellTo_13 : decode cX5_tellTo 13 = .ok (.aload_n 0, 1) := chkD_at okX5_tellTo_0 8 rfl
theorem dX5_tellTo_14 : decode cX5_tellTo 14 = .ok (.invokevirtual 31, 3) := chkD_at okX5_tellTo_0 9 rfl
theorem dX5_tellTo_17 : decode cX5_tellTo 17 = .ok (.aload_n 0, 1) := chkD_at okX5_tellTo_0 10 rfl
theorem dX5_tellTo_18 : decode cX5_tellTo 18 = .ok (.aload_n 1, 1) := chkD_at okX5_tellTo_0 11 rfl
theorem dX5_tellTo_19 : decode cX5_tellTo 19 = .ok (.invokevirtual 34, 3) := chkD_at okX5_tellTo_0 12 rfl
theorem dX5_tellTo_22 : decode cX5_tellTo 22 = .ok (.ifCond .ne 6, 3) := chkD_at okX5_tellTo_0 13 rfl
theorem dX5_tellTo_25 : decode cX5_tellTo 25 = .ok (.goto 29, 3) := chkD_at okX5_tellTo_0 14 rfl
theorem dX5_tellTo_28 : decode cX5_tellTo 28 = .ok (.aload_n 0, 1) := chkD_at okX5_tellTo_0 15 rfl
theorem dX5_tellTo_29 : decode cX5_tellTo 29 = .ok (.getfield 19, 3) := chkD_at okX5_tellTo_0 16 rfl
theorem dX5_tellTo_32 : decode cX5_tellTo 32 = .ok (.ifCond .ne 5, 3) := chkD_at okX5_tellTo_0 17 rfl
theorem dX5_tellTo_35 : decode cX5_tellTo 35 = .ok (.iload_n 2, 1) := chkD_at okX5_tellTo_0 18 rfl
theorem dX5_tellTo_36 : decode cX5_tellTo 36 = .ok (.ireturn, 1) := chkD_at okX5_tellTo_0 19 rfl
theorem dX5_tellTo_37 : decode cX5_tellTo 37 = .ok (.aload_n 0, 1) := chkD_at okX5_tellTo_0 20 rfl
theorem dX5_tellTo_38 : decode cX5_tellTo 38 = .ok (.getfield 19, 3) := chkD_at okX5_tellTo_0 21 rfl
theorem dX5_tellTo_41 : decode cX5_tellTo 41 = .ok (.iconst 3, 1) := chkD_at okX5_tellTo_0 22 rfl
theorem dX5_tellTo_42 : decode cX5_tellTo 42 = .ok (.if_icmp .eq 6, 3) := chkD_at okX5_tellTo_0 23 rfl
theorem dX5_tellTo_45 : decode cX5_tellTo 45 = .ok (.goto 9, 3) := chkD_at okX5_tellTo_0 24 rfl
theorem dX5_tellTo_48 : decode cX5_tellTo 48 = .ok (.iinc 2 1, 3) := chkD_at okX5_tellTo_0 25 rfl
theorem dX5_tellTo_51 : decode cX5_tellTo 51 = .ok (.goto (-44), 3) := chkD_at okX5_tellTo_0 26 rfl
theorem dX5_tellTo_54 : decode cX5_tellTo 54 = .ok (.iconst (-1), 1) := chkD_at okX5_tellTo_0 27 rfl
theorem dX5_tellTo_55 : decode cX5_tellTo 55 = .ok (.aload_n 0, 1) := chkD_at okX5_tellTo_0 28 rfl
theorem dX5_tellTo_56 : decode cX5_tellTo 56 = .ok (.getfield 22, 3) := chkD_at okX5_tellTo_0 29 rfl
theorem dX5_tellTo_59 : decode cX5_tellTo 59 = .ok (.isub, 1) := chkD_at okX5_tellTo_0 30 rfl
theorem dX5_tellTo_60 : decode cX5_tellTo 60 = .ok (.ireturn, 1) := chkD_at okX5_tellTo_0 31 rfl
theorem okX5_takeItem_0 : chkD cX5_takeItem [(0, .aload_n 0, 1), (1, .invokevirtual 38, 3), (4, .istore_n 2, 1), (5, .iload_n 2, 1), (6, .ifCond .lt 10, 3), (9, .aload_n 0, 1), (10, .aload_n 1, 1), (11, .iload_n 2, 1), (12, .invokevirtual 42, 3), (15, .ireturn, 1), (16, .aload_n 0, 1), (17, .ldc 46, 2), (19, .invokevirtual 48, 3), (22, .ifCond .eq 9, 3), (25, .aload_n 0, 1), (26, .aload_n 1, 1), (27, .invokevirtual 52, 3), (30, .ireturn, 1), (31, .aload_n 0, 1), (32, .ldc 55, 2), (34, .invokevirtual 48, 3), (37, .ifCond .eq 10, 3), (40, .aload_n 0, 1), (41, .aload_n 1, 1), (42, .iconst 1, 1), (43, .invokevirtual 57, 3), (46, .ireturn, 1), (47, .aload_n 0, 1), (48, .ldc 60, 2), (50, .invokevirtual 48, 3), (53, .ifCond .eq 10, 3), (56, .aload_n 0, 1), (57, .aload_n 1, 1), (58, .iconst (-1), 1), (59, .invokevirtual 57, 3), (62, .ireturn, 1), (63, .aload_n 0, 1), (64, .ldc 62, 2), (66, .invokevirtual 48, 3), (69, .ifCond .eq 9, 3), (72, .aload_n 0, 1), (73, .aload_n 1, 1), (74, .invokevirtual 64, 3), (77, .ireturn, 1), (78, .aload_n 0, 1), (79, .ldc 67, 2), (81, .invokevirtual 48, 3), (84, .ifCond .eq 15, 3), (87, .aload_n 0, 1), (88, .aload_n 1, 1), (89, .invokevirtual 69, 3), (92, .ifCond .eq 7, 3), (95, .iconst 1, 1), (96, .goto 4, 3), (99, .iconst 0, 1), (100, .ireturn, 1)] = true := by decide +kernel
theorem dX5_takeItem_0 : decode cX5_takeItem 0 = .ok (.aload_n 0, 1) := chkD_at okX5_takeItem_0 0 rfl
theorem dX5_takeItem_1 : decode cX5_takeItem 1 = .ok (.invokevirtual 38, 3) := chkD_at okX5_takeItem_0 1 rfl
theorem dX5_takeItem_4 : decode cX5_takeItem 4 = .ok (.istore_n 2, 1) := chkD_at okX5_takeItem_0 2 rfl
theorem dX5_takeItem_5 : decode cX5_takeItem 5 = .ok (.iload_n 2, 1) := chkD_at okX5_takeItem_0 3 rfl
theorem dX5_takeItem_6 : decode cX5_takeItem 6 = .ok (.ifCond .lt 10, 3) := chkD_at okX5_takeItem_0 4 rfl
theorem dX5_takeItem_9 : decode cX5_takeItem 9 = .ok (.aload_n 0, 1) := chkD_at okX5_takeItem_0 5 rfl
theorem dX5_takeItem_10 : decode cX5_takeItem 10 = .ok (.aload_n 1, 1) := chkD_at okX5_takeItem_0 6 rfl
theorem dX5_takeItem_11 : decode cX5_takeItem 11 = .ok (.iload_n 2, 1) := chkD_at okX5_takeItem_0 7 rfl
theorem dX5_takeItem_12 : decode cX5_takeItem 12 = .ok (.invokevirtual 42, 3) := chkD_at okX5_takeItem_0 8 rfl
theorem dX5_takeItem_15 : decode cX5_takeItem 15 = .ok (.ireturn, 1) := chkD_at okX5_takeItem_0 9 rfl
theorem dX5_takeItem_16 : decode cX5_takeItem 16 = .ok (.aload_n 0, 1) := chkD_at okX5_takeItem_0 10 rfl
theorem dX5_takeItem_17 : decode cX5_takeItem 17 = .ok (.ldc 46, 2) := chkD_at okX5_takeItem_0 11 rfl
theorem dX5_takeItem_19 : decode cX5_takeItem 19 = .ok (.invokevirtual 48, 3) := chkD_at okX5_takeItem_0 12 rfl
theorem dX5_takeItem_22 : decode cX5_takeItem 22 = .ok (.ifCond .eq 9, 3) := chkD_at okX5_takeItem_0 13 rfl
theorem dX5_takeItem_25 : decode cX5_takeItem 25 = .ok (.aload_n 0, 1) := chkD_at okX5_takeItem_0 14 rfl
theorem dX5_takeItem_26 : decode cX5_takeItem 26 = .ok (.aload_n 1, 1) := chkD_at okX5_takeItem_0 15 rfl
theorem dX5_takeItem_27 : decode cX5_takeItem 27 = .ok (.invokevirtual 52, 3) := chkD_at okX5_takeItem_0 16 rfl
theorem dX5_takeItem_30 : decode cX5_takeItem 30 = .ok (.ireturn, 1) := chkD_at okX5_takeItem_0 17 rfl
theorem dX5_takeItem_31 : decode cX5_takeItem 31 = .ok (.aload_n 0, 1) := chkD_at okX5_takeItem_0 18 rfl
theorem dX5_takeItem_32 : decode cX5_takeItem 32 = .ok (.ldc 55, 2) := chkD_at okX5_takeItem_0 19 rfl
theorem dX5_takeItem_34 : decode cX5_takeItem 34 = .ok (.invokevirtual 48, 3) := chkD_at okX5_takeItem_0 20 rfl
theorem dX5_takeItem_37 : decode cX5_takeItem 37 = .ok (.ifCond .eq 10, 3) := chkD_at okX5_takeItem_0 21 rfl
theorem dX5_takeItem_40 : decode cX5_takeItem 40 = .ok (.aload_n 0, 1) := chkD_at okX5_takeItem_0 22 rfl
theorem dX5_takeItem_41 : decode cX5_takeItem 41 = .ok (.aload_n 1, 1) := chkD_at okX5_takeItem_0 23 rfl
theorem dX5_takeItem_42 : decode cX5_takeItem 42 = .ok (.iconst 1, 1) := chkD_at okX5_takeItem_0 24 rfl
theorem dX5_takeItem_43 : decode cX5_takeItem 43 = .ok (.invokevirtual 57, 3) := chkD_at okX5_takeItem_0 25 rfl
theorem dX5_takeItem_46 : decode cX5_takeItem 46 = .ok (.ireturn, 1) := chkD_at okX5_takeItem_0 26 rfl
theorem dX5_takeItem_47 : decode cX5_takeItem 47 = .ok (.aload_n 0, 1) := chkD_at okX5_takeItem_0 27 rfl
theorem dX5_takeItem_48 : decode cX5_takeItem 48 = .ok (.ldc 60, 2) := chkD_at okX5_takeItem_0 28 rfl
theorem dX5_takeItem_50 : decode cX5_takeItem 50 = .ok (.invokevirtual 48, 3) := chkD_at okX5_takeItem_0 29 rfl
theorem dX5_takeItem_53 : decode cX5_takeItem 53 = .ok (.ifCond .eq 10, 3) := chkD_at okX5_takeItem_0 30 rfl
theorem dX5_takeItem_56 : decode cX5_takeItem 56 = .ok (.aload_n 0, 1) := chkD_at okX5_takeItem_0 31 rfl
theorem dX5_takeItem_57 : decode cX5_takeItem 57 = .ok (.aload_n 1, 1) := chkD_at okX5_takeItem_0 32 rfl
theorem dX5_takeItem_58 : decode cX5_takeItem 58 = .ok (.iconst (-1), 1) := chkD_at okX5_takeItem_0 33 rfl
theorem dX5_takeItem_59 : decode cX5_takeItem 59 = .ok (.invokevirtual 57, 3) := chkD_at okX5_takeItem_0 34 rfl
theorem dX5_takeItem_62 : decode cX5_takeItem 62 = .ok (.ireturn, 1) := chkD_at okX5_takeItem_0 35 rfl
theorem dX5_takeItem_63 : decode cX5_takeItem 63 = .ok (.aload_n 0, 1) := chkD_at okX5_takeItem_0 36 rfl
theorem dX5_takeItem_64 : decode cX5_takeItem 64 = .ok (.ldc 62, 2) := chkD_at okX5_takeItem_0 37 rfl
theorem dX5_takeItem_66 : decode cX5_takeItem 66 = .ok (.invokevirtual 48, 3) := chkD_at okX5_takeItem_0 38 rfl
theorem dX5_takeItem_69 : decode cX5_takeItem 69 = .ok (.ifCond .eq 9, 3) := chkD_at okX5_takeItem_0 39 rfl
theorem dX5_takeItem_72 : decode cX5_takeItem 72 = .ok (.aload_n 0, 1) := chkD_at okX5_takeItem_0 40 rfl
theorem dX5_takeItem_73 : decode cX5_takeItem 73 = .ok (.aload_n 1, 1) := chkD_at okX5_takeItem_0 41 rfl
theorem dX5_takeItem_74 : decode cX5_takeItem 74 = .ok (.invokevirtual 64, 3) := chkD_at okX5_takeItem_0 42 rfl
theorem dX5_takeItem_77 : decode cX5_takeItem 77 = .ok (.ireturn, 1) := chkD_at okX5_takeItem_0 43 rfl
theorem dX5_takeItem_78 : decode cX5_takeItem 78 = .ok (.aload_n 0, 1) := chkD_at okX5_takeItem_0 44 rfl
theorem dX5_takeItem_79 : decode cX5_takeItem 79 = .ok (.ldc 67, 2) := chkD_at okX5_takeItem_0 45 rfl
theorem dX5_takeItem_81 : decode cX5_takeItem 81 = .ok (.invokevirtual 48, 3) := chkD_at okX5_takeItem_0 46 rfl
theorem dX5_takeItem_84 : decode cX5_takeItem 84 = .ok (.ifCond .eq 15, 3) := chkD_at okX5_takeItem_0 47 rfl
theorem dX5_takeItem_87 : decode cX5_takeItem 87 = .ok (.aload_n 0, 1) := chkD_at okX5_takeItem_0 48 rfl
theorem dX5_takeItem_88 : decode cX5_takeItem 88 = .ok (.aload_n 1, 1) := chkD_at okX5_takeItem_0 49 rfl
theorem dX5_takeItem_89 : decode cX5_takeItem 89 = .ok (.invokevirtual 69, 3) := chkD_at okX5_takeItem_0 50 rfl
theorem dX5_takeItem_92 : decode cX5_takeItem 92 = .ok (.ifCond .eq 7, 3) := chkD_at okX5_takeItem_0 51 rfl
theorem dX5_takeItem_95 : decode cX5_takeItem 95 = .ok (.iconst 1, 1) := chkD_at okX5_takeItem_0 52 rfl
theorem dX5_takeItem_96 : decode cX5_takeItem 96 = .ok (.goto 4, 3) := chkD_at okX5_takeItem_0 53 rfl
theorem dX5_takeItem_99 : decode cX5_takeItem 99 = .ok (.iconst 0, 1) := chkD_at okX5_takeItem_0 54 rfl
theorem dX5_takeItem_100 : decode cX5_takeItem 100 = .ok (.ireturn, 1) := chkD_at okX5_takeItem_0 55 rfl
theorem okX5_kindNamed_0 : chkD cX5_kindNamed [(0, .aload_n 0, 1), (1, .ldc 72, 2), (3, .invokevirtual 74, 3), (6, .ifCond .eq 5, 3), (9, .iconst 0, 1), (10, .ireturn, 1), (11, .aload_n 0, 1), (12, .ldc 77, 2), (14, .invokevirtual 74, 3), (17, .ifCond .eq 5, 3), (20, .iconst 1, 1), (21, .ireturn, 1), (22, .aload_n 0, 1), (23, .ldc 79, 2), (25, .invokevirtual 74, 3), (28, .ifCond .eq 5, 3), (31, .iconst 2, 1), (32, .ireturn, 1), (33, .aload_n 0, 1), (34, .ldc 81, 2), (36, .invokevirtual 74, 3), (39, .ifCond .eq 5, 3), (42, .iconst 3, 1), (43, .ireturn, 1), (44, .aload_n 0, 1), (45, .ldc 83, 2), (47, .invokevirtual 74, 3), (50, .ifCond .eq 5, 3), (53, .iconst 4, 1), (54, .ireturn, 1), (55, .aload_n 0, 1), (56, .ldc 85, 2), (58, .invokevirtual 74, 3), (61, .ifCond .eq 7, 3), (64, .iconst 5, 1), (65, .goto 4, 3), (68, .iconst (-1), 1), (69, .ireturn, 1)] = true := by decide +kernel
theorem dX5_kindNamed_0 : decode cX5_kindNamed 0 = .ok (.aload_n 0, 1) := chkD_at okX5_kindNamed_0 0 rfl
theorem dX5_kindNamed_1 : decode cX5_kindNamed 1 = .ok (.ldc 72, 2) := chkD_at okX5_kindNamed_0 1 rfl
theorem dX5_kindNamed_3 : decode cX5_kindNamed 3 = .ok (.invokevirtual 74, 3) := chkD_at okX5_kindNamed_0 2 rfl
theorem dX5_kindNamed_6 : decode cX5_kindNamed 6 = .ok (.ifCond .eq 5, 3) := chkD_at okX5_kindNamed_0 3 rfl
theorem dX5_kindNamed_9 : decode cX5_kindNamed 9 = .ok (.iconst 0, 1) := chkD_at okX5_kindNamed_0 4 rfl
theorem dX5_kindNamed_10 : decode cX5_kindNamed 10 = .ok (.ireturn, 1) := chkD_at okX5_kindNamed_0 5 rfl
theorem dX5_kindNamed_11 : decode cX5_kindNamed 11 = .ok (.aload_n 0, 1) := chkD_at okX5_kindNamed_0 6 rfl
theorem dX5_kindNamed_12 : decode cX5_kindNamed 12 = .ok (.ldc 77, 2) := chkD_at okX5_kindNamed_0 7 rfl
theorem dX5_kindNamed_14 : decode cX5_kindNamed 14 = .ok (.invokevirtual 74, 3) := chkD_at okX5_kindNamed_0 8 rfl
theorem dX5_kindNamed_17 : decode cX5_kindNamed 17 = .ok (.ifCond .eq 5, 3) := chkD_at okX5_kindNamed_0 9 rfl
theorem dX5_kindNamed_20 : decode cX5_kindNamed 20 = .ok (.iconst 1, 1) := chkD_at okX5_kindNamed_0 10 rfl
theorem dX5_kindNamed_21 : decode cX5_kindNamed 21 = .ok (.ireturn, 1) := chkD_at okX5_kindNamed_0 11 rfl
theorem dX5_kindNamed_22 : decode cX5_kindNamed 22 = .ok (.aload_n 0, 1) := chkD_at okX5_kindNamed_0 12 rfl
theorem dX5_kindNamed_23 : decode cX5_kindNamed 23 = .ok (.ldc 79, 2) := chkD_at okX5_kindNamed_0 13 rfl
theorem dX5_kindNamed_25 : decode cX5_kindNamed 25 = .ok (.invokevirtual 74, 3) := chkD_at okX5_kindNamed_0 14 rfl
theorem dX5_kindNamed_28 : decode cX5_kindNamed 28 = .ok (.ifCond .eq 5, 3) := chkD_at okX5_kindNamed_0 15 rfl
theorem dX5_kindNamed_31 : decode cX5_kindNamed 31 = .ok (.iconst 2, 1) := chkD_at okX5_kindNamed_0 16 rfl
theorem dX5_kindNamed_32 : decode cX5_kindNamed 32 = .ok (.ireturn, 1) := chkD_at okX5_kindNamed_0 17 rfl
theorem dX5_kindNamed_33 : decode cX5_kindNamed 33 = .ok (.aload_n 0, 1) := chkD_at okX5_kindNamed_0 18 rfl
theorem dX5_kindNamed_34 : decode cX5_kindNamed 34 = .ok (.ldc 81, 2) := chkD_at okX5_kindNamed_0 19 rfl
theorem dX5_kindNamed_36 : decode cX5_kindNamed 36 = .ok (.invokevirtual 74, 3) := chkD_at okX5_kindNamed_0 20 rfl
theorem dX5_kindNamed_39 : decode cX5_kindNamed 39 = .ok (.ifCond .eq 5, 3) := chkD_at okX5_kindNamed_0 21 rfl
theorem dX5_kindNamed_42 : decode cX5_kindNamed 42 = .ok (.iconst 3, 1) := chkD_at okX5_kindNamed_0 22 rfl
theorem dX5_kindNamed_43 : decode cX5_kindNamed 43 = .ok (.ireturn, 1) := chkD_at okX5_kindNamed_0 23 rfl
theorem dX5_kindNamed_44 : decode cX5_kindNamed 44 = .ok (.aload_n 0, 1) := chkD_at okX5_kindNamed_0 24 rfl
theorem dX5_kindNamed_45 : decode cX5_kindNamed 45 = .ok (.ldc 83, 2) := chkD_at okX5_kindNamed_0 25 rfl
theorem dX5_kindNamed_47 : decode cX5_kindNamed 47 = .ok (.invokevirtual 74, 3) := chkD_at okX5_kindNamed_0 26 rfl
theorem dX5_kindNamed_50 : decode cX5_kindNamed 50 = .ok (.ifCond .eq 5, 3) := chkD_at okX5_kindNamed_0 27 rfl
theorem dX5_kindNamed_53 : decode cX5_kindNamed 53 = .ok (.iconst 4, 1) := chkD_at okX5_kindNamed_0 28 rfl
theorem dX5_kindNamed_54 : decode cX5_kindNamed 54 = .ok (.ireturn, 1) := chkD_at okX5_kindNamed_0 29 rfl
theorem dX5_kindNamed_55 : decode cX5_kindNamed 55 = .ok (.aload_n 0, 1) := chkD_at okX5_kindNamed_0 30 rfl
theorem dX5_kindNamed_56 : decode cX5_kindNamed 56 = .ok (.ldc 85, 2) := chkD_at okX5_kindNamed_0 31 rfl
theorem dX5_kindNamed_58 : decode cX5_kindNamed 58 = .ok (.invokevirtual 74, 3) := chkD_at okX5_kindNamed_0 32 rfl
theorem dX5_kindNamed_61 : decode cX5_kindNamed 61 = .ok (.ifCond .eq 7, 3) := chkD_at okX5_kindNamed_0 33 rfl
theorem dX5_kindNamed_64 : decode cX5_kindNamed 64 = .ok (.iconst 5, 1) := chkD_at okX5_kindNamed_0 34 rfl
theorem dX5_kindNamed_65 : decode cX5_kindNamed 65 = .ok (.goto 4, 3) := chkD_at okX5_kindNamed_0 35 rfl
theorem dX5_kindNamed_68 : decode cX5_kindNamed 68 = .ok (.iconst (-1), 1) := chkD_at okX5_kindNamed_0 36 rfl
theorem dX5_kindNamed_69 : decode cX5_kindNamed 69 = .ok (.ireturn, 1) := chkD_at okX5_kindNamed_0 37 rfl
theorem okX5_takeEntry_0 : chkD cX5_takeEntry [(0, .aload_n 1, 1), (1, .invokevirtual 87, 3), (4, .ifCond .eq 5, 3), (7, .iconst 0, 1), (8, .ireturn, 1), (9, .aload_n 0, 1), (10, .invokevirtual 31, 3), (13, .aload_n 0, 1), (14, .invokevirtual 93, 3), (17, .istore_n 3, 1), (18, .iload_n 3, 1), (19, .ifCond .eq 12, 3), (22, .aload_n 0, 1), (23, .ldc 96, 2), (25, .invokevirtual 48, 3), (28, .ifCond .ne 5, 3), (31, .iconst 0, 1), (32, .ireturn, 1), (33, .aload_n 0, 1), (34, .iconst 4, 1), (35, .invokevirtual 98, 3), (38, .istore 4, 2), (40, .iload 4, 2), (42, .ifCond .lt 12, 3), (45, .aload_n 0, 1), (46, .ldc 102, 2), (48, .invokevirtual 48, 3), (51, .ifCond .ne 5, 3), (54, .iconst 0, 1), (55, .ireturn, 1), (56, .aload_n 0, 1), (57, .iconst 3, 1), (58, .invokevirtual 98, 3), (61, .istore 5, 2), (63, .iload 5, 2), (65, .ifCond .ge 5, 3), (68, .iconst 0, 1), (69, .ireturn, 1), (70, .aload_n 1, 1), (71, .iload_n 2, 1), (72, .iload_n 3, 1), (73, .iload 4, 2), (75, .iload 5, 2), (77, .invokestatic 104, 3), (80, .invokevirtual 108, 3), (83, .pop, 1), (84, .iconst 1, 1), (85, .ireturn, 1)] = true := by decide +kernel
theorem dX5_takeEntry_0 : decode cX5_takeEntry 0 = .ok (.aload_n 1, 1) := chkD_at okX5_takeEntry_0 0 rfl
theorem dX5_takeEntry_1 : decode cX5_takeEntry 1 = .ok (.invokevirtual 87, 3) := chkD_at okX5_takeEntry_0 1 rfl
theorem dX5_takeEntry_4 : decode cX5_takeEntry 4 = .ok (.ifCond .eq 5, 3) := chkD_at okX5_takeEntry_0 2 rfl
theorem dX5_takeEntry_7 : decode cX5_takeEntry 7 = .ok (.iconst 0, 1) := chkD_at okX5_takeEntry_0 3 rfl
theorem dX5_takeEntry_8 : decode cX5_takeEntry 8 = .ok (.ireturn, 1) := chkD_at okX5_takeEntry_0 4 rfl
theorem dX5_takeEntry_9 : decode cX5_takeEntry 9 = .ok (.aload_n 0, 1) := chkD_at okX5_takeEntry_0 5 rfl
theorem dX5_takeEntry_10 : decode cX5_takeEntry 10 = .ok (.invokevirtual 31, 3) := chkD_at okX5_takeEntry_0 6 rfl
theorem dX5_takeEntry_13 : decode cX5_takeEntry 13 = .ok (.aload_n 0, 1) := chkD_at okX5_takeEntry_0 7 rfl
theorem dX5_takeEntry_14 : decode cX5_takeEntry 14 = .ok (.invokevirtual 93, 3) := chkD_at okX5_takeEntry_0 8 rfl
theorem dX5_takeEntry_17 : decode cX5_takeEntry 17 = .ok (.istore_n 3, 1) := chkD_at okX5_takeEntry_0 9 rfl
theorem dX5_takeEntry_18 : decode cX5_takeEntry 18 = .ok (.iload_n 3, 1) := chkD_at okX5_takeEntry_0 10 rfl
theorem dX5_takeEntry_19 : decode cX5_takeEntry 19 = .ok (.ifCond .eq 12, 3) := chkD_at okX5_takeEntry_0 11 rfl
theorem dX5_takeEntry_22 : decode cX5_takeEntry 22 = .ok (.aload_n 0, 1) := chkD_at okX5_takeEntry_0 12 rfl
theorem dX5_takeEntry_23 : decode cX5_takeEntry 23 = .ok (.ldc 96, 2) := chkD_at okX5_takeEntry_0 13 rfl
theorem dX5_takeEntry_25 : decode cX5_takeEntry 25 = .ok (.invokevirtual 48, 3) := chkD_at okX5_takeEntry_0 14 rfl
theorem dX5_takeEntry_28 : decode cX5_takeEntry 28 = .ok (.ifCond .ne 5, 3) := chkD_at okX5_takeEntry_0 15 rfl
theorem dX5_takeEntry_31 : decode cX5_takeEntry 31 = .ok (.iconst 0, 1) := chkD_at okX5_takeEntry_0 16 rfl
theorem dX5_takeEntry_32 : decode cX5_takeEntry 32 = .ok (.ireturn, 1) := chkD_at okX5_takeEntry_0 17 rfl
theorem dX5_takeEntry_33 : decode cX5_takeEntry 33 = .ok (.aload_n 0, 1) := chkD_at okX5_takeEntry_0 18 rfl
theorem dX5_takeEntry_34 : decode cX5_takeEntry 34 = .ok (.iconst 4, 1) := chkD_at okX5_takeEntry_0 19 rfl
theorem dX5_takeEntry_35 : decode cX5_takeEntry 35 = .ok (.invokevirtual 98, 3) := chkD_at okX5_takeEntry_0 20 rfl
theorem dX5_takeEntry_38 : decode cX5_takeEntry 38 = .ok (.istore 4, 2) := chkD_at okX5_takeEntry_0 21 rfl
theorem dX5_takeEntry_40 : decode cX5_takeEntry 40 = .ok (.iload 4, 2) := chkD_at okX5_takeEntry_0 22 rfl
theorem dX5_takeEntry_42 : decode cX5_takeEntry 42 = .ok (.ifCond .lt 12, 3) := chkD_at okX5_takeEntry_0 23 rfl
theorem dX5_takeEntry_45 : decode cX5_takeEntry 45 = .ok (.aload_n 0, 1) := chkD_at okX5_takeEntry_0 24 rfl
theorem dX5_takeEntry_46 : decode cX5_takeEntry 46 = .ok (.ldc 102, 2) := chkD_at okX5_takeEntry_0 25 rfl
theorem dX5_takeEntry_48 : decode cX5_takeEntry 48 = .ok (.invokevirtual 48, 3) := chkD_at okX5_takeEntry_0 26 rfl
theorem dX5_takeEntry_51 : decode cX5_takeEntry 51 = .ok (.ifCond .ne 5, 3) := chkD_at okX5_takeEntry_0 27 rfl
theorem dX5_takeEntry_54 : decode cX5_takeEntry 54 = .ok (.iconst 0, 1) := chkD_at okX5_takeEntry_0 28 rfl
theorem dX5_takeEntry_55 : decode cX5_takeEntry 55 = .ok (.ireturn, 1) := chkD_at okX5_takeEntry_0 29 rfl
theorem dX5_takeEntry_56 : decode cX5_takeEntry 56 = .ok (.aload_n 0, 1) := chkD_at okX5_takeEntry_0 30 rfl
theorem dX5_takeEntry_57 : decode cX5_takeEntry 57 = .ok (.iconst 3, 1) := chkD_at okX5_takeEntry_0 31 rfl
theorem dX5_takeEntry_58 : decode cX5_takeEntry 58 = .ok (.invokevirtual 98, 3) := chkD_at okX5_takeEntry_0 32 rfl
theorem dX5_takeEntry_61 : decode cX5_takeEntry 61 = .ok (.istore 5, 2) := chkD_at okX5_takeEntry_0 33 rfl
theorem dX5_takeEntry_63 : decode cX5_takeEntry 63 = .ok (.iload 5, 2) := chkD_at okX5_takeEntry_0 34 rfl
theorem dX5_takeEntry_65 : decode cX5_takeEntry 65 = .ok (.ifCond .ge 5, 3) := chkD_at okX5_takeEntry_0 35 rfl
theorem dX5_takeEntry_68 : decode cX5_takeEntry 68 = .ok (.iconst 0, 1) := chkD_at okX5_takeEntry_0 36 rfl
theorem dX5_takeEntry_69 : decode cX5_takeEntry 69 = .ok (.ireturn, 1) := chkD_at okX5_takeEntry_0 37 rfl
theorem dX5_takeEntry_70 : decode cX5_takeEntry 70 = .ok (.aload_n 1, 1) := chkD_at okX5_takeEntry_0 38 rfl
theorem dX5_takeEntry_71 : decode cX5_takeEntry 71 = .ok (.iload_n 2, 1) := chkD_at okX5_takeEntry_0 39 rfl
theorem dX5_takeEntry_72 : decode cX5_takeEntry 72 = .ok (.iload_n 3, 1) := chkD_at okX5_takeEntry_0 40 rfl
theorem dX5_takeEntry_73 : decode cX5_takeEntry 73 = .ok (.iload 4, 2) := chkD_at okX5_takeEntry_0 41 rfl
theorem dX5_takeEntry_75 : decode cX5_takeEntry 75 = .ok (.iload 5, 2) := chkD_at okX5_takeEntry_0 42 rfl
theorem dX5_takeEntry_77 : decode cX5_takeEntry 77 = .ok (.invokestatic 104, 3) := chkD_at okX5_takeEntry_0 43 rfl
theorem dX5_takeEntry_80 : decode cX5_takeEntry 80 = .ok (.invokevirtual 108, 3) := chkD_at okX5_takeEntry_0 44 rfl
theorem dX5_takeEntry_83 : decode cX5_takeEntry 83 = .ok (.pop, 1) := chkD_at okX5_takeEntry_0 45 rfl
theorem dX5_takeEntry_84 : decode cX5_takeEntry 84 = .ok (.iconst 1, 1) := chkD_at okX5_takeEntry_0 46 rfl
theorem dX5_takeEntry_85 : decode cX5_takeEntry 85 = .ok (.ireturn, 1) := chkD_at okX5_takeEntry_0 47 rfl
theorem okX5_takeThings_0 : chkD cX5_takeThings [(0, .iconst 0, 1), (1, .istore_n 1, 1), (2, .iconst 0, 1), (3, .istore_n 2, 1), (4, .iload_n 2, 1), (5, .iconst 3, 1), (6, .if_icmp .ge 66, 3), (9, .iload_n 2, 1), (10, .ifCond .le 13, 3), (13, .aload_n 0, 1), (14, .getfield 19, 3), (17, .iconst 2, 1), (18, .if_icmp .eq 5, 3), (21, .iload_n 1, 1), (22, .ireturn, 1), (23, .aload_n 0, 1), (24, .getfield 19, 3), (27, .iconst 2, 1), (28, .if_icmp .ne 23, 3), (31, .aload_n 0, 1), (32, .getfield 28, 3), (35, .bipush 8, 2), (37, .if_icmp .ge 14, 3), (40, .iload_n 1, 1), (41, .aload_n 0, 1), (42, .getfield 28, 3), (45, .invokestatic 112, 3), (48, .ifCond .eq 5, 3), (51, .iconst 0, 1), (52, .ireturn, 1), (53, .iload_n 1, 1), (54, .iconst 1, 1), (55, .aload_n 0, 1), (56, .getfield 28, 3), (59, .ishl, 1), (60, .ior, 1), (61, .istore_n 1, 1), (62, .aload_n 0, 1), (63, .invokevirtual 31, 3), (66, .iinc 2 1, 3), (69, .goto (-65), 3), (72, .iload_n 1, 1), (73, .ireturn, 1)] = true := by decide +kernel
theorem dX5_takeThings_0 : decode cX5_takeThings 0 = .ok (.iconst 0, 1) := chkD_at okX5_takeThings_0 0 rfl
theorem dX5_takeThings_1 : decode cX5_takeThings 1 = .ok (.istore_n 1, 1) := chkD_at okX5_takeThings_0 1 rfl
theorem dX5_takeThings_2 : decode cX5_takeThings 2 = .ok (.iconst 0, 1) := chkD_at okX5_takeThings_0 2 rfl
theorem dX5_takeThings_3 : decode cX5_takeThings 3 = .ok (.istore_n 2, 1) := chkD_at okX5_takeThings_0 3 rfl
theorem dX5_takeThings_4 : decode cX5_takeThings 4 = .ok (.iload_n 2, 1) := chkD_at okX5_takeThings_0 4 rfl
theorem dX5_takeThings_5 : decode cX5_takeThings 5 = .ok (.iconst 3, 1) := chkD_at okX5_takeThings_0 5 rfl
theorem dX5_takeThings_6 : decode cX5_takeThings 6 = .ok (.if_icmp .ge 66, 3) := chkD_at okX5_takeThings_0 6 rfl
theorem dX5_takeThings_9 : decode cX5_takeThings 9 = .ok (.iload_n 2, 1) := chkD_at okX5_takeThings_0 7 rfl
theorem dX5_takeThings_10 : decode cX5_takeThings 10 = .ok (.ifCond .le 13, 3) := chkD_at okX5_takeThings_0 8 rfl
theorem dX5_takeThings_13 : decode cX5_takeThings 13 = .ok (.aload_n 0, 1) := chkD_at okX5_takeThings_0 9 rfl
theorem dX5_takeThings_14 : decode cX5_takeThings 14 = .ok (.getfield 19, 3) := chkD_at okX5_takeThings_0 10 rfl
theorem dX5_takeThings_17 : decode cX5_takeThings 17 = .ok (.iconst 2, 1) := chkD_at okX5_takeThings_0 11 rfl
theorem dX5_takeThings_18 : decode cX5_takeThings 18 = .ok (.if_icmp .eq 5, 3) := chkD_at okX5_takeThings_0 12 rfl
theorem dX5_takeThings_21 : decode cX5_takeThings 21 = .ok (.iload_n 1, 1) := chkD_at okX5_takeThings_0 13 rfl
theorem dX5_takeThings_22 : decode cX5_takeThings 22 = .ok (.ireturn, 1) := chkD_at okX5_takeThings_0 14 rfl
theorem dX5_takeThings_23 : decode cX5_takeThings 23 = .ok (.aload_n 0, 1) := chkD_at okX5_takeThings_0 15 rfl
theorem dX5_takeThings_24 : decode cX5_takeThings 24 = .ok (.getfield 19, 3) := chkD_at okX5_takeThings_0 16 rfl
theorem dX5_takeThings_27 : decode cX5_takeThings 27 = .ok (.iconst 2, 1) := chkD_at okX5_takeThings_0 17 rfl
theorem dX5_takeThings_28 : decode cX5_takeThings 28 = .ok (.if_icmp .ne 23, 3) := chkD_at okX5_takeThings_0 18 rfl
theorem dX5_takeThings_31 : decode cX5_takeThings 31 = .ok (.aload_n 0, 1) := chkD_at okX5_takeThings_0 19 rfl
theorem dX5_takeThings_32 : decode cX5_takeThings 32 = .ok (.getfield 28, 3) := chkD_at okX5_takeThings_0 20 rfl
theorem dX5_takeThings_35 : decode cX5_takeThings 35 = .ok (.bipush 8, 2) := chkD_at okX5_takeThings_0 21 rfl
theorem dX5_takeThings_37 : decode cX5_takeThings 37 = .ok (.if_icmp .ge 14, 3) := chkD_at okX5_takeThings_0 22 rfl
theorem dX5_takeThings_40 : decode cX5_takeThings 40 = .ok (.iload_n 1, 1) := chkD_at okX5_takeThings_0 23 rfl
theorem dX5_takeThings_41 : decode cX5_takeThings 41 = .ok (.aload_n 0, 1) := chkD_at okX5_takeThings_0 24 rfl
theorem dX5_takeThings_42 : decode cX5_takeThings 42 = .ok (.getfield 28, 3) := chkD_at okX5_takeThings_0 25 rfl
theorem dX5_takeThings_45 : decode cX5_takeThings 45 = .ok (.invokestatic 112, 3) := chkD_at okX5_takeThings_0 26 rfl
theorem dX5_takeThings_48 : decode cX5_takeThings 48 = .ok (.ifCond .eq 5, 3) := chkD_at okX5_takeThings_0 27 rfl
theorem dX5_takeThings_51 : decode cX5_takeThings 51 = .ok (.iconst 0, 1) := chkD_at okX5_takeThings_0 28 rfl
theorem dX5_takeThings_52 : decode cX5_takeThings 52 = .ok (.ireturn, 1) := chkD_at okX5_takeThings_0 29 rfl
theorem dX5_takeThings_53 : decode cX5_takeThings 53 = .ok (.iload_n 1, 1) := chkD_at okX5_takeThings_0 30 rfl
theorem dX5_takeThings_54 : decode cX5_takeThings 54 = .ok (.iconst 1, 1) := chkD_at okX5_takeThings_0 31 rfl
theorem dX5_takeThings_55 : decode cX5_takeThings 55 = .ok (.aload_n 0, 1) := chkD_at okX5_takeThings_0 32 rfl
theorem dX5_takeThings_56 : decode cX5_takeThings 56 = .ok (.getfield 28, 3) := chkD_at okX5_takeThings_0 33 rfl
theorem dX5_takeThings_59 : decode cX5_takeThings 59 = .ok (.ishl, 1) := chkD_at okX5_takeThings_0 34 rfl
theorem dX5_takeThings_60 : decode cX5_takeThings 60 = .ok (.ior, 1) := chkD_at okX5_takeThings_0 35 rfl
theorem dX5_takeThings_61 : decode cX5_takeThings 61 = .ok (.istore_n 1, 1) := chkD_at okX5_takeThings_0 36 rfl
theorem dX5_takeThings_62 : decode cX5_takeThings 62 = .ok (.aload_n 0, 1) := chkD_at okX5_takeThings_0 37 rfl
theorem dX5_takeThings_63 : decode cX5_takeThings 63 = .ok (.invokevirtual 31, 3) := chkD_at okX5_takeThings_0 38 rfl
theorem dX5_takeThings_66 : decode cX5_takeThings 66 = .ok (.iinc 2 1, 3) := chkD_at okX5_takeThings_0 39 rfl
theorem dX5_takeThings_69 : decode cX5_takeThings 69 = .ok (.goto (-65), 3) := chkD_at okX5_takeThings_0 40 rfl
theorem dX5_takeThings_72 : decode cX5_takeThings 72 = .ok (.iload_n 1, 1) := chkD_at okX5_takeThings_0 41 rfl
theorem dX5_takeThings_73 : decode cX5_takeThings 73 = .ok (.ireturn, 1) := chkD_at okX5_takeThings_0 42 rfl
theorem okX5_takeStore_0 : chkD cX5_takeStore [(0, .aload_n 0, 1), (1, .bipush 7, 2), (3, .invokevirtual 98, 3), (6, .istore_n 2, 1), (7, .iload_n 2, 1), (8, .ifCond .ge 7, 3), (11, .iconst (-1), 1), (12, .goto 9, 3), (15, .aload_n 0, 1), (16, .bipush 99, 2), (18, .invokevirtual 98, 3), (21, .istore_n 3, 1), (22, .iload_n 3, 1), (23, .ifCond .ge 5, 3), (26, .iconst 0, 1), (27, .ireturn, 1), (28, .aload_n 1, 1), (29, .getfield 116, 3), (32, .iload_n 2, 1), (33, .iload_n 3, 1), (34, .iastore, 1), (35, .iconst 1, 1), (36, .ireturn, 1)] = true := by decide +kernel
theorem dX5_takeStore_0 : decode cX5_takeStore 0 = .ok (.aload_n 0, 1) := chkD_at okX5_takeStore_0 0 rfl
theorem dX5_takeStore_1 : decode cX5_takeStore 1 = .ok (.bipush 7, 2) := chkD_at okX5_takeStore_0 1 rfl
theorem dX5_takeStore_3 : decode cX5_takeStore 3 = .ok (.invokevirtual 98, 3) := chkD_at okX5_takeStore_0 2 rfl
theorem dX5_takeStore_6 : decode cX5_takeStore 6 = .ok (.istore_n 2, 1) := chkD_at okX5_takeStore_0 3 rfl
theorem dX5_takeStore_7 : decode cX5_takeStore 7 = .ok (.iload_n 2, 1) := chkD_at okX5_takeStore_0 4 rfl
theorem dX5_takeStore_8 : decode cX5_takeStore 8 = .ok (.ifCond .ge 7, 3) := chkD_at okX5_takeStore_0 5 rfl
theorem dX5_takeStore_11 : decode cX5_takeStore 11 = .ok (.iconst (-1), 1) := chkD_at okX5_takeStore_0 6 rfl
theorem dX5_takeStore_12 : decode cX5_takeStore 12 = .ok (.goto 9, 3) := chkD_at okX5_takeStore_0 7 rfl
theorem dX5_takeStore_15 : decode cX5_takeStore 15 = .ok (.aload_n 0, 1) := chkD_at okX5_takeStore_0 8 rfl
theorem dX5_takeStore_16 : decode cX5_takeStore 16 = .ok (.bipush 99, 2) := chkD_at okX5_takeStore_0 9 rfl
theorem dX5_takeStore_18 : decode cX5_takeStore 18 = .ok (.invokevirtual 98, 3) := chkD_at okX5_takeStore_0 10 rfl
theorem dX5_takeStore_21 : decode cX5_takeStore 21 = .ok (.istore_n 3, 1) := chkD_at okX5_takeStore_0 11 rfl
theorem dX5_takeStore_22 : decode cX5_takeStore 22 = .ok (.iload_n 3, 1) := chkD_at okX5_takeStore_0 12 rfl
theorem dX5_takeStore_23 : decode cX5_takeStore 23 = .ok (.ifCond .ge 5, 3) := chkD_at okX5_takeStore_0 13 rfl
theorem dX5_takeStore_26 : decode cX5_takeStore 26 = .ok (.iconst 0, 1) := chkD_at okX5_takeStore_0 14 rfl
theorem dX5_takeStore_27 : decode cX5_takeStore 27 = .ok (.ireturn, 1) := chkD_at okX5_takeStore_0 15 rfl
theorem dX5_takeStore_28 : decode cX5_takeStore 28 = .ok (.aload_n 1, 1) := chkD_at okX5_takeStore_0 16 rfl
theorem dX5_takeStore_29 : decode cX5_takeStore 29 = .ok (.getfield 116, 3) := chkD_at okX5_takeStore_0 17 rfl
theorem dX5_takeStore_32 : decode cX5_takeStore 32 = .ok (.iload_n 2, 1) := chkD_at okX5_takeStore_0 18 rfl
theorem dX5_takeStore_33 : decode cX5_takeStore 33 = .ok (.iload_n 3, 1) := chkD_at okX5_takeStore_0 19 rfl
theorem dX5_takeStore_34 : decode cX5_takeStore 34 = .ok (.iastore, 1) := chkD_at okX5_takeStore_0 20 rfl
theorem dX5_takeStore_35 : decode cX5_takeStore 35 = .ok (.iconst 1, 1) := chkD_at okX5_takeStore_0 21 rfl
theorem dX5_takeStore_36 : decode cX5_takeStore 36 = .ok (.ireturn, 1) := chkD_at okX5_takeStore_0 22 rfl
theorem okX5_takeLiking_0 : chkD cX5_takeLiking [(0, .aload_n 0, 1), (1, .invokevirtual 119, 3), (4, .istore_n 3, 1), (5, .iload_n 3, 1), (6, .ifCond .ge 5, 3), (9, .iconst 0, 1), (10, .ireturn, 1), (11, .aload_n 0, 1), (12, .invokevirtual 31, 3), (15, .aload_n 1, 1), (16, .iload_n 3, 1), (17, .invokevirtual 122, 3), (20, .astore 4, 2), (22, .aload_n 0, 1), (23, .aload 4, 2), (25, .arraylength, 1), (26, .iconst 1, 1), (27, .isub, 1), (28, .invokevirtual 98, 3), (31, .istore 5, 2), (33, .iload 5, 2), (35, .ifCond .ge 7, 3), (38, .iconst (-1), 1), (39, .goto 9, 3), (42, .aload_n 0, 1), (43, .bipush 9, 2), (45, .invokevirtual 98, 3), (48, .istore 6, 2), (50, .iload 6, 2), (52, .ifCond .ge 5, 3), (55, .iconst 0, 1), (56, .ireturn, 1), (57, .aload 4, 2), (59, .iload 5, 2), (61, .iload_n 2, 1), (62, .iload 6, 2), (64, .imul, 1), (65, .iastore, 1), (66, .iconst 1, 1), (67, .ireturn, 1)] = true := by decide +kernel
theorem dX5_takeLiking_0 : decode cX5_takeLiking 0 = .ok (.aload_n 0, 1) := chkD_at okX5_takeLiking_0 0 rfl
theorem dX5_takeLiking_1 : decode cX5_takeLiking 1 = .ok (.invokevirtual 119, 3) := chkD_at okX5_takeLiking_0 1 rfl
theorem dX5_takeLiking_4 : decode cX5_takeLiking 4 = .ok (.istore_n 3, 1) := chkD_at okX5_takeLiking_0 2 rfl
theorem dX5_takeLiking_5 : decode cX5_takeLiking 5 = .ok (.iload_n 3, 1) := chkD_at okX5_takeLiking_0 3 rfl
theorem dX5_takeLiking_6 : decode cX5_takeLiking 6 = .ok (.ifCond .ge 5, 3) := chkD_at okX5_takeLiking_0 4 rfl
theorem dX5_takeLiking_9 : decode cX5_takeLiking 9 = .ok (.iconst 0, 1) := chkD_at okX5_takeLiking_0 5 rfl
theorem dX5_takeLiking_10 : decode cX5_takeLiking 10 = .ok (.ireturn, 1) := chkD_at okX5_takeLiking_0 6 rfl
theorem dX5_takeLiking_11 : decode cX5_takeLiking 11 = .ok (.aload_n 0, 1) := chkD_at okX5_takeLiking_0 7 rfl
theorem dX5_takeLiking_12 : decode cX5_takeLiking 12 = .ok (.invokevirtual 31, 3) := chkD_at okX5_takeLiking_0 8 rfl
theorem dX5_takeLiking_15 : decode cX5_takeLiking 15 = .ok (.aload_n 1, 1) := chkD_at okX5_takeLiking_0 9 rfl
theorem dX5_takeLiking_16 : decode cX5_takeLiking 16 = .ok (.iload_n 3, 1) := chkD_at okX5_takeLiking_0 10 rfl
theorem dX5_takeLiking_17 : decode cX5_takeLiking 17 = .ok (.invokevirtual 122, 3) := chkD_at okX5_takeLiking_0 11 rfl
theorem dX5_takeLiking_20 : decode cX5_takeLiking 20 = .ok (.astore 4, 2) := chkD_at okX5_takeLiking_0 12 rfl
theorem dX5_takeLiking_22 : decode cX5_takeLiking 22 = .ok (.aload_n 0, 1) := chkD_at okX5_takeLiking_0 13 rfl
theorem dX5_takeLiking_23 : decode cX5_takeLiking 23 = .ok (.aload 4, 2) := chkD_at okX5_takeLiking_0 14 rfl
theorem dX5_takeLiking_25 : decode cX5_takeLiking 25 = .ok (.arraylength, 1) := chkD_at okX5_takeLiking_0 15 rfl
theorem dX5_takeLiking_26 : decode cX5_takeLiking 26 = .ok (.iconst 1, 1) := chkD_at okX5_takeLiking_0 16 rfl
theorem dX5_takeLiking_27 : decode cX5_takeLiking 27 = .ok (.isub, 1) := chkD_at okX5_takeLiking_0 17 rfl
theorem dX5_takeLiking_28 : decode cX5_takeLiking 28 = .ok (.invokevirtual 98, 3) := chkD_at okX5_takeLiking_0 18 rfl
theorem dX5_takeLiking_31 : decode cX5_takeLiking 31 = .ok (.istore 5, 2) := chkD_at okX5_takeLiking_0 19 rfl
theorem dX5_takeLiking_33 : decode cX5_takeLiking 33 = .ok (.iload 5, 2) := chkD_at okX5_takeLiking_0 20 rfl
theorem dX5_takeLiking_35 : decode cX5_takeLiking 35 = .ok (.ifCond .ge 7, 3) := chkD_at okX5_takeLiking_0 21 rfl
theorem dX5_takeLiking_38 : decode cX5_takeLiking 38 = .ok (.iconst (-1), 1) := chkD_at okX5_takeLiking_0 22 rfl
theorem dX5_takeLiking_39 : decode cX5_takeLiking 39 = .ok (.goto 9, 3) := chkD_at okX5_takeLiking_0 23 rfl
theorem dX5_takeLiking_42 : decode cX5_takeLiking 42 = .ok (.aload_n 0, 1) := chkD_at okX5_takeLiking_0 24 rfl
theorem dX5_takeLiking_43 : decode cX5_takeLiking 43 = .ok (.bipush 9, 2) := chkD_at okX5_takeLiking_0 25 rfl
theorem dX5_takeLiking_45 : decode cX5_takeLiking 45 = .ok (.invokevirtual 98, 3) := chkD_at okX5_takeLiking_0 26 rfl
theorem dX5_takeLiking_48 : decode cX5_takeLiking 48 = .ok (.istore 6, 2) := chkD_at okX5_takeLiking_0 27 rfl
theorem dX5_takeLiking_50 : decode cX5_takeLiking 50 = .ok (.iload 6, 2) := chkD_at okX5_takeLiking_0 28 rfl
theorem dX5_takeLiking_52 : decode cX5_takeLiking 52 = .ok (.ifCond .ge 5, 3) := chkD_at okX5_takeLiking_0 29 rfl
theorem dX5_takeLiking_55 : decode cX5_takeLiking 55 = .ok (.iconst 0, 1) := chkD_at okX5_takeLiking_0 30 rfl
theorem dX5_takeLiking_56 : decode cX5_takeLiking 56 = .ok (.ireturn, 1) := chkD_at okX5_takeLiking_0 31 rfl
theorem dX5_takeLiking_57 : decode cX5_takeLiking 57 = .ok (.aload 4, 2) := chkD_at okX5_takeLiking_0 32 rfl
theorem dX5_takeLiking_59 : decode cX5_takeLiking 59 = .ok (.iload 5, 2) := chkD_at okX5_takeLiking_0 33 rfl
theorem dX5_takeLiking_61 : decode cX5_takeLiking 61 = .ok (.iload_n 2, 1) := chkD_at okX5_takeLiking_0 34 rfl
theorem dX5_takeLiking_62 : decode cX5_takeLiking 62 = .ok (.iload 6, 2) := chkD_at okX5_takeLiking_0 35 rfl
theorem dX5_takeLiking_64 : decode cX5_takeLiking 64 = .ok (.imul, 1) := chkD_at okX5_takeLiking_0 36 rfl
theorem dX5_takeLiking_65 : decode cX5_takeLiking 65 = .ok (.iastore, 1) := chkD_at okX5_takeLiking_0 37 rfl
theorem dX5_takeLiking_66 : decode cX5_takeLiking 66 = .ok (.iconst 1, 1) := chkD_at okX5_takeLiking_0 38 rfl
theorem dX5_takeLiking_67 : decode cX5_takeLiking 67 = .ok (.ireturn, 1) := chkD_at okX5_takeLiking_0 39 rfl
theorem okX5_whatNamed_0 : chkD cX5_whatNamed [(0, .aload_n 0, 1), (1, .ldc 126, 2), (3, .invokevirtual 74, 3), (6, .ifCond .eq 5, 3), (9, .iconst 0, 1), (10, .ireturn, 1), (11, .aload_n 0, 1), (12, .ldc 96, 2), (14, .invokevirtual 74, 3), (17, .ifCond .eq 5, 3), (20, .iconst 1, 1), (21, .ireturn, 1), (22, .aload_n 0, 1), (23, .ldc 102, 2), (25, .invokevirtual 74, 3), (28, .ifCond .eq 7, 3), (31, .iconst 2, 1), (32, .goto 4, 3), (35, .iconst (-1), 1), (36, .ireturn, 1)] = true := by decide +kernel
theorem dX5_whatNamed_0 : decode cX5_whatNamed 0 = .ok (.aload_n 0, 1) := chkD_at okX5_whatNamed_0 0 rfl
theorem dX5_whatNamed_1 : decode cX5_whatNamed 1 = .ok (.ldc 126, 2) := chkD_at okX5_whatNamed_0 1 rfl
theorem dX5_whatNamed_3 : decode cX5_whatNamed 3 = .ok (.invokevirtual 74, 3) := chkD_at okX5_whatNamed_0 2 rfl
theorem dX5_whatNamed_6 : decode cX5_whatNamed 6 = .ok (.ifCond .eq 5, 3) := chkD_at okX5_whatNamed_0 3 rfl
theorem dX5_whatNamed_9 : decode cX5_whatNamed 9 = .ok (.iconst 0, 1) := chkD_at okX5_whatNamed_0 4 rfl
theorem dX5_whatNamed_10 : decode cX5_whatNamed 10 = .ok (.ireturn, 1) := chkD_at okX5_whatNamed_0 5 rfl
theorem dX5_whatNamed_11 : decode cX5_whatNamed 11 = .ok (.aload_n 0, 1) := chkD_at okX5_whatNamed_0 6 rfl
theorem dX5_whatNamed_12 : decode cX5_whatNamed 12 = .ok (.ldc 96, 2) := chkD_at okX5_whatNamed_0 7 rfl
theorem dX5_whatNamed_14 : decode cX5_whatNamed 14 = .ok (.invokevirtual 74, 3) := chkD_at okX5_whatNamed_0 8 rfl
theorem dX5_whatNamed_17 : decode cX5_whatNamed 17 = .ok (.ifCond .eq 5, 3) := chkD_at okX5_whatNamed_0 9 rfl
theorem dX5_whatNamed_20 : decode cX5_whatNamed 20 = .ok (.iconst 1, 1) := chkD_at okX5_whatNamed_0 10 rfl
theorem dX5_whatNamed_21 : decode cX5_whatNamed 21 = .ok (.ireturn, 1) := chkD_at okX5_whatNamed_0 11 rfl
theorem dX5_whatNamed_22 : decode cX5_whatNamed 22 = .ok (.aload_n 0, 1) := chkD_at okX5_whatNamed_0 12 rfl
theorem dX5_whatNamed_23 : decode cX5_whatNamed 23 = .ok (.ldc 102, 2) := chkD_at okX5_whatNamed_0 13 rfl
theorem dX5_whatNamed_25 : decode cX5_whatNamed 25 = .ok (.invokevirtual 74, 3) := chkD_at okX5_whatNamed_0 14 rfl
theorem dX5_whatNamed_28 : decode cX5_whatNamed 28 = .ok (.ifCond .eq 7, 3) := chkD_at okX5_whatNamed_0 15 rfl
theorem dX5_whatNamed_31 : decode cX5_whatNamed 31 = .ok (.iconst 2, 1) := chkD_at okX5_whatNamed_0 16 rfl
theorem dX5_whatNamed_32 : decode cX5_whatNamed 32 = .ok (.goto 4, 3) := chkD_at okX5_whatNamed_0 17 rfl
theorem dX5_whatNamed_35 : decode cX5_whatNamed 35 = .ok (.iconst (-1), 1) := chkD_at okX5_whatNamed_0 18 rfl
theorem dX5_whatNamed_36 : decode cX5_whatNamed 36 = .ok (.ireturn, 1) := chkD_at okX5_whatNamed_0 19 rfl
theorem okX5_takeEdict_0 : chkD cX5_takeEdict [(0, .aload_n 0, 1), (1, .ldc 128, 2), (3, .invokevirtual 48, 3), (6, .istore_n 2, 1), (7, .iload_n 2, 1), (8, .ifCond .ne 14, 3), (11, .aload_n 0, 1), (12, .ldc 130, 2), (14, .invokevirtual 48, 3), (17, .ifCond .ne 5, 3), (20, .iconst 0, 1), (21, .ireturn, 1), (22, .aload_n 0, 1), (23, .ldc 132, 2), (25, .invokevirtual 48, 3), (28, .istore_n 3, 1), (29, .iload_n 3, 1), (30, .ifCond .ne 14, 3), (33, .aload_n 0, 1), (34, .ldc 134, 2), (36, .invokevirtual 48, 3), (39, .ifCond .ne 5, 3), (42, .iconst 0, 1), (43, .ireturn, 1), (44, .aload_n 1, 1), (45, .iload_n 2, 1), (46, .ifCond .eq 7, 3), (49, .iconst 0, 1), (50, .goto 4, 3), (53, .iconst 1, 1), (54, .iload_n 3, 1), (55, .invokevirtual 136, 3), (58, .pop, 1), (59, .iconst 1, 1), (60, .ireturn, 1)] = true := by decide +kernel
theorem dX5_takeEdict_0 : decode cX5_takeEdict 0 = .ok (.aload_n 0, 1) := chkD_at okX5_takeEdict_0 0 rfl
theorem dX5_takeEdict_1 : decode cX5_takeEdict 1 = .ok (.ldc 128, 2) := chkD_at okX5_takeEdict_0 1 rfl
theorem dX5_takeEdict_3 : decode cX5_takeEdict 3 = .ok (.invokevirtual 48, 3) := chkD_at okX5_takeEdict_0 2 rfl
theorem dX5_takeEdict_6 : decode cX5_takeEdict 6 = .ok (.istore_n 2, 1) := chkD_at okX5_takeEdict_0 3 rfl
theorem dX5_takeEdict_7 : decode cX5_takeEdict 7 = .ok (.iload_n 2, 1) := chkD_at okX5_takeEdict_0 4 rfl
theorem dX5_takeEdict_8 : decode cX5_takeEdict 8 = .ok (.ifCond .ne 14, 3) := chkD_at okX5_takeEdict_0 5 rfl
theorem dX5_takeEdict_11 : decode cX5_takeEdict 11 = .ok (.aload_n 0, 1) := chkD_at okX5_takeEdict_0 6 rfl
theorem dX5_takeEdict_12 : decode cX5_takeEdict 12 = .ok (.ldc 130, 2) := chkD_at okX5_takeEdict_0 7 rfl
theorem dX5_takeEdict_14 : decode cX5_takeEdict 14 = .ok (.invokevirtual 48, 3) := chkD_at okX5_takeEdict_0 8 rfl
theorem dX5_takeEdict_17 : decode cX5_takeEdict 17 = .ok (.ifCond .ne 5, 3) := chkD_at okX5_takeEdict_0 9 rfl
theorem dX5_takeEdict_20 : decode cX5_takeEdict 20 = .ok (.iconst 0, 1) := chkD_at okX5_takeEdict_0 10 rfl
theorem dX5_takeEdict_21 : decode cX5_takeEdict 21 = .ok (.ireturn, 1) := chkD_at okX5_takeEdict_0 11 rfl
theorem dX5_takeEdict_22 : decode cX5_takeEdict 22 = .ok (.aload_n 0, 1) := chkD_at okX5_takeEdict_0 12 rfl
theorem dX5_takeEdict_23 : decode cX5_takeEdict 23 = .ok (.ldc 132, 2) := chkD_at okX5_takeEdict_0 13 rfl
theorem dX5_takeEdict_25 : decode cX5_takeEdict 25 = .ok (.invokevirtual 48, 3) := chkD_at okX5_takeEdict_0 14 rfl
theorem dX5_takeEdict_28 : decode cX5_takeEdict 28 = .ok (.istore_n 3, 1) := chkD_at okX5_takeEdict_0 15 rfl
theorem dX5_takeEdict_29 : decode cX5_takeEdict 29 = .ok (.iload_n 3, 1) := chkD_at okX5_takeEdict_0 16 rfl
theorem dX5_takeEdict_30 : decode cX5_takeEdict 30 = .ok (.ifCond .ne 14, 3) := chkD_at okX5_takeEdict_0 17 rfl
theorem dX5_takeEdict_33 : decode cX5_takeEdict 33 = .ok (.aload_n 0, 1) := chkD_at okX5_takeEdict_0 18 rfl
theorem dX5_takeEdict_34 : decode cX5_takeEdict 34 = .ok (.ldc 134, 2) := chkD_at okX5_takeEdict_0 19 rfl
theorem dX5_takeEdict_36 : decode cX5_takeEdict 36 = .ok (.invokevirtual 48, 3) := chkD_at okX5_takeEdict_0 20 rfl
theorem dX5_takeEdict_39 : decode cX5_takeEdict 39 = .ok (.ifCond .ne 5, 3) := chkD_at okX5_takeEdict_0 21 rfl
theorem dX5_takeEdict_42 : decode cX5_takeEdict 42 = .ok (.iconst 0, 1) := chkD_at okX5_takeEdict_0 22 rfl
theorem dX5_takeEdict_43 : decode cX5_takeEdict 43 = .ok (.ireturn, 1) := chkD_at okX5_takeEdict_0 23 rfl
theorem dX5_takeEdict_44 : decode cX5_takeEdict 44 = .ok (.aload_n 1, 1) := chkD_at okX5_takeEdict_0 24 rfl
theorem dX5_takeEdict_45 : decode cX5_takeEdict 45 = .ok (.iload_n 2, 1) := chkD_at okX5_takeEdict_0 25 rfl
theorem dX5_takeEdict_46 : decode cX5_takeEdict 46 = .ok (.ifCond .eq 7, 3) := chkD_at okX5_takeEdict_0 26 rfl
theorem dX5_takeEdict_49 : decode cX5_takeEdict 49 = .ok (.iconst 0, 1) := chkD_at okX5_takeEdict_0 27 rfl
theorem dX5_takeEdict_50 : decode cX5_takeEdict 50 = .ok (.goto 4, 3) := chkD_at okX5_takeEdict_0 28 rfl
theorem dX5_takeEdict_53 : decode cX5_takeEdict 53 = .ok (.iconst 1, 1) := chkD_at okX5_takeEdict_0 29 rfl
theorem dX5_takeEdict_54 : decode cX5_takeEdict 54 = .ok (.iload_n 3, 1) := chkD_at okX5_takeEdict_0 30 rfl
theorem dX5_takeEdict_55 : decode cX5_takeEdict 55 = .ok (.invokevirtual 136, 3) := chkD_at okX5_takeEdict_0 31 rfl
theorem dX5_takeEdict_58 : decode cX5_takeEdict 58 = .ok (.pop, 1) := chkD_at okX5_takeEdict_0 32 rfl
theorem dX5_takeEdict_59 : decode cX5_takeEdict 59 = .ok (.iconst 1, 1) := chkD_at okX5_takeEdict_0 33 rfl
theorem dX5_takeEdict_60 : decode cX5_takeEdict 60 = .ok (.ireturn, 1) := chkD_at okX5_takeEdict_0 34 rfl
theorem okX5_takeDay_0 : chkD cX5_takeDay [(0, .aload_n 0, 1), (1, .sipush 9999, 3), (4, .invokevirtual 98, 3), (7, .istore_n 2, 1), (8, .iload_n 2, 1), (9, .ifCond .ge 5, 3), (12, .iconst 0, 1), (13, .ireturn, 1), (14, .aload_n 1, 1), (15, .iload_n 2, 1), (16, .putfield 140, 3), (19, .iconst 1, 1), (20, .ireturn, 1)] = true := by decide +kernel
theorem dX5_takeDay_0 : decode cX5_takeDay 0 = .ok (.aload_n 0, 1) := chkD_at okX5_takeDay_0 0 rfl
theorem dX5_takeDay_1 : decode cX5_takeDay 1 = .ok (.sipush 9999, 3) := chkD_at okX5_takeDay_0 1 rfl
theorem dX5_takeDay_4 : decode cX5_takeDay 4 = .ok (.invokevirtual 98, 3) := chkD_at okX5_takeDay_0 2 rfl
theorem dX5_takeDay_7 : decode cX5_takeDay 7 = .ok (.istore_n 2, 1) := chkD_at okX5_takeDay_0 3 rfl
theorem dX5_takeDay_8 : decode cX5_takeDay 8 = .ok (.iload_n 2, 1) := chkD_at okX5_takeDay_0 4 rfl
theorem dX5_takeDay_9 : decode cX5_takeDay 9 = .ok (.ifCond .ge 5, 3) := chkD_at okX5_takeDay_0 5 rfl
theorem dX5_takeDay_12 : decode cX5_takeDay 12 = .ok (.iconst 0, 1) := chkD_at okX5_takeDay_0 6 rfl
theorem dX5_takeDay_13 : decode cX5_takeDay 13 = .ok (.ireturn, 1) := chkD_at okX5_takeDay_0 7 rfl
theorem dX5_takeDay_14 : decode cX5_takeDay 14 = .ok (.aload_n 1, 1) := chkD_at okX5_takeDay_0 8 rfl
theorem dX5_takeDay_15 : decode cX5_takeDay 15 = .ok (.iload_n 2, 1) := chkD_at okX5_takeDay_0 9 rfl
theorem dX5_takeDay_16 : decode cX5_takeDay 16 = .ok (.putfield 140, 3) := chkD_at okX5_takeDay_0 10 rfl
theorem dX5_takeDay_19 : decode cX5_takeDay 19 = .ok (.iconst 1, 1) := chkD_at okX5_takeDay_0 11 rfl
theorem dX5_takeDay_20 : decode cX5_takeDay 20 = .ok (.ireturn, 1) := chkD_at okX5_takeDay_0 12 rfl
theorem okX5_takeWord_0 : chkD cX5_takeWord [(0, .aload_n 0, 1), (1, .aload_n 1, 1), (2, .invokevirtual 74, 3), (5, .istore_n 2, 1), (6, .iload_n 2, 1), (7, .ifCond .eq 7, 3), (10, .aload_n 0, 1), (11, .invokevirtual 31, 3), (14, .iload_n 2, 1), (15, .ireturn, 1)] = true := by decide +kernel
theorem dX5_takeWord_0 : decode cX5_takeWord 0 = .ok (.aload_n 0, 1) := chkD_at okX5_takeWord_0 0 rfl
theorem dX5_takeWord_1 : decode cX5_takeWord 1 = .ok (.aload_n 1, 1) := chkD_at okX5_takeWord_0 1 rfl
theorem dX5_takeWord_2 : decode cX5_takeWord 2 = .ok (.invokevirtual 74, 3) := chkD_at okX5_takeWord_0 2 rfl
theorem dX5_takeWord_5 : decode cX5_takeWord 5 = .ok (.istore_n 2, 1) := chkD_at okX5_takeWord_0 3 rfl
theorem dX5_takeWord_6 : decode cX5_takeWord 6 = .ok (.iload_n 2, 1) := chkD_at okX5_takeWord_0 4 rfl
theorem dX5_takeWord_7 : decode cX5_takeWord 7 = .ok (.ifCond .eq 7, 3) := chkD_at okX5_takeWord_0 5 rfl
theorem dX5_takeWord_10 : decode cX5_takeWord 10 = .ok (.aload_n 0, 1) := chkD_at okX5_takeWord_0 6 rfl
theorem dX5_takeWord_11 : decode cX5_takeWord 11 = .ok (.invokevirtual 31, 3) := chkD_at okX5_takeWord_0 7 rfl
theorem dX5_takeWord_14 : decode cX5_takeWord 14 = .ok (.iload_n 2, 1) := chkD_at okX5_takeWord_0 8 rfl
theorem dX5_takeWord_15 : decode cX5_takeWord 15 = .ok (.ireturn, 1) := chkD_at okX5_takeWord_0 9 rfl
theorem okX5_takeNumber_0 : chkD cX5_takeNumber [(0, .aload_n 0, 1), (1, .getfield 19, 3), (4, .iconst 2, 1), (5, .if_icmp .ne 11, 3), (8, .aload_n 0, 1), (9, .getfield 28, 3), (12, .iload_n 1, 1), (13, .if_icmp .le 5, 3), (16, .iconst (-1), 1), (17, .ireturn, 1), (18, .aload_n 0, 1), (19, .getfield 28, 3), (22, .istore_n 2, 1), (23, .aload_n 0, 1), (24, .invokevirtual 31, 3), (27, .iload_n 2, 1), (28, .ireturn, 1)] = true := by decide +kernel
theorem dX5_takeNumber_0 : decode cX5_takeNumber 0 = .ok (.aload_n 0, 1) := chkD_at okX5_takeNumber_0 0 rfl
theorem dX5_takeNumber_1 : decode cX5_takeNumber 1 = .ok (.getfield 19, 3) := chkD_at okX5_takeNumber_0 1 rfl
theorem dX5_takeNumber_4 : decode cX5_takeNumber 4 = .ok (.iconst 2, 1) := chkD_at okX5_takeNumber_0 2 rfl
theorem dX5_takeNumber_5 : decode cX5_takeNumber 5 = .ok (.if_icmp .ne 11, 3) := chkD_at okX5_takeNumber_0 3 rfl
theorem dX5_takeNumber_8 : decode cX5_takeNumber 8 = .ok (.aload_n 0, 1) := chkD_at okX5_takeNumber_0 4 rfl
theorem dX5_takeNumber_9 : decode cX5_takeNumber 9 = .ok (.getfield 28, 3) := chkD_at okX5_takeNumber_0 5 rfl
theorem dX5_takeNumber_12 : decode cX5_takeNumber 12 = .ok (.iload_n 1, 1) := chkD_at okX5_takeNumber_0 6 rfl
theorem dX5_takeNumber_13 : decode cX5_takeNumber 13 = .ok (.if_icmp .le 5, 3) := chkD_at okX5_takeNumber_0 7 rfl
theorem dX5_takeNumber_16 : decode cX5_takeNumber 16 = .ok (.iconst (-1), 1) := chkD_at okX5_takeNumber_0 8 rfl
theorem dX5_takeNumber_17 : decode cX5_takeNumber 17 = .ok (.ireturn, 1) := chkD_at okX5_takeNumber_0 9 rfl
theorem dX5_takeNumber_18 : decode cX5_takeNumber 18 = .ok (.aload_n 0, 1) := chkD_at okX5_takeNumber_0 10 rfl
theorem dX5_takeNumber_19 : decode cX5_takeNumber 19 = .ok (.getfield 28, 3) := chkD_at okX5_takeNumber_0 11 rfl
theorem dX5_takeNumber_22 : decode cX5_takeNumber 22 = .ok (.istore_n 2, 1) := chkD_at okX5_takeNumber_0 12 rfl
theorem dX5_takeNumber_23 : decode cX5_takeNumber 23 = .ok (.aload_n 0, 1) := chkD_at okX5_takeNumber_0 13 rfl
theorem dX5_takeNumber_24 : decode cX5_takeNumber 24 = .ok (.invokevirtual 31, 3) := chkD_at okX5_takeNumber_0 14 rfl
theorem dX5_takeNumber_27 : decode cX5_takeNumber 27 = .ok (.iload_n 2, 1) := chkD_at okX5_takeNumber_0 15 rfl
theorem dX5_takeNumber_28 : decode cX5_takeNumber 28 = .ok (.ireturn, 1) := chkD_at okX5_takeNumber_0 16 rfl
theorem okX5_isWord_0 : chkD cX5_isWord [(0, .aload_n 0, 1), (1, .getfield 19, 3), (4, .iconst 1, 1), (5, .if_icmp .ne 28, 3), (8, .aload_n 0, 1), (9, .getfield 25, 3), (12, .aload_n 0, 1), (13, .getfield 22, 3), (16, .isub, 1), (17, .aload_n 1, 1), (18, .invokevirtual 142, 3), (21, .if_icmp .ne 12, 3), (24, .aload_n 0, 1), (25, .getfield 25, 3), (28, .bipush 120, 2), (30, .if_icmp .le 5, 3), (33, .iconst 0, 1), (34, .ireturn, 1), (35, .iconst 0, 1), (36, .istore_n 2, 1), (37, .iload_n 2, 1), (38, .aload_n 1, 1), (39, .invokevirtual 142, 3), (42, .if_icmp .ge 30, 3), (45, .aload_n 0, 1), (46, .getfield 15, 3), (49, .aload_n 0, 1), (50, .getfield 22, 3), (53, .iload_n 2, 1), (54, .iadd, 1), (55, .iaload, 1), (56, .aload_n 1, 1), (57, .iload_n 2, 1), (58, .invokevirtual 146, 3), (61, .if_icmp .eq 5, 3), (64, .iconst 0, 1), (65, .ireturn, 1), (66, .iinc 2 1, 3), (69, .goto (-32), 3), (72, .iconst 1, 1), (73, .ireturn, 1)] = true := by decide +kernel
theorem dX5_isWord_0 : decode cX5_isWord 0 = .ok (.aload_n 0, 1) := chkD_at okX5_isWord_0 0 rfl
theorem dX5_isWord_1 : decode cX5_isWord 1 = .ok (.getfield 19, 3) := chkD_at okX5_isWord_0 1 rfl
theorem dX5_isWord_4 : decode cX5_isWord 4 = .ok (.iconst 1, 1) := chkD_at okX5_isWord_0 2 rfl
theorem dX5_isWord_5 : decode cX5_isWord 5 = .ok (.if_icmp .ne 28, 3) := chkD_at okX5_isWord_0 3 rfl
theorem dX5_isWord_8 : decode cX5_isWord 8 = .ok (.aload_n 0, 1) := chkD_at okX5_isWord_0 4 rfl
theorem dX5_isWord_9 : decode cX5_isWord 9 = .ok (.getfield 25, 3) := chkD_at okX5_isWord_0 5 rfl
theorem dX5_isWord_12 : decode cX5_isWord 12 = .ok (.aload_n 0, 1) := chkD_at okX5_isWord_0 6 rfl
theorem dX5_isWord_13 : decode cX5_isWord 13 = .ok (.getfield 22, 3) := chkD_at okX5_isWord_0 7 rfl
theorem dX5_isWord_16 : decode cX5_isWord 16 = .ok (.isub, 1) := chkD_at okX5_isWord_0 8 rfl
theorem dX5_isWord_17 : decode cX5_isWord 17 = .ok (.aload_n 1, 1) := chkD_at okX5_isWord_0 9 rfl
theorem dX5_isWord_18 : decode cX5_isWord 18 = .ok (.invokevirtual 142, 3) := chkD_at okX5_isWord_0 10 rfl
theorem dX5_isWord_21 : decode cX5_isWord 21 = .ok (.if_icmp .ne 12, 3) := chkD_at okX5_isWord_0 11 rfl
theorem dX5_isWord_24 : decode cX5_isWord 24 = .ok (.aload_n 0, 1) := chkD_at okX5_isWord_0 12 rfl
theorem dX5_isWord_25 : decode cX5_isWord 25 = .ok (.getfield 25, 3) := chkD_at okX5_isWord_0 13 rfl
theorem dX5_isWord_28 : decode cX5_isWord 28 = .ok (.bipush 120, 2) := chkD_at okX5_isWord_0 14 rfl
theorem dX5_isWord_30 : decode cX5_isWord 30 = .ok (.if_icmp .le 5, 3) := chkD_at okX5_isWord_0 15 rfl
theorem dX5_isWord_33 : decode cX5_isWord 33 = .ok (.iconst 0, 1) := chkD_at okX5_isWord_0 16 rfl
theorem dX5_isWord_34 : decode cX5_isWord 34 = .ok (.ireturn, 1) := chkD_at okX5_isWord_0 17 rfl
theorem dX5_isWord_35 : decode cX5_isWord 35 = .ok (.iconst 0, 1) := chkD_at okX5_isWord_0 18 rfl
theorem dX5_isWord_36 : decode cX5_isWord 36 = .ok (.istore_n 2, 1) := chkD_at okX5_isWord_0 19 rfl
theorem dX5_isWord_37 : decode cX5_isWord 37 = .ok (.iload_n 2, 1) := chkD_at okX5_isWord_0 20 rfl
theorem dX5_isWord_38 : decode cX5_isWord 38 = .ok (.aload_n 1, 1) := chkD_at okX5_isWord_0 21 rfl
theorem dX5_isWord_39 : decode cX5_isWord 39 = .ok (.invokevirtual 142, 3) := chkD_at okX5_isWord_0 22 rfl
theorem dX5_isWord_42 : decode cX5_isWord 42 = .ok (.if_icmp .ge 30, 3) := chkD_at okX5_isWord_0 23 rfl
theorem dX5_isWord_45 : decode cX5_isWord 45 = .ok (.aload_n 0, 1) := chkD_at okX5_isWord_0 24 rfl
theorem dX5_isWord_46 : decode cX5_isWord 46 = .ok (.getfield 15, 3) := chkD_at okX5_isWord_0 25 rfl
theorem dX5_isWord_49 : decode cX5_isWord 49 = .ok (.aload_n 0, 1) := chkD_at okX5_isWord_0 26 rfl
theorem dX5_isWord_50 : decode cX5_isWord 50 = .ok (.getfield 22, 3) := chkD_at okX5_isWord_0 27 rfl
theorem dX5_isWord_53 : decode cX5_isWord 53 = .ok (.iload_n 2, 1) := chkD_at okX5_isWord_0 28 rfl
theorem dX5_isWord_54 : decode cX5_isWord 54 = .ok (.iadd, 1) := chkD_at okX5_isWord_0 29 rfl
theorem dX5_isWord_55 : decode cX5_isWord 55 = .ok (.iaload, 1) := chkD_at okX5_isWord_0 30 rfl
theorem dX5_isWord_56 : decode cX5_isWord 56 = .ok (.aload_n 1, 1) := chkD_at okX5_isWord_0 31 rfl
theorem dX5_isWord_57 : decode cX5_isWord 57 = .ok (.iload_n 2, 1) := chkD_at okX5_isWord_0 32 rfl
theorem dX5_isWord_58 : decode cX5_isWord 58 = .ok (.invokevirtual 146, 3) := chkD_at okX5_isWord_0 33 rfl
theorem dX5_isWord_61 : decode cX5_isWord 61 = .ok (.if_icmp .eq 5, 3) := chkD_at okX5_isWord_0 34 rfl
theorem dX5_isWord_64 : decode cX5_isWord 64 = .ok (.iconst 0, 1) := chkD_at okX5_isWord_0 35 rfl
theorem dX5_isWord_65 : decode cX5_isWord 65 = .ok (.ireturn, 1) := chkD_at okX5_isWord_0 36 rfl
theorem dX5_isWord_66 : decode cX5_isWord 66 = .ok (.iinc 2 1, 3) := chkD_at okX5_isWord_0 37 rfl
theorem dX5_isWord_69 : decode cX5_isWord 69 = .ok (.goto (-32), 3) := chkD_at okX5_isWord_0 38 rfl
theorem dX5_isWord_72 : decode cX5_isWord 72 = .ok (.iconst 1, 1) := chkD_at okX5_isWord_0 39 rfl
theorem dX5_isWord_73 : decode cX5_isWord 73 = .ok (.ireturn, 1) := chkD_at okX5_isWord_0 40 rfl
theorem okX5_advance_0 : chkD cX5_advance [(0, .aload_n 0, 1), (1, .aload_n 0, 1), (2, .getfield 25, 3), (5, .putfield 22, 3), (8, .aload_n 0, 1), (9, .getfield 22, 3), (12, .aload_n 0, 1), (13, .getfield 9, 3), (16, .if_icmp .ge 28, 3), (19, .aload_n 0, 1), (20, .aload_n 0, 1), (21, .getfield 22, 3), (24, .invokevirtual 150, 3), (27, .iconst 4, 1), (28, .if_icmp .ne 16, 3), (31, .aload_n 0, 1), (32, .dup, 1), (33, .getfield 22, 3), (36, .iconst 1, 1), (37, .iadd, 1), (38, .putfield 22, 3), (41, .goto (-33), 3), (44, .aload_n 0, 1), (45, .aload_n 0, 1), (46, .aload_n 0, 1), (47, .getfield 22, 3), (50, .invokevirtual 150, 3), (53, .putfield 19, 3), (56, .aload_n 0, 1), (57, .aload_n 0, 1), (58, .getfield 9, 3), (61, .aload_n 0, 1), (62, .getfield 22, 3), (65, .iconst 1, 1), (66, .iadd, 1), (67, .invokestatic 153, 3), (70, .putfield 25, 3), (73, .aload_n 0, 1), (74, .getfield 25, 3), (77, .aload_n 0, 1), (78, .getfield 9, 3), (81, .if_icmp .ge 47, 3), (84, .aload_n 0, 1), (85, .getfield 19, 3), (88, .iconst 1, 1), (89, .if_icmp .eq 11, 3), (92, .aload_n 0, 1), (93, .getfield 19, 3), (96, .iconst 2, 1), (97, .if_icmp .ne 31, 3), (100, .aload_n 0, 1), (101, .aload_n 0, 1), (102, .getfield 25, 3), (105, .invokevirtual 150, 3), (108, .aload_n 0, 1), (109, .getfield 19, 3), (112, .if_icmp .ne 16, 3), (115, .aload_n 0, 1), (116, .dup, 1), (117, .getfield 25, 3), (120, .iconst 1, 1), (121, .iadd, 1), (122, .putfield 25, 3), (125, .goto (-52), 3), (128, .aload_n 0, 1), (129, .aload_n 0, 1), (130, .getfield 19, 3), (133, .iconst 2, 1), (134, .if_icmp .ne 10, 3), (137, .aload_n 0, 1), (138, .invokevirtual 158, 3), (141, .goto 4, 3), (144, .iconst 0, 1), (145, .putfield 28, 3), (148, .return_, 1)] = true := by decide +kernel
theorem dX5_advance_0 : decode cX5_advance 0 = .ok (.aload_n 0, 1) := chkD_at okX5_advance_0 0 rfl
theorem dX5_advance_1 : decode cX5_advance 1 = .ok (.aload_n 0, 1) := chkD_at okX5_advance_0 1 rfl
theorem dX5_advance_2 : decode cX5_advance 2 = .ok (.getfield 25, 3) := chkD_at okX5_advance_0 2 rfl
theorem dX5_advance_5 : decode cX5_advance 5 = .ok (.putfield 22, 3) := chkD_at okX5_advance_0 3 rfl
theorem dX5_advance_8 : decode cX5_advance 8 = .ok (.aload_n 0, 1) := chkD_at okX5_advance_0 4 rfl
theorem dX5_advance_9 : decode cX5_advance 9 = .ok (.getfield 22, 3) := chkD_at okX5_advance_0 5 rfl
theorem dX5_advance_12 : decode cX5_advance 12 = .ok (.aload_n 0, 1) := chkD_at okX5_advance_0 6 rfl
theorem dX5_advance_13 : decode cX5_advance 13 = .ok (.getfield 9, 3) := chkD_at okX5_advance_0 7 rfl
theorem dX5_advance_16 : decode cX5_advance 16 = .ok (.if_icmp .ge 28, 3) := chkD_at okX5_advance_0 8 rfl
theorem dX5_advance_19 : decode cX5_advance 19 = .ok (.aload_n 0, 1) := chkD_at okX5_advance_0 9 rfl
theorem dX5_advance_20 : decode cX5_advance 20 = .ok (.aload_n 0, 1) := chkD_at okX5_advance_0 10 rfl
theorem dX5_advance_21 : decode cX5_advance 21 = .ok (.getfield 22, 3) := chkD_at okX5_advance_0 11 rfl
theorem dX5_advance_24 : decode cX5_advance 24 = .ok (.invokevirtual 150, 3) := chkD_at okX5_advance_0 12 rfl
theorem dX5_advance_27 : decode cX5_advance 27 = .ok (.iconst 4, 1) := chkD_at okX5_advance_0 13 rfl
theorem dX5_advance_28 : decode cX5_advance 28 = .ok (.if_icmp .ne 16, 3) := chkD_at okX5_advance_0 14 rfl
theorem dX5_advance_31 : decode cX5_advance 31 = .ok (.aload_n 0, 1) := chkD_at okX5_advance_0 15 rfl
theorem dX5_advance_32 : decode cX5_advance 32 = .ok (.dup, 1) := chkD_at okX5_advance_0 16 rfl
theorem dX5_advance_33 : decode cX5_advance 33 = .ok (.getfield 22, 3) := chkD_at okX5_advance_0 17 rfl
theorem dX5_advance_36 : decode cX5_advance 36 = .ok (.iconst 1, 1) := chkD_at okX5_advance_0 18 rfl
theorem dX5_advance_37 : decode cX5_advance 37 = .ok (.iadd, 1) := chkD_at okX5_advance_0 19 rfl
theorem dX5_advance_38 : decode cX5_advance 38 = .ok (.putfield 22, 3) := chkD_at okX5_advance_0 20 rfl
theorem dX5_advance_41 : decode cX5_advance 41 = .ok (.goto (-33), 3) := chkD_at okX5_advance_0 21 rfl
theorem dX5_advance_44 : decode cX5_advance 44 = .ok (.aload_n 0, 1) := chkD_at okX5_advance_0 22 rfl
theorem dX5_advance_45 : decode cX5_advance 45 = .ok (.aload_n 0, 1) := chkD_at okX5_advance_0 23 rfl
theorem dX5_advance_46 : decode cX5_advance 46 = .ok (.aload_n 0, 1) := chkD_at okX5_advance_0 24 rfl
theorem dX5_advance_47 : decode cX5_advance 47 = .ok (.getfield 22, 3) := chkD_at okX5_advance_0 25 rfl
theorem dX5_advance_50 : decode cX5_advance 50 = .ok (.invokevirtual 150, 3) := chkD_at okX5_advance_0 26 rfl
theorem dX5_advance_53 : decode cX5_advance 53 = .ok (.putfield 19, 3) := chkD_at okX5_advance_0 27 rfl
theorem dX5_advance_56 : decode cX5_advance 56 = .ok (.aload_n 0, 1) := chkD_at okX5_advance_0 28 rfl
theorem dX5_advance_57 : decode cX5_advance 57 = .ok (.aload_n 0, 1) := chkD_at okX5_advance_0 29 rfl
theorem dX5_advance_58 : decode cX5_advance 58 = .ok (.getfield 9, 3) := chkD_at okX5_advance_0 30 rfl
theorem dX5_advance_61 : decode cX5_advance 61 = .ok (.aload_n 0, 1) := chkD_at okX5_advance_0 31 rfl
theorem dX5_advance_62 : decode cX5_advance 62 = .ok (.getfield 22, 3) := chkD_at okX5_advance_0 32 rfl
theorem dX5_advance_65 : decode cX5_advance 65 = .ok (.iconst 1, 1) := chkD_at okX5_advance_0 33 rfl
theorem dX5_advance_66 : decode cX5_advance 66 = .ok (.iadd, 1) := chkD_at okX5_advance_0 34 rfl
theorem dX5_advance_67 : decode cX5_advance 67 = .ok (.invokestatic 153, 3) := chkD_at okX5_advance_0 35 rfl
theorem dX5_advance_70 : decode cX5_advance 70 = .ok (.putfield 25, 3) := chkD_at okX5_advance_0 36 rfl
theorem dX5_advance_73 : decode cX5_advance 73 = .ok (.aload_n 0, 1) := chkD_at okX5_advance_0 37 rfl
theorem dX5_advance_74 : decode cX5_advance 74 = .ok (.getfield 25, 3) := chkD_at okX5_advance_0 38 rfl
theorem dX5_advance_77 : decode cX5_advance 77 = .ok (.aload_n 0, 1) := chkD_at okX5_advance_0 39 rfl
theorem dX5_advance_78 : decode cX5_advance 78 = .ok (.getfield 9, 3) := chkD_at okX5_advance_0 40 rfl
theorem dX5_advance_81 : decode cX5_advance 81 = .ok (.if_icmp .ge 47, 3) := chkD_at okX5_advance_0 41 rfl
theorem dX5_advance_84 : decode cX5_advance 84 = .ok (.aload_n 0, 1) := chkD_at okX5_advance_0 42 rfl
theorem dX5_advance_85 : decode cX5_advance 85 = .ok (.getfield 19, 3) := chkD_at okX5_advance_0 43 rfl
theorem dX5_advance_88 : decode cX5_advance 88 = .ok (.iconst 1, 1) := chkD_at okX5_advance_0 44 rfl
theorem dX5_advance_89 : decode cX5_advance 89 = .ok (.if_icmp .eq 11, 3) := chkD_at okX5_advance_0 45 rfl
theorem dX5_advance_92 : decode cX5_advance 92 = .ok (.aload_n 0, 1) := chkD_at okX5_advance_0 46 rfl
theorem dX5_advance_93 : decode cX5_advance 93 = .ok (.getfield 19, 3) := chkD_at okX5_advance_0 47 rfl
theorem dX5_advance_96 : decode cX5_advance 96 = .ok (.iconst 2, 1) := chkD_at okX5_advance_0 48 rfl
theorem dX5_advance_97 : decode cX5_advance 97 = .ok (.if_icmp .ne 31, 3) := chkD_at okX5_advance_0 49 rfl
theorem dX5_advance_100 : decode cX5_advance 100 = .ok (.aload_n 0, 1) := chkD_at okX5_advance_0 50 rfl
theorem dX5_advance_101 : decode cX5_advance 101 = .ok (.aload_n 0, 1) := chkD_at okX5_advance_0 51 rfl
theorem dX5_advance_102 : decode cX5_advance 102 = .ok (.getfield 25, 3) := chkD_at okX5_advance_0 52 rfl
theorem dX5_advance_105 : decode cX5_advance 105 = .ok (.invokevirtual 150, 3) := chkD_at okX5_advance_0 53 rfl
theorem dX5_advance_108 : decode cX5_advance 108 = .ok (.aload_n 0, 1) := chkD_at okX5_advance_0 54 rfl
theorem dX5_advance_109 : decode cX5_advance 109 = .ok (.getfield 19, 3) := chkD_at okX5_advance_0 55 rfl
theorem dX5_advance_112 : decode cX5_advance 112 = .ok (.if_icmp .ne 16, 3) := chkD_at okX5_advance_0 56 rfl
theorem dX5_advance_115 : decode cX5_advance 115 = .ok (.aload_n 0, 1) := chkD_at okX5_advance_0 57 rfl
theorem dX5_advance_116 : decode cX5_advance 116 = .ok (.dup, 1) := chkD_at okX5_advance_0 58 rfl
theorem dX5_advance_117 : decode cX5_advance 117 = .ok (.getfield 25, 3) := chkD_at okX5_advance_0 59 rfl
theorem dX5_advance_120 : decode cX5_advance 120 = .ok (.iconst 1, 1) := chkD_at okX5_advance_0 60 rfl
theorem dX5_advance_121 : decode cX5_advance 121 = .ok (.iadd, 1) := chkD_at okX5_advance_0 61 rfl
theorem dX5_advance_122 : decode cX5_advance 122 = .ok (.putfield 25, 3) := chkD_at okX5_advance_0 62 rfl
theorem dX5_advance_125 : decode cX5_advance 125 = .ok (.goto (-52), 3) := chkD_at okX5_advance_0 63 rfl
theorem dX5_advance_128 : decode cX5_advance 128 = .ok (.aload_n 0, 1) := chkD_at okX5_advance_0 64 rfl
theorem dX5_advance_129 : decode cX5_advance 129 = .ok (.aload_n 0, 1) := chkD_at okX5_advance_0 65 rfl
theorem dX5_advance_130 : decode cX5_advance 130 = .ok (.getfield 19, 3) := chkD_at okX5_advance_0 66 rfl
theorem dX5_advance_133 : decode cX5_advance 133 = .ok (.iconst 2, 1) := chkD_at okX5_advance_0 67 rfl
theorem dX5_advance_134 : decode cX5_advance 134 = .ok (.if_icmp .ne 10, 3) := chkD_at okX5_advance_0 68 rfl
theorem dX5_advance_137 : decode cX5_advance 137 = .ok (.aload_n 0, 1) := chkD_at okX5_advance_0 69 rfl
theorem dX5_advance_138 : decode cX5_advance 138 = .ok (.invokevirtual 158, 3) := chkD_at okX5_advance_0 70 rfl
theorem dX5_advance_141 : decode cX5_advance 141 = .ok (.goto 4, 3) := chkD_at okX5_advance_0 71 rfl
theorem dX5_advance_144 : decode cX5_advance 144 = .ok (.iconst 0, 1) := chkD_at okX5_advance_0 72 rfl
theorem dX5_advance_145 : decode cX5_advance 145 = .ok (.putfield 28, 3) := chkD_at okX5_advance_0 73 rfl
theorem dX5_advance_148 : decode cX5_advance 148 = .ok (.return_, 1) := chkD_at okX5_advance_0 74 rfl
theorem okX5_valueOfDigits_0 : chkD cX5_valueOfDigits [(0, .iconst 0, 1), (1, .istore_n 1, 1), (2, .aload_n 0, 1), (3, .getfield 22, 3), (6, .istore_n 2, 1), (7, .iload_n 2, 1), (8, .aload_n 0, 1), (9, .getfield 25, 3), (12, .if_icmp .ge 45, 3), (15, .iload_n 2, 1), (16, .bipush 120, 2), (18, .if_icmp .ge 39, 3), (21, .bipush 10, 2), (23, .iload_n 1, 1), (24, .imul, 1), (25, .aload_n 0, 1), (26, .getfield 15, 3), (29, .iload_n 2, 1), (30, .iaload, 1), (31, .iadd, 1), (32, .bipush 48, 2), (34, .isub, 1), (35, .istore_n 3, 1), (36, .iload_n 3, 1), (37, .sipush 10000, 3), (40, .if_icmp .ge 7, 3), (43, .iload_n 3, 1), (44, .goto 6, 3), (47, .sipush 10000, 3), (50, .istore_n 1, 1), (51, .iinc 2 1, 3), (54, .goto (-47), 3), (57, .iload_n 1, 1), (58, .ireturn, 1)] = true := by decide +kernel
theorem dX5_valueOfDigits_0 : decode cX5_valueOfDigits 0 = .ok (.iconst 0, 1) := chkD_at okX5_valueOfDigits_0 0 rfl
theorem dX5_valueOfDigits_1 : decode cX5_valueOfDigits 1 = .ok (.istore_n 1, 1) := chkD_at okX5_valueOfDigits_0 1 rfl
theorem dX5_valueOfDigits_2 : decode cX5_valueOfDigits 2 = .ok (.aload_n 0, 1) := chkD_at okX5_valueOfDigits_0 2 rfl
theorem dX5_valueOfDigits_3 : decode cX5_valueOfDigits 3 = .ok (.getfield 22, 3) := chkD_at okX5_valueOfDigits_0 3 rfl
theorem dX5_valueOfDigits_6 : decode cX5_valueOfDigits 6 = .ok (.istore_n 2, 1) := chkD_at okX5_valueOfDigits_0 4 rfl
theorem dX5_valueOfDigits_7 : decode cX5_valueOfDigits 7 = .ok (.iload_n 2, 1) := chkD_at okX5_valueOfDigits_0 5 rfl
theorem dX5_valueOfDigits_8 : decode cX5_valueOfDigits 8 = .ok (.aload_n 0, 1) := chkD_at okX5_valueOfDigits_0 6 rfl
theorem dX5_valueOfDigits_9 : decode cX5_valueOfDigits 9 = .ok (.getfield 25, 3) := chkD_at okX5_valueOfDigits_0 7 rfl
theorem dX5_valueOfDigits_12 : decode cX5_valueOfDigits 12 = .ok (.if_icmp .ge 45, 3) := chkD_at okX5_valueOfDigits_0 8 rfl
theorem dX5_valueOfDigits_15 : decode cX5_valueOfDigits 15 = .ok (.iload_n 2, 1) := chkD_at okX5_valueOfDigits_0 9 rfl
theorem dX5_valueOfDigits_16 : decode cX5_valueOfDigits 16 = .ok (.bipush 120, 2) := chkD_at okX5_valueOfDigits_0 10 rfl
theorem dX5_valueOfDigits_18 : decode cX5_valueOfDigits 18 = .ok (.if_icmp .ge 39, 3) := chkD_at okX5_valueOfDigits_0 11 rfl
theorem dX5_valueOfDigits_21 : decode cX5_valueOfDigits 21 = .ok (.bipush 10, 2) := chkD_at okX5_valueOfDigits_0 12 rfl
theorem dX5_valueOfDigits_23 : decode cX5_valueOfDigits 23 = .ok (.iload_n 1, 1) := chkD_at okX5_valueOfDigits_0 13 rfl
theorem dX5_valueOfDigits_24 : decode cX5_valueOfDigits 24 = .ok (.imul, 1) := chkD_at okX5_valueOfDigits_0 14 rfl
theorem dX5_valueOfDigits_25 : decode cX5_valueOfDigits 25 = .ok (.aload_n 0, 1) := chkD_at okX5_valueOfDigits_0 15 rfl
theorem dX5_valueOfDigits_26 : decode cX5_valueOfDigits 26 = .ok (.getfield 15, 3) := chkD_at okX5_valueOfDigits_0 16 rfl
theorem dX5_valueOfDigits_29 : decode cX5_valueOfDigits 29 = .ok (.iload_n 2, 1) := chkD_at okX5_valueOfDigits_0 17 rfl
theorem dX5_valueOfDigits_30 : decode cX5_valueOfDigits 30 = .ok (.iaload, 1) := chkD_at okX5_valueOfDigits_0 18 rfl
theorem dX5_valueOfDigits_31 : decode cX5_valueOfDigits 31 = .ok (.iadd, 1) := chkD_at okX5_valueOfDigits_0 19 rfl
theorem dX5_valueOfDigits_32 : decode cX5_valueOfDigits 32 = .ok (.bipush 48, 2) := chkD_at okX5_valueOfDigits_0 20 rfl
theorem dX5_valueOfDigits_34 : decode cX5_valueOfDigits 34 = .ok (.isub, 1) := chkD_at okX5_valueOfDigits_0 21 rfl
theorem dX5_valueOfDigits_35 : decode cX5_valueOfDigits 35 = .ok (.istore_n 3, 1) := chkD_at okX5_valueOfDigits_0 22 rfl
theorem dX5_valueOfDigits_36 : decode cX5_valueOfDigits 36 = .ok (.iload_n 3, 1) := chkD_at okX5_valueOfDigits_0 23 rfl
theorem dX5_valueOfDigits_37 : decode cX5_valueOfDigits 37 = .ok (.sipush 10000, 3) := chkD_at okX5_valueOfDigits_0 24 rfl
theorem dX5_valueOfDigits_40 : decode cX5_valueOfDigits 40 = .ok (.if_icmp .ge 7, 3) := chkD_at okX5_valueOfDigits_0 25 rfl
theorem dX5_valueOfDigits_43 : decode cX5_valueOfDigits 43 = .ok (.iload_n 3, 1) := chkD_at okX5_valueOfDigits_0 26 rfl
theorem dX5_valueOfDigits_44 : decode cX5_valueOfDigits 44 = .ok (.goto 6, 3) := chkD_at okX5_valueOfDigits_0 27 rfl
theorem dX5_valueOfDigits_47 : decode cX5_valueOfDigits 47 = .ok (.sipush 10000, 3) := chkD_at okX5_valueOfDigits_0 28 rfl
theorem dX5_valueOfDigits_50 : decode cX5_valueOfDigits 50 = .ok (.istore_n 1, 1) := chkD_at okX5_valueOfDigits_0 29 rfl
theorem dX5_valueOfDigits_51 : decode cX5_valueOfDigits 51 = .ok (.iinc 2 1, 3) := chkD_at okX5_valueOfDigits_0 30 rfl
theorem dX5_valueOfDigits_54 : decode cX5_valueOfDigits 54 = .ok (.goto (-47), 3) := chkD_at okX5_valueOfDigits_0 31 rfl
theorem dX5_valueOfDigits_57 : decode cX5_valueOfDigits 57 = .ok (.iload_n 1, 1) := chkD_at okX5_valueOfDigits_0 32 rfl
theorem dX5_valueOfDigits_58 : decode cX5_valueOfDigits 58 = .ok (.ireturn, 1) := chkD_at okX5_valueOfDigits_0 33 rfl
theorem okX5_typeAt_0 : chkD cX5_typeAt [(0, .iload_n 1, 1), (1, .ifCond .lt 17, 3), (4, .iload_n 1, 1), (5, .aload_n 0, 1), (6, .getfield 9, 3), (9, .if_icmp .ge 9, 3), (12, .iload_n 1, 1), (13, .bipush 120, 2), (15, .if_icmp .lt 5, 3), (18, .iconst 0, 1), (19, .ireturn, 1), (20, .aload_n 0, 1), (21, .getfield 15, 3), (24, .iload_n 1, 1), (25, .iaload, 1), (26, .istore_n 2, 1), (27, .iload_n 2, 1), (28, .bipush 97, 2), (30, .if_icmp .lt 11, 3), (33, .iload_n 2, 1), (34, .bipush 122, 2), (36, .if_icmp .gt 5, 3), (39, .iconst 1, 1), (40, .ireturn, 1), (41, .iload_n 2, 1), (42, .bipush 48, 2), (44, .if_icmp .lt 11, 3), (47, .iload_n 2, 1), (48, .bipush 57, 2), (50, .if_icmp .gt 5, 3), (53, .iconst 2, 1), (54, .ireturn, 1), (55, .iload_n 2, 1), (56, .bipush 59, 2), (58, .if_icmp .ne 5, 3), (61, .iconst 3, 1), (62, .ireturn, 1), (63, .iload_n 2, 1), (64, .bipush 32, 2), (66, .if_icmp .ne 7, 3), (69, .iconst 4, 1), (70, .goto 4, 3), (73, .iconst 5, 1), (74, .ireturn, 1)] = true := by decide +kernel
theorem dX5_typeAt_0 : decode cX5_typeAt 0 = .ok (.iload_n 1, 1) := chkD_at okX5_typeAt_0 0 rfl
theorem dX5_typeAt_1 : decode cX5_typeAt 1 = .ok (.ifCond .lt 17, 3) := chkD_at okX5_typeAt_0 1 rfl
theorem dX5_typeAt_4 : decode cX5_typeAt 4 = .ok (.iload_n 1, 1) := chkD_at okX5_typeAt_0 2 rfl
theorem dX5_typeAt_5 : decode cX5_typeAt 5 = .ok (.aload_n 0, 1) := chkD_at okX5_typeAt_0 3 rfl
theorem dX5_typeAt_6 : decode cX5_typeAt 6 = .ok (.getfield 9, 3) := chkD_at okX5_typeAt_0 4 rfl
theorem dX5_typeAt_9 : decode cX5_typeAt 9 = .ok (.if_icmp .ge 9, 3) := chkD_at okX5_typeAt_0 5 rfl
theorem dX5_typeAt_12 : decode cX5_typeAt 12 = .ok (.iload_n 1, 1) := chkD_at okX5_typeAt_0 6 rfl
theorem dX5_typeAt_13 : decode cX5_typeAt 13 = .ok (.bipush 120, 2) := chkD_at okX5_typeAt_0 7 rfl
theorem dX5_typeAt_15 : decode cX5_typeAt 15 = .ok (.if_icmp .lt 5, 3) := chkD_at okX5_typeAt_0 8 rfl
theorem dX5_typeAt_18 : decode cX5_typeAt 18 = .ok (.iconst 0, 1) := chkD_at okX5_typeAt_0 9 rfl
theorem dX5_typeAt_19 : decode cX5_typeAt 19 = .ok (.ireturn, 1) := chkD_at okX5_typeAt_0 10 rfl
theorem dX5_typeAt_20 : decode cX5_typeAt 20 = .ok (.aload_n 0, 1) := chkD_at okX5_typeAt_0 11 rfl
theorem dX5_typeAt_21 : decode cX5_typeAt 21 = .ok (.getfield 15, 3) := chkD_at okX5_typeAt_0 12 rfl
theorem dX5_typeAt_24 : decode cX5_typeAt 24 = .ok (.iload_n 1, 1) := chkD_at okX5_typeAt_0 13 rfl
theorem dX5_typeAt_25 : decode cX5_typeAt 25 = .ok (.iaload, 1) := chkD_at okX5_typeAt_0 14 rfl
theorem dX5_typeAt_26 : decode cX5_typeAt 26 = .ok (.istore_n 2, 1) := chkD_at okX5_typeAt_0 15 rfl
theorem dX5_typeAt_27 : decode cX5_typeAt 27 = .ok (.iload_n 2, 1) := chkD_at okX5_typeAt_0 16 rfl
theorem dX5_typeAt_28 : decode cX5_typeAt 28 = .ok (.bipush 97, 2) := chkD_at okX5_typeAt_0 17 rfl
theorem dX5_typeAt_30 : decode cX5_typeAt 30 = .ok (.if_icmp .lt 11, 3) := chkD_at okX5_typeAt_0 18 rfl
theorem dX5_typeAt_33 : decode cX5_typeAt 33 = .ok (.iload_n 2, 1) := chkD_at okX5_typeAt_0 19 rfl
theorem dX5_typeAt_34 : decode cX5_typeAt 34 = .ok (.bipush 122, 2) := chkD_at okX5_typeAt_0 20 rfl
theorem dX5_typeAt_36 : decode cX5_typeAt 36 = .ok (.if_icmp .gt 5, 3) := chkD_at okX5_typeAt_0 21 rfl
theorem dX5_typeAt_39 : decode cX5_typeAt 39 = .ok (.iconst 1, 1) := chkD_at okX5_typeAt_0 22 rfl
theorem dX5_typeAt_40 : decode cX5_typeAt 40 = .ok (.ireturn, 1) := chkD_at okX5_typeAt_0 23 rfl
theorem dX5_typeAt_41 : decode cX5_typeAt 41 = .ok (.iload_n 2, 1) := chkD_at okX5_typeAt_0 24 rfl
theorem dX5_typeAt_42 : decode cX5_typeAt 42 = .ok (.bipush 48, 2) := chkD_at okX5_typeAt_0 25 rfl
theorem dX5_typeAt_44 : decode cX5_typeAt 44 = .ok (.if_icmp .lt 11, 3) := chkD_at okX5_typeAt_0 26 rfl
theorem dX5_typeAt_47 : decode cX5_typeAt 47 = .ok (.iload_n 2, 1) := chkD_at okX5_typeAt_0 27 rfl
theorem dX5_typeAt_48 : decode cX5_typeAt 48 = .ok (.bipush 57, 2) := chkD_at okX5_typeAt_0 28 rfl
theorem dX5_typeAt_50 : decode cX5_typeAt 50 = .ok (.if_icmp .gt 5, 3) := chkD_at okX5_typeAt_0 29 rfl
theorem dX5_typeAt_53 : decode cX5_typeAt 53 = .ok (.iconst 2, 1) := chkD_at okX5_typeAt_0 30 rfl
theorem dX5_typeAt_54 : decode cX5_typeAt 54 = .ok (.ireturn, 1) := chkD_at okX5_typeAt_0 31 rfl
theorem dX5_typeAt_55 : decode cX5_typeAt 55 = .ok (.iload_n 2, 1) := chkD_at okX5_typeAt_0 32 rfl
theorem dX5_typeAt_56 : decode cX5_typeAt 56 = .ok (.bipush 59, 2) := chkD_at okX5_typeAt_0 33 rfl
theorem dX5_typeAt_58 : decode cX5_typeAt 58 = .ok (.if_icmp .ne 5, 3) := chkD_at okX5_typeAt_0 34 rfl
theorem dX5_typeAt_61 : decode cX5_typeAt 61 = .ok (.iconst 3, 1) := chkD_at okX5_typeAt_0 35 rfl
theorem dX5_typeAt_62 : decode cX5_typeAt 62 = .ok (.ireturn, 1) := chkD_at okX5_typeAt_0 36 rfl
theorem dX5_typeAt_63 : decode cX5_typeAt 63 = .ok (.iload_n 2, 1) := chkD_at okX5_typeAt_0 37 rfl
theorem dX5_typeAt_64 : decode cX5_typeAt 64 = .ok (.bipush 32, 2) := chkD_at okX5_typeAt_0 38 rfl
theorem dX5_typeAt_66 : decode cX5_typeAt 66 = .ok (.if_icmp .ne 7, 3) := chkD_at okX5_typeAt_0 39 rfl
theorem dX5_typeAt_69 : decode cX5_typeAt 69 = .ok (.iconst 4, 1) := chkD_at okX5_typeAt_0 40 rfl
theorem dX5_typeAt_70 : decode cX5_typeAt 70 = .ok (.goto 4, 3) := chkD_at okX5_typeAt_0 41 rfl
theorem dX5_typeAt_73 : decode cX5_typeAt 73 = .ok (.iconst 5, 1) := chkD_at okX5_typeAt_0 42 rfl
theorem dX5_typeAt_74 : decode cX5_typeAt 74 = .ok (.ireturn, 1) := chkD_at okX5_typeAt_0 43 rfl
theorem okX6_init_0 : chkD cX6_init [(0, .aload_n 0, 1), (1, .invokespecial 3, 3), (4, .aload_n 0, 1), (5, .new 9, 3), (8, .dup, 1), (9, .invokespecial 11, 3), (12, .putfield 12, 3), (15, .aload_n 0, 1), (16, .new 9, 3), (19, .dup, 1), (20, .invokespecial 11, 3), (23, .putfield 16, 3), (26, .aload_n 0, 1), (27, .new 9, 3), (30, .dup, 1), (31, .invokespecial 11, 3), (34, .putfield 19, 3), (37, .aload_n 0, 1), (38, .iconst 0, 1), (39, .putfield 22, 3), (42, .aload_n 0, 1), (43, .new 26, 3), (46, .dup, 1), (47, .invokespecial 28, 3), (50, .putfield 29, 3), (53, .aload_n 0, 1), (54, .new 33, 3), (57, .dup, 1), (58, .invokespecial 35, 3), (61, .putfield 36, 3), (64, .aload_n 0, 1), (65, .new 40, 3), (68, .dup, 1), (69, .invokespecial 42, 3), (72, .putfield 43, 3), (75, .aload_n 0, 1), (76, .iconst 4, 1), (77, .anewarray 47, 3), (80, .putfield 49, 3), (83, .aload_n 0, 1), (84, .bipush 7, 2), (86, .newarray .int, 2), (88, .putfield 53, 3), (91, .iconst 0, 1), (92, .istore_n 1, 1), (93, .iload_n 1, 1), (94, .iconst 4, 1), (95, .if_icmp .ge 22, 3), (98, .aload_n 0, 1), (99, .getfield 49, 3), (102, .iload_n 1, 1), (103, .new 47, 3), (106, .dup, 1), (107, .invokespecial 57, 3), (110, .aastore, 1), (111, .iinc 1 1, 3), (114, .goto (-21), 3), (117, .return_, 1)] = true := by decide +kernel
theorem dX6_init_0 : decode cX6_init 0 = .ok (.aload_n 0, 1) := chkD_at okX6_init_0 0 rfl
theorem dX6_init_1 : decode cX6_init 1 = .ok (.invokespecial 3, 3) := chkD_at okX6_init_0 1 rfl
theorem dX6_init_4 : decode cX6_init 4 = .ok (.aload_n 0, 1) := chkD_at okX6_init_0 2 rfl
theorem dX6_init_5 : decode cX6_init 5 = .ok (.new 9, 3) := chkD_at okX6_init_0 3 rfl
theorem dX6_init_8 : decode cX6_init 8 = .ok (.dup, 1) := chkD_at okX6_init_0 4 rfl
theorem dX6_init_9 : decode cX6_init 9 = .ok (.invokespecial 11, 3) := chkD_at okX6_init_0 5 rfl
theorem dX6_init_12 : decode cX6_init 12 = .ok (.putfield 12, 3) := chkD_at okX6_init_0 6 rfl
theorem dX6_init_15 : decode cX6_init 15 = .ok (.aload_n 0, 1) := chkD_at okX6_init_0 7 rfl
theorem dX6_init_16 : decode cX6_init 16 = .ok (.new 9, 3) := chkD_at okX6_init_0 8 rfl
theorem dX6_init_19 : decode cX6_init 19 = .ok (.dup, 1) := chkD_at okX6_init_0 9 rfl
theorem dX6_init_20 : decode cX6_init 20 = .ok (.invokespecial 11, 3) := chkD_at okX6_init_0 10 rfl
theorem dX6_init_23 : decode cX6_init 23 = .ok (.putfield 16, 3) := chkD_at okX6_init_0 11 rfl
theorem dX6_init_26 : decode cX6_init 26 = .ok (.aload_n 0, 1) := chkD_at okX6_init_0 12 rfl
theorem dX6_init_27 : decode cX6_init 27 = .ok (.new 9, 3) := chkD_at okX6_init_0 13 rfl
theorem dX6_init_30 : decode cX6_init 30 = .ok (.dup, 1) := chkD_at okX6_init_0 14 rfl
theorem dX6_init_31 : decode cX6_init 31 = .ok (.invokespecial 11, 3) := chkD_at okX6_init_0 15 rfl
theorem dX6_init_34 : decode cX6_init 34 = .ok (.putfield 19, 3) := chkD_at okX6_init_0 16 rfl
theorem dX6_init_37 : decode cX6_init 37 = .ok (.aload_n 0, 1) := chkD_at okX6_init_0 17 rfl
theorem dX6_init_38 : decode cX6_init 38 = .ok (.iconst 0, 1) := chkD_at okX6_init_0 18 rfl
theorem dX6_init_39 : decode cX6_init 39 = .ok (.putfield 22, 3) := chkD_at okX6_init_0 19 rfl
theorem dX6_init_42 : decode cX6_init 42 = .ok (.aload_n 0, 1) := chkD_at okX6_init_0 20 rfl
theorem dX6_init_43 : decode cX6_init 43 = .ok (.new 26, 3) := chkD_at okX6_init_0 21 rfl
theorem dX6_init_46 : decode cX6_init 46 = .ok (.dup, 1) := chkD_at okX6_init_0 22 rfl
theorem dX6_init_47 : decode cX6_init 47 = .ok (.invokespecial 28, 3) := chkD_at okX6_init_0 23 rfl
theorem dX6_init_50 : decode cX6_init 50 = .ok (.putfield 29, 3) := chkD_at okX6_init_0 24 rfl
theorem dX6_init_53 : decode cX6_init 53 = .ok (.aload_n 0, 1) := chkD_at okX6_init_0 25 rfl
theorem dX6_init_54 : decode cX6_init 54 = .ok (.new 33, 3) := chkD_at okX6_init_0 26 rfl
theorem dX6_init_57 : decode cX6_init 57 = .ok (.dup, 1) := chkD_at okX6_init_0 27 rfl
theorem dX6_init_58 : decode cX6_init 58 = .ok (.invokespecial 35, 3) := chkD_at okX6_init_0 28 rfl
theorem dX6_init_61 : decode cX6_init 61 = .ok (.putfield 36, 3) := chkD_at okX6_init_0 29 rfl
theorem dX6_init_64 : decode cX6_init 64 = .ok (.aload_n 0, 1) := chkD_at okX6_init_0 30 rfl
theorem dX6_init_65 : decode cX6_init 65 = .ok (.new 40, 3) := chkD_at okX6_init_0 31 rfl
theorem dX6_init_68 : decode cX6_init 68 = .ok (.dup, 1) := chkD_at okX6_init_0 32 rfl
theorem dX6_init_69 : decode cX6_init 69 = .ok (.invokespecial 42, 3) := chkD_at okX6_init_0 33 rfl
theorem dX6_init_72 : decode cX6_init 72 = .ok (.putfield 43, 3) := chkD_at okX6_init_0 34 rfl
theorem dX6_init_75 : decode cX6_init 75 = .ok (.aload_n 0, 1) := chkD_at okX6_init_0 35 rfl
theorem dX6_init_76 : decode cX6_init 76 = .ok (.iconst 4, 1) := chkD_at okX6_init_0 36 rfl
theorem dX6_init_77 : decode cX6_init 77 = .ok (.anewarray 47, 3) := chkD_at okX6_init_0 37 rfl
theorem dX6_init_80 : decode cX6_init 80 = .ok (.putfield 49, 3) := chkD_at okX6_init_0 38 rfl
theorem dX6_init_83 : decode cX6_init 83 = .ok (.aload_n 0, 1) := chkD_at okX6_init_0 39 rfl
theorem dX6_init_84 : decode cX6_init 84 = .ok (.bipush 7, 2) := chkD_at okX6_init_0 40 rfl
theorem dX6_init_86 : decode cX6_init 86 = .ok (.newarray .int, 2) := chkD_at okX6_init_0 41 rfl
theorem dX6_init_88 : decode cX6_init 88 = .ok (.putfield 53, 3) := chkD_at okX6_init_0 42 rfl
theorem dX6_init_91 : decode cX6_init 91 = .ok (.iconst 0, 1) := chkD_at okX6_init_0 43 rfl
theorem dX6_init_92 : decode cX6_init 92 = .ok (.istore_n 1, 1) := chkD_at okX6_init_0 44 rfl
theorem dX6_init_93 : decode cX6_init 93 = .ok (.iload_n 1, 1) := chkD_at okX6_init_0 45 rfl
theorem dX6_init_94 : decode cX6_init 94 = .ok (.iconst 4, 1) := chkD_at okX6_init_0 46 rfl
theorem dX6_init_95 : decode cX6_init 95 = .ok (.if_icmp .ge 22, 3) := chkD_at okX6_init_0 47 rfl
theorem dX6_init_98 : decode cX6_init 98 = .ok (.aload_n 0, 1) := chkD_at okX6_init_0 48 rfl
theorem dX6_init_99 : decode cX6_init 99 = .ok (.getfield 49, 3) := chkD_at okX6_init_0 49 rfl
theorem dX6_init_102 : decode cX6_init 102 = .ok (.iload_n 1, 1) := chkD_at okX6_init_0 50 rfl
theorem dX6_init_103 : decode cX6_init 103 = .ok (.new 47, 3) := chkD_at okX6_init_0 51 rfl
theorem dX6_init_106 : decode cX6_init 106 = .ok (.dup, 1) := chkD_at okX6_init_0 52 rfl
theorem dX6_init_107 : decode cX6_init 107 = .ok (.invokespecial 57, 3) := chkD_at okX6_init_0 53 rfl
theorem dX6_init_110 : decode cX6_init 110 = .ok (.aastore, 1) := chkD_at okX6_init_0 54 rfl
theorem dX6_init_111 : decode cX6_init 111 = .ok (.iinc 1 1, 3) := chkD_at okX6_init_0 55 rfl
theorem dX6_init_114 : decode cX6_init 114 = .ok (.goto (-21), 3) := chkD_at okX6_init_0 56 rfl
theorem dX6_init_117 : decode cX6_init 117 = .ok (.return_, 1) := chkD_at okX6_init_0 57 rfl
theorem okX6_store_0 : chkD cX6_store [(0, .iload_n 1, 1), (1, .bipush 8, 2), (3, .invokestatic 58, 3), (6, .ifCond .eq 13, 3), (9, .iload_n 2, 1), (10, .ifCond .lt 9, 3), (13, .iload_n 2, 1), (14, .bipush 99, 2), (16, .if_icmp .le 10, 3), (19, .aload_n 0, 1), (20, .ldc 62, 2), (22, .invokevirtual 63, 3), (25, .ireturn, 1), (26, .aload_n 0, 1), (27, .getfield 12, 3), (30, .getfield 67, 3), (33, .iload_n 1, 1), (34, .iaload, 1), (35, .istore_n 3, 1), (36, .aload_n 0, 1), (37, .getfield 12, 3), (40, .getfield 67, 3), (43, .iload_n 1, 1), (44, .iload_n 2, 1), (45, .iastore, 1), (46, .iload_n 3, 1), (47, .ireturn, 1)] = true := by decide +kernel
theorem dX6_store_0 : decode cX6_store 0 = .ok (.iload_n 1, 1) := chkD_at okX6_store_0 0 rfl
theorem dX6_store_1 : decode cX6_store 1 = .ok (.bipush 8, 2) := chkD_at okX6_store_0 1 rfl
theorem dX6_store_3 : decode cX6_store 3 = .ok (.invokestatic 58, 3) := chkD_at okX6_store_0 2 rfl
theorem dX6_store_6 : decode cX6_store 6 = .ok (.ifCond .eq 13, 3) := chkD_at okX6_store_0 3 rfl
theorem dX6_store_9 : decode cX6_store 9 = .ok (.iload_n 2, 1) := chkD_at okX6_store_0 4 rfl
theorem dX6_store_10 : decode cX6_store 10 = .ok (.ifCond .lt 9, 3) := chkD_at okX6_store_0 5 rfl
theorem dX6_store_13 : decode cX6_store 13 = .ok (.iload_n 2, 1) := chkD_at okX6_store_0 6 rfl
theorem dX6_store_14 : decode cX6_store 14 = .ok (.bipush 99, 2) := chkD_at okX6_store_0 7 rfl
theorem dX6_store_16 : decode cX6_store 16 = .ok (.if_icmp .le 10, 3) := chkD_at okX6_store_0 8 rfl
theorem dX6_store_19 : decode cX6_store 19 = .ok (.aload_n 0, 1) := chkD_at okX6_store_0 9 rfl
theorem dX6_store_20 : decode cX6_store 20 = .ok (.ldc 62, 2) := chkD_at okX6_store_0 10 rfl
theorem dX6_store_22 : decode cX6_store 22 = .ok (.invokevirtual 63, 3) := chkD_at okX6_store_0 11 rfl
theorem dX6_store_25 : decode cX6_store 25 = .ok (.ireturn, 1) := chkD_at okX6_store_0 12 rfl
theorem dX6_store_26 : decode cX6_store 26 = .ok (.aload_n 0, 1) := chkD_at okX6_store_0 13 rfl
theorem dX6_store_27 : decode cX6_store 27 = .ok (.getfield 12, 3) := chkD_at okX6_store_0 14 rfl
theorem dX6_store_30 : decode cX6_store 30 = .ok (.getfield 67, 3) := chkD_at okX6_store_0 15 rfl
theorem dX6_store_33 : decode cX6_store 33 = .ok (.iload_n 1, 1) := chkD_at okX6_store_0 16 rfl
theorem dX6_store_34 : decode cX6_store 34 = .ok (.iaload, 1) := chkD_at okX6_store_0 17 rfl
theorem dX6_store_35 : decode cX6_store 35 = .ok (.istore_n 3, 1) := chkD_at okX6_store_0 18 rfl
theorem dX6_store_36 : decode cX6_store 36 = .ok (.aload_n 0, 1) := chkD_at okX6_store_0 19 rfl
theorem dX6_store_37 : decode cX6_store 37 = .ok (.getfield 12, 3) := chkD_at okX6_store_0 20 rfl
theorem dX6_store_40 : decode cX6_store 40 = .ok (.getfield 67, 3) := chkD_at okX6_store_0 21 rfl
theorem dX6_store_43 : decode cX6_store 43 = .ok (.iload_n 1, 1) := chkD_at okX6_store_0 22 rfl
theorem dX6_store_44 : decode cX6_store 44 = .ok (.iload_n 2, 1) := chkD_at okX6_store_0 23 rfl
theorem dX6_store_45 : decode cX6_store 45 = .ok (.iastore, 1) := chkD_at okX6_store_0 24 rfl
theorem dX6_store_46 : decode cX6_store 46 = .ok (.iload_n 3, 1) := chkD_at okX6_store_0 25 rfl
theorem dX6_store_47 : decode cX6_store 47 = .ok (.ireturn, 1) := chkD_at okX6_store_0 26 rfl
theorem okX6_storeOf_0 : chkD cX6_storeOf [(0, .iload_n 1, 1), (1, .bipush 8, 2), (3, .invokestatic 58, 3), (6, .ifCond .eq 15, 3), (9, .aload_n 0, 1), (10, .getfield 12, 3), (13, .getfield 67, 3), (16, .iload_n 1, 1), (17, .iaload, 1), (18, .goto 9, 3), (21, .aload_n 0, 1), (22, .ldc 62, 2), (24, .invokevirtual 63, 3), (27, .ireturn, 1)] = true := by decide +kernel
theorem dX6_storeOf_0 : decode cX6_storeOf 0 = .ok (.iload_n 1, 1) := chkD_at okX6_storeOf_0 0 rfl
theorem dX6_storeOf_1 : decode cX6_storeOf 1 = .ok (.bipush 8, 2) := chkD_at okX6_storeOf_0 1 rfl
theorem dX6_storeOf_3 : decode cX6_storeOf 3 = .ok (.invokestatic 58, 3) := chkD_at okX6_storeOf_0 2 rfl
theorem dX6_storeOf_6 : decode cX6_storeOf 6 = .ok (.ifCond .eq 15, 3) := chkD_at okX6_storeOf_0 3 rfl
theorem dX6_storeOf_9 : decode cX6_storeOf 9 = .ok (.aload_n 0, 1) := chkD_at okX6_storeOf_0 4 rfl
theorem dX6_storeOf_10 : decode cX6_storeOf 10 = .ok (.getfield 12, 3) := chkD_at okX6_storeOf_0 5 rfl
theorem dX6_storeOf_13 : decode cX6_storeOf 13 = .ok (.getfield 67, 3) := chkD_at okX6_storeOf_0 6 rfl
theorem dX6_storeOf_16 : decode cX6_storeOf 16 = .ok (.iload_n 1, 1) := chkD_at okX6_storeOf_0 7 rfl
theorem dX6_storeOf_17 : decode cX6_storeOf 17 = .ok (.iaload, 1) := chkD_at okX6_storeOf_0 8 rfl
theorem dX6_storeOf_18 : decode cX6_storeOf 18 = .ok (.goto 9, 3) := chkD_at okX6_storeOf_0 9 rfl
theorem dX6_storeOf_21 : decode cX6_storeOf 21 = .ok (.aload_n 0, 1) := chkD_at okX6_storeOf_0 10 rfl
theorem dX6_storeOf_22 : decode cX6_storeOf 22 = .ok (.ldc 62, 2) := chkD_at okX6_storeOf_0 11 rfl
theorem dX6_storeOf_24 : decode cX6_storeOf 24 = .ok (.invokevirtual 63, 3) := chkD_at okX6_storeOf_0 12 rfl
theorem dX6_storeOf_27 : decode cX6_storeOf 27 = .ok (.ireturn, 1) := chkD_at okX6_storeOf_0 13 rfl
theorem okX6_like_0 : chkD cX6_like [(0, .iload_n 1, 1), (1, .iconst 3, 1), (2, .invokestatic 58, 3), (5, .ifCond .eq 15, 3), (8, .iload_n 3, 1), (9, .bipush (-9), 2), (11, .if_icmp .lt 9, 3), (14, .iload_n 3, 1), (15, .bipush 9, 2), (17, .if_icmp .le 10, 3), (20, .aload_n 0, 1), (21, .ldc 62, 2), (23, .invokevirtual 63, 3), (26, .ireturn, 1), (27, .aload_n 0, 1), (28, .getfield 12, 3), (31, .iload_n 1, 1), (32, .invokevirtual 70, 3), (35, .astore 4, 2), (37, .iload_n 2, 1), (38, .aload 4, 2), (40, .arraylength, 1), (41, .invokestatic 58, 3), (44, .ifCond .ne 10, 3), (47, .aload_n 0, 1), (48, .ldc 62, 2), (50, .invokevirtual 63, 3), (53, .ireturn, 1), (54, .aload 4, 2), (56, .iload_n 2, 1), (57, .iaload, 1), (58, .istore 5, 2), (60, .aload 4, 2), (62, .iload_n 2, 1), (63, .iload_n 3, 1), (64, .iastore, 1), (65, .iload 5, 2), (67, .ireturn, 1)] = true := by decide +kernel
theorem dX6_like_0 : decode cX6_like 0 = .ok (.iload_n 1, 1) := chkD_at okX6_like_0 0 rfl
theorem dX6_like_1 : decode cX6_like 1 = .ok (.iconst 3, 1) := chkD_at okX6_like_0 1 rfl
theorem dX6_like_2 : decode cX6_like 2 = .ok (.invokestatic 58, 3) := chkD_at okX6_like_0 2 rfl
theorem dX6_like_5 : decode cX6_like 5 = .ok (.ifCond .eq 15, 3) := chkD_at okX6_like_0 3 rfl
theorem dX6_like_8 : decode cX6_like 8 = .ok (.iload_n 3, 1) := chkD_at okX6_like_0 4 rfl
theorem dX6_like_9 : decode cX6_like 9 = .ok (.bipush (-9), 2) := chkD_at okX6_like_0 5 rfl
theorem dX6_like_11 : decode cX6_like 11 = .ok (.if_icmp .lt 9, 3) := chkD_at okX6_like_0 6 rfl
theorem dX6_like_14 : decode cX6_like 14 = .ok (.iload_n 3, 1) := chkD_at okX6_like_0 7 rfl
theorem dX6_like_15 : decode cX6_like 15 = .ok (.bipush 9, 2) := chkD_at okX6_like_0 8 rfl
theorem dX6_like_17 : decode cX6_like 17 = .ok (.if_icmp .le 10, 3) := chkD_at okX6_like_0 9 rfl
theorem dX6_like_20 : decode cX6_like 20 = .ok (.aload_n 0, 1) := chkD_at okX6_like_0 10 rfl
theorem dX6_like_21 : decode cX6_like 21 = .ok (.ldc 62, 2) := chkD_at okX6_like_0 11 rfl
theorem dX6_like_23 : decode cX6_like 23 = .ok (.invokevirtual 63, 3) := chkD_at okX6_like_0 12 rfl
theorem dX6_like_26 : decode cX6_like 26 = .ok (.ireturn, 1) := chkD_at okX6_like_0 13 rfl
theorem dX6_like_27 : decode cX6_like 27 = .ok (.aload_n 0, 1) := chkD_at okX6_like_0 14 rfl
theorem dX6_like_28 : decode cX6_like 28 = .ok (.getfield 12, 3) := chkD_at okX6_like_0 15 rfl
theorem dX6_like_31 : decode cX6_like 31 = .ok (.iload_n 1, 1) := chkD_at okX6_like_0 16 rfl
theorem dX6_like_32 : decode cX6_like 32 = .ok (.invokevirtual 70, 3) := chkD_at okX6_like_0 17 rfl
theorem dX6_like_35 : decode cX6_like 35 = .ok (.astore 4, 2) := chkD_at okX6_like_0 18 rfl
theorem dX6_like_37 : decode cX6_like 37 = .ok (.iload_n 2, 1) := chkD_at okX6_like_0 19 rfl
theorem dX6_like_38 : decode cX6_like 38 = .ok (.aload 4, 2) := chkD_at okX6_like_0 20 rfl
theorem dX6_like_40 : decode cX6_like 40 = .ok (.arraylength, 1) := chkD_at okX6_like_0 21 rfl
theorem dX6_like_41 : decode cX6_like 41 = .ok (.invokestatic 58, 3) := chkD_at okX6_like_0 22 rfl
theorem dX6_like_44 : decode cX6_like 44 = .ok (.ifCond .ne 10, 3) := chkD_at okX6_like_0 23 rfl
theorem dX6_like_47 : decode cX6_like 47 = .ok (.aload_n 0, 1) := chkD_at okX6_like_0 24 rfl
theorem dX6_like_48 : decode cX6_like 48 = .ok (.ldc 62, 2) := chkD_at okX6_like_0 25 rfl
theorem dX6_like_50 : decode cX6_like 50 = .ok (.invokevirtual 63, 3) := chkD_at okX6_like_0 26 rfl
theorem dX6_like_53 : decode cX6_like 53 = .ok (.ireturn, 1) := chkD_at okX6_like_0 27 rfl
theorem dX6_like_54 : decode cX6_like 54 = .ok (.aload 4, 2) := chkD_at okX6_like_0 28 rfl
theorem dX6_like_56 : decode cX6_like 56 = .ok (.iload_n 2, 1) := chkD_at okX6_like_0 29 rfl
theorem dX6_like_57 : decode cX6_like 57 = .ok (.iaload, 1) := chkD_at okX6_like_0 30 rfl
theorem dX6_like_58 : decode cX6_like 58 = .ok (.istore 5, 2) := chkD_at okX6_like_0 31 rfl
theorem dX6_like_60 : decode cX6_like 60 = .ok (.aload 4, 2) := chkD_at okX6_like_0 32 rfl
theorem dX6_like_62 : decode cX6_like 62 = .ok (.iload_n 2, 1) := chkD_at okX6_like_0 33 rfl
theorem dX6_like_63 : decode cX6_like 63 = .ok (.iload_n 3, 1) := chkD_at okX6_like_0 34 rfl
theorem dX6_like_64 : decode cX6_like 64 = .ok (.iastore, 1) := chkD_at okX6_like_0 35 rfl
theorem dX6_like_65 : decode cX6_like 65 = .ok (.iload 5, 2) := chkD_at okX6_like_0 36 rfl
theorem dX6_like_67 : decode cX6_like 67 = .ok (.ireturn, 1) := chkD_at okX6_like_0 37 rfl
theorem okX6_edict_0 : chkD cX6_edict [(0, .iload_n 1, 1), (1, .iconst 2, 1), (2, .invokestatic 58, 3), (5, .ifCond .ne 10, 3), (8, .aload_n 0, 1), (9, .ldc 62, 2), (11, .invokevirtual 63, 3), (14, .ireturn, 1), (15, .aload_n 0, 1), (16, .getfield 12, 3), (19, .iload_n 1, 1), (20, .iload_n 2, 1), (21, .invokevirtual 74, 3), (24, .ifCond .eq 7, 3), (27, .iconst 1, 1), (28, .goto 4, 3), (31, .iconst 0, 1), (32, .ireturn, 1)] = true := by decide +kernel
theorem dX6_edict_0 : decode cX6_edict 0 = .ok (.iload_n 1, 1) := chkD_at okX6_edict_0 0 rfl
theorem dX6_edict_1 : decode cX6_edict 1 = .ok (.iconst 2, 1) := chkD_at okX6_edict_0 1 rfl
theorem dX6_edict_2 : decode cX6_edict 2 = .ok (.invokestatic 58, 3) := chkD_at okX6_edict_0 2 rfl
theorem dX6_edict_5 : decode cX6_edict 5 = .ok (.ifCond .ne 10, 3) := chkD_at okX6_edict_0 3 rfl
theorem dX6_edict_8 : decode cX6_edict 8 = .ok (.aload_n 0, 1) := chkD_at okX6_edict_0 4 rfl
theorem dX6_edict_9 : decode cX6_edict 9 = .ok (.ldc 62, 2) := chkD_at okX6_edict_0 5 rfl
theorem dX6_edict_11 : decode cX6_edict 11 = .ok (.invokevirtual 63, 3) := chkD_at okX6_edict_0 6 rfl
theorem dX6_edict_14 : decode cX6_edict 14 = .ok (.ireturn, 1) := chkD_at okX6_edict_0 7 rfl
theorem dX6_edict_15 : decode cX6_edict 15 = .ok (.aload_n 0, 1) := chkD_at okX6_edict_0 8 rfl
theorem dX6_edict_16 : decode cX6_edict 16 = .ok (.getfield 12, 3) := chkD_at okX6_edict_0 9 rfl
theorem dX6_edict_19 : decode cX6_edict 19 = .ok (.iload_n 1, 1) := chkD_at okX6_edict_0 10 rfl
theorem dX6_edict_20 : decode cX6_edict 20 = .ok (.iload_n 2, 1) := chkD_at okX6_edict_0 11 rfl
theorem dX6_edict_21 : decode cX6_edict 21 = .ok (.invokevirtual 74, 3) := chkD_at okX6_edict_0 12 rfl
theorem dX6_edict_24 : decode cX6_edict 24 = .ok (.ifCond .eq 7, 3) := chkD_at okX6_edict_0 13 rfl
theorem dX6_edict_27 : decode cX6_edict 27 = .ok (.iconst 1, 1) := chkD_at okX6_edict_0 14 rfl
theorem dX6_edict_28 : decode cX6_edict 28 = .ok (.goto 4, 3) := chkD_at okX6_edict_0 15 rfl
theorem dX6_edict_31 : decode cX6_edict 31 = .ok (.iconst 0, 1) := chkD_at okX6_edict_0 16 rfl
theorem dX6_edict_32 : decode cX6_edict 32 = .ok (.ireturn, 1) := chkD_at okX6_edict_0 17 rfl
theorem okX6_dish_0 : chkD cX6_dish [(0, .iload_n 1, 1), (1, .invokestatic 78, 3), (4, .ifCond .eq 19, 3), (7, .iload_n 2, 1), (8, .iconst 5, 1), (9, .invokestatic 58, 3), (12, .ifCond .eq 11, 3), (15, .iload_n 3, 1), (16, .iconst 4, 1), (17, .invokestatic 58, 3), (20, .ifCond .ne 10, 3), (23, .aload_n 0, 1), (24, .ldc 62, 2), (26, .invokevirtual 63, 3), (29, .ireturn, 1), (30, .iload_n 1, 1), (31, .iload_n 2, 1), (32, .iload_n 3, 1), (33, .invokestatic 82, 3), (36, .ireturn, 1)] = true := by decide +kernel
theorem dX6_dish_0 : decode cX6_dish 0 = .ok (.iload_n 1, 1) := chkD_at okX6_dish_0 0 rfl
theorem dX6_dish_1 : decode cX6_dish 1 = .ok (.invokestatic 78, 3) := chkD_at okX6_dish_0 1 rfl
theorem dX6_dish_4 : decode cX6_dish 4 = .ok (.ifCond .eq 19, 3) := chkD_at okX6_dish_0 2 rfl
theorem dX6_dish_7 : decode cX6_dish 7 = .ok (.iload_n 2, 1) := chkD_at okX6_dish_0 3 rfl
theorem dX6_dish_8 : decode cX6_dish 8 = .ok (.iconst 5, 1) := chkD_at okX6_dish_0 4 rfl
theorem dX6_dish_9 : decode cX6_dish 9 = .ok (.invokestatic 58, 3) := chkD_at okX6_dish_0 5 rfl
theorem dX6_dish_12 : decode cX6_dish 12 = .ok (.ifCond .eq 11, 3) := chkD_at okX6_dish_0 6 rfl
theorem dX6_dish_15 : decode cX6_dish 15 = .ok (.iload_n 3, 1) := chkD_at okX6_dish_0 7 rfl
theorem dX6_dish_16 : decode cX6_dish 16 = .ok (.iconst 4, 1) := chkD_at okX6_dish_0 8 rfl
theorem dX6_dish_17 : decode cX6_dish 17 = .ok (.invokestatic 58, 3) := chkD_at okX6_dish_0 9 rfl
theorem dX6_dish_20 : decode cX6_dish 20 = .ok (.ifCond .ne 10, 3) := chkD_at okX6_dish_0 10 rfl
theorem dX6_dish_23 : decode cX6_dish 23 = .ok (.aload_n 0, 1) := chkD_at okX6_dish_0 11 rfl
theorem dX6_dish_24 : decode cX6_dish 24 = .ok (.ldc 62, 2) := chkD_at okX6_dish_0 12 rfl
theorem dX6_dish_26 : decode cX6_dish 26 = .ok (.invokevirtual 63, 3) := chkD_at okX6_dish_0 13 rfl
theorem dX6_dish_29 : decode cX6_dish 29 = .ok (.ireturn, 1) := chkD_at okX6_dish_0 14 rfl
theorem dX6_dish_30 : decode cX6_dish 30 = .ok (.iload_n 1, 1) := chkD_at okX6_dish_0 15 rfl
theorem dX6_dish_31 : decode cX6_dish 31 = .ok (.iload_n 2, 1) := chkD_at okX6_dish_0 16 rfl
theorem dX6_dish_32 : decode cX6_dish 32 = .ok (.iload_n 3, 1) := chkD_at okX6_dish_0 17 rfl
theorem dX6_dish_33 : decode cX6_dish 33 = .ok (.invokestatic 82, 3) := chkD_at okX6_dish_0 18 rfl
theorem dX6_dish_36 : decode cX6_dish 36 = .ok (.ireturn, 1) := chkD_at okX6_dish_0 19 rfl
theorem okX6_of_0 : chkD cX6_of [(0, .iload_n 1, 1), (1, .invokestatic 86, 3), (4, .ifCond .ne 10, 3), (7, .aload_n 0, 1), (8, .ldc 62, 2), (10, .invokevirtual 63, 3), (13, .ireturn, 1), (14, .iload_n 2, 1), (15, .tableswitch 95 0 5 #[37, 42, 47, 52, 61, 78], 37), (52, .iload_n 1, 1), (53, .invokestatic 89, 3), (56, .ireturn, 1), (57, .iload_n 1, 1), (58, .invokestatic 92, 3), (61, .ireturn, 1), (62, .iload_n 1, 1), (63, .invokestatic 95, 3), (66, .ireturn, 1), (67, .aload_n 0, 1), (68, .getfield 12, 3), (71, .iload_n 1, 1), (72, .invokevirtual 98, 3), (75, .ireturn, 1), (76, .aload_n 0, 1), (77, .getfield 12, 3), (80, .iload_n 1, 1), (81, .invokevirtual 101, 3), (84, .ifCond .eq 7, 3), (87, .iconst 1, 1), (88, .goto 4, 3), (91, .iconst 0, 1), (92, .ireturn, 1), (93, .aload_n 0, 1), (94, .getfield 12, 3), (97, .iload_n 1, 1), (98, .invokevirtual 104, 3), (101, .ifCond .eq 7, 3), (104, .iconst 1, 1), (105, .goto 4, 3), (108, .iconst 0, 1), (109, .ireturn, 1), (110, .aload_n 0, 1), (111, .ldc 62, 2), (113, .invokevirtual 63, 3), (116, .ireturn, 1)] = true := by decide +kernel
theorem dX6_of_0 : decode cX6_of 0 = .ok (.iload_n 1, 1) := chkD_at okX6_of_0 0 rfl
theorem dX6_of_1 : decode cX6_of 1 = .ok (.invokestatic 86, 3) := chkD_at okX6_of_0 1 rfl
theorem dX6_of_4 : decode cX6_of 4 = .ok (.ifCond .ne 10, 3) := chkD_at okX6_of_0 2 rfl
theorem dX6_of_7 : decode cX6_of 7 = .ok (.aload_n 0, 1) := chkD_at okX6_of_0 3 rfl
theorem dX6_of_8 : decode cX6_of 8 = .ok (.ldc 62, 2) := chkD_at okX6_of_0 4 rfl
theorem dX6_of_10 : decode cX6_of 10 = .ok (.invokevirtual 63, 3) := chkD_at okX6_of_0 5 rfl
theorem dX6_of_13 : decode cX6_of 13 = .ok (.ireturn, 1) := chkD_at okX6_of_0 6 rfl
theorem dX6_of_14 : decode cX6_of 14 = .ok (.iload_n 2, 1) := chkD_at okX6_of_0 7 rfl
theorem dX6_of_15 : decode cX6_of 15 = .ok (.tableswitch 95 0 5 #[37, 42, 47, 52, 61, 78], 37) := chkD_at okX6_of_0 8 rfl
theorem dX6_of_52 : decode cX6_of 52 = .ok (.iload_n 1, 1) := chkD_at okX6_of_0 9 rfl
theorem dX6_of_53 : decode cX6_of 53 = .ok (.invokestatic 89, 3) := chkD_at okX6_of_0 10 rfl
theorem dX6_of_56 : decode cX6_of 56 = .ok (.ireturn, 1) := chkD_at okX6_of_0 11 rfl
theorem dX6_of_57 : decode cX6_of 57 = .ok (.iload_n 1, 1) := chkD_at okX6_of_0 12 rfl
theorem dX6_of_58 : decode cX6_of 58 = .ok (.invokestatic 92, 3) := chkD_at okX6_of_0 13 rfl
theorem dX6_of_61 : decode cX6_of 61 = .ok (.ireturn, 1) := chkD_at okX6_of_0 14 rfl
theorem dX6_of_62 : decode cX6_of 62 = .ok (.iload_n 1, 1) := chkD_at okX6_of_0 15 rfl
theorem dX6_of_63 : decode cX6_of 63 = .ok (.invokestatic 95, 3) := chkD_at okX6_of_0 16 rfl
theorem dX6_of_66 : decode cX6_of 66 = .ok (.ireturn, 1) := chkD_at okX6_of_0 17 rfl
theorem dX6_of_67 : decode cX6_of 67 = .ok (.aload_n 0, 1) := chkD_at okX6_of_0 18 rfl
theorem dX6_of_68 : decode cX6_of 68 = .ok (.getfield 12, 3) := chkD_at okX6_of_0 19 rfl
theorem dX6_of_71 : decode cX6_of 71 = .ok (.iload_n 1, 1) := chkD_at okX6_of_0 20 rfl
theorem dX6_of_72 : decode cX6_of 72 = .ok (.invokevirtual 98, 3) := chkD_at okX6_of_0 21 rfl
theorem dX6_of_75 : decode cX6_of 75 = .ok (.ireturn, 1) := chkD_at okX6_of_0 22 rfl
theorem dX6_of_76 : decode cX6_of 76 = .ok (.aload_n 0, 1) := chkD_at okX6_of_0 23 rfl
theorem dX6_of_77 : decode cX6_of 77 = .ok (.getfield 12, 3) := chkD_at okX6_of_0 24 rfl
theorem dX6_of_80 : decode cX6_of 80 = .ok (.iload_n 1, 1) := chkD_at okX6_of_0 25 rfl
theorem dX6_of_81 : decode cX6_of 81 = .ok (.invokevirtual 101, 3) := chkD_at okX6_of_0 26 rfl
theorem dX6_of_84 : decode cX6_of 84 = .ok (.ifCond .eq 7, 3) := chkD_at okX6_of_0 27 rfl
theorem dX6_of_87 : decode cX6_of 87 = .ok (.iconst 1, 1) := chkD_at okX6_of_0 28 rfl
theorem dX6_of_88 : decode cX6_of 88 = .ok (.goto 4, 3) := chkD_at okX6_of_0 29 rfl
theorem dX6_of_91 : decode cX6_of 91 = .ok (.iconst 0, 1) := chkD_at okX6_of_0 30 rfl
theorem dX6_of_92 : decode cX6_of 92 = .ok (.ireturn, 1) := chkD_at okX6_of_0 31 rfl
theorem dX6_of_93 : decode cX6_of 93 = .ok (.aload_n 0, 1) := chkD_at okX6_of_0 32 rfl
theorem dX6_of_94 : decode cX6_of 94 = .ok (.getfield 12, 3) := chkD_at okX6_of_0 33 rfl
theorem dX6_of_97 : decode cX6_of 97 = .ok (.iload_n 1, 1) := chkD_at okX6_of_0 34 rfl
theorem dX6_of_98 : decode cX6_of 98 = .ok (.invokevirtual 104, 3) := chkD_at okX6_of_0 35 rfl
theorem dX6_of_101 : decode cX6_of 101 = .ok (.ifCond .eq 7, 3) := chkD_at okX6_of_0 36 rfl
theorem dX6_of_104 : decode cX6_of 104 = .ok (.iconst 1, 1) := chkD_at okX6_of_0 37 rfl
theorem dX6_of_105 : decode cX6_of 105 = .ok (.goto 4, 3) := chkD_at okX6_of_0 38 rfl
theorem dX6_of_108 : decode cX6_of 108 = .ok (.iconst 0, 1) := chkD_at okX6_of_0 39 rfl
theorem dX6_of_109 : decode cX6_of 109 = .ok (.ireturn, 1) := chkD_at okX6_of_0 40 rfl
theorem dX6_of_110 : decode cX6_of 110 = .ok (.aload_n 0, 1) := chkD_at okX6_of_0 41 rfl
theorem dX6_of_111 : decode cX6_of 111 = .ok (.ldc 62, 2) := chkD_at okX6_of_0 42 rfl
theorem dX6_of_113 : decode cX6_of 113 = .ok (.invokevirtual 63, 3) := chkD_at okX6_of_0 43 rfl
theorem dX6_of_116 : decode cX6_of 116 = .ok (.ireturn, 1) := chkD_at okX6_of_0 44 rfl
theorem okX6_near_0 : chkD cX6_near [(0, .iload_n 1, 1), (1, .invokestatic 86, 3), (4, .ifCond .eq 10, 3), (7, .iload_n 2, 1), (8, .invokestatic 86, 3), (11, .ifCond .ne 10, 3), (14, .aload_n 0, 1), (15, .ldc 62, 2), (17, .invokevirtual 63, 3), (20, .ireturn, 1), (21, .iload_n 1, 1), (22, .iload_n 2, 1), (23, .invokestatic 107, 3), (26, .ireturn, 1)] = true := by decide +kernel
theorem dX6_near_0 : decode cX6_near 0 = .ok (.iload_n 1, 1) := chkD_at okX6_near_0 0 rfl
theorem dX6_near_1 : decode cX6_near 1 = .ok (.invokestatic 86, 3) := chkD_at okX6_near_0 1 rfl
theorem dX6_near_4 : decode cX6_near 4 = .ok (.ifCond .eq 10, 3) := chkD_at okX6_near_0 2 rfl
theorem dX6_near_7 : decode cX6_near 7 = .ok (.iload_n 2, 1) := chkD_at okX6_near_0 3 rfl
theorem dX6_near_8 : decode cX6_near 8 = .ok (.invokestatic 86, 3) := chkD_at okX6_near_0 4 rfl
theorem dX6_near_11 : decode cX6_near 11 = .ok (.ifCond .ne 10, 3) := chkD_at okX6_near_0 5 rfl
theorem dX6_near_14 : decode cX6_near 14 = .ok (.aload_n 0, 1) := chkD_at okX6_near_0 6 rfl
theorem dX6_near_15 : decode cX6_near 15 = .ok (.ldc 62, 2) := chkD_at okX6_near_0 7 rfl
theorem dX6_near_17 : decode cX6_near 17 = .ok (.invokevirtual 63, 3) := chkD_at okX6_near_0 8 rfl
theorem dX6_near_20 : decode cX6_near 20 = .ok (.ireturn, 1) := chkD_at okX6_near_0 9 rfl
theorem dX6_near_21 : decode cX6_near 21 = .ok (.iload_n 1, 1) := chkD_at okX6_near_0 10 rfl
theorem dX6_near_22 : decode cX6_near 22 = .ok (.iload_n 2, 1) := chkD_at okX6_near_0 11 rfl
theorem dX6_near_23 : decode cX6_near 23 = .ok (.invokestatic 107, 3) := chkD_at okX6_near_0 12 rfl
theorem dX6_near_26 : decode cX6_near 26 = .ok (.ireturn, 1) := chkD_at okX6_near_0 13 rfl
theorem okX6_nearHad_0 : chkD cX6_nearHad [(0, .iload_n 1, 1), (1, .invokestatic 86, 3), (4, .ifCond .eq 13, 3), (7, .iload_n 2, 1), (8, .ifCond .lt 9, 3), (11, .iload_n 2, 1), (12, .bipush 8, 2), (14, .if_icmp .le 10, 3), (17, .aload_n 0, 1), (18, .ldc 62, 2), (20, .invokevirtual 63, 3), (23, .ireturn, 1), (24, .aload_n 0, 1), (25, .getfield 12, 3), (28, .iload_n 1, 1), (29, .iload_n 2, 1), (30, .invokevirtual 111, 3), (33, .ireturn, 1)] = true := by decide +kernel
theorem dX6_nearHad_0 : decode cX6_nearHad 0 = .ok (.iload_n 1, 1) := chkD_at okX6_nearHad_0 0 rfl
theorem dX6_nearHad_1 : decode cX6_nearHad 1 = .ok (.invokestatic 86, 3) := chkD_at okX6_nearHad_0 1 rfl
theorem dX6_nearHad_4 : decode cX6_nearHad 4 = .ok (.ifCond .eq 13, 3) := chkD_at okX6_nearHad_0 2 rfl
theorem dX6_nearHad_7 : decode cX6_nearHad 7 = .ok (.iload_n 2, 1) := chkD_at okX6_nearHad_0 3 rfl
theorem dX6_nearHad_8 : decode cX6_nearHad 8 = .ok (.ifCond .lt 9, 3) := chkD_at okX6_nearHad_0 4 rfl
theorem dX6_nearHad_11 : decode cX6_nearHad 11 = .ok (.iload_n 2, 1) := chkD_at okX6_nearHad_0 5 rfl
theorem dX6_nearHad_12 : decode cX6_nearHad 12 = .ok (.bipush 8, 2) := chkD_at okX6_nearHad_0 6 rfl
theorem dX6_nearHad_14 : decode cX6_nearHad 14 = .ok (.if_icmp .le 10, 3) := chkD_at okX6_nearHad_0 7 rfl
theorem dX6_nearHad_17 : decode cX6_nearHad 17 = .ok (.aload_n 0, 1) := chkD_at okX6_nearHad_0 8 rfl
theorem dX6_nearHad_18 : decode cX6_nearHad 18 = .ok (.ldc 62, 2) := chkD_at okX6_nearHad_0 9 rfl
theorem dX6_nearHad_20 : decode cX6_nearHad 20 = .ok (.invokevirtual 63, 3) := chkD_at okX6_nearHad_0 10 rfl
theorem dX6_nearHad_23 : decode cX6_nearHad 23 = .ok (.ireturn, 1) := chkD_at okX6_nearHad_0 11 rfl
theorem dX6_nearHad_24 : decode cX6_nearHad 24 = .ok (.aload_n 0, 1) := chkD_at okX6_nearHad_0 12 rfl
theorem dX6_nearHad_25 : decode cX6_nearHad 25 = .ok (.getfield 12, 3) := chkD_at okX6_nearHad_0 13 rfl
theorem dX6_nearHad_28 : decode cX6_nearHad 28 = .ok (.iload_n 1, 1) := chkD_at okX6_nearHad_0 14 rfl
theorem dX6_nearHad_29 : decode cX6_nearHad 29 = .ok (.iload_n 2, 1) := chkD_at okX6_nearHad_0 15 rfl
theorem dX6_nearHad_30 : decode cX6_nearHad 30 = .ok (.invokevirtual 111, 3) := chkD_at okX6_nearHad_0 16 rfl
theorem dX6_nearHad_33 : decode cX6_nearHad 33 = .ok (.ireturn, 1) := chkD_at okX6_nearHad_0 17 rfl
theorem okX6_many_0 : chkD cX6_many [(0, .iload_n 1, 1), (1, .iconst 4, 1), (2, .invokestatic 58, 3), (5, .ifCond .ne 10, 3), (8, .aload_n 0, 1), (9, .ldc 62, 2), (11, .invokevirtual 63, 3), (14, .ireturn, 1), (15, .aload_n 0, 1), (16, .getfield 29, 3), (19, .aload_n 0, 1), (20, .getfield 12, 3), (23, .invokevirtual 114, 3), (26, .iload_n 1, 1), (27, .tableswitch 52 0 2 #[25, 33, 44], 25), (52, .aload_n 0, 1), (53, .getfield 29, 3), (56, .invokevirtual 118, 3), (59, .ireturn, 1), (60, .aload_n 0, 1), (61, .getfield 29, 3), (64, .getfield 122, 3), (67, .invokevirtual 126, 3), (70, .ireturn, 1), (71, .aload_n 0, 1), (72, .getfield 29, 3), (75, .invokevirtual 131, 3), (78, .ireturn, 1), (79, .sipush 1840, 3), (82, .aload_n 0, 1), (83, .getfield 29, 3), (86, .invokevirtual 118, 3), (89, .isub, 1), (90, .aload_n 0, 1), (91, .getfield 29, 3), (94, .getfield 122, 3), (97, .invokevirtual 126, 3), (100, .isub, 1), (101, .aload_n 0, 1), (102, .getfield 29, 3), (105, .invokevirtual 131, 3), (108, .iadd, 1), (109, .ireturn, 1)] = true := by decide +kernel
theorem dX6_many_0 : decode cX6_many 0 = .ok (.iload_n 1, 1) := chkD_at okX6_many_0 0 rfl
theorem dX6_many_1 : decode cX6_many 1 = .ok (.iconst 4, 1) := chkD_at okX6_many_0 1 rfl
theorem dX6_many_2 : decode cX6_many 2 = .ok (.invokestatic 58, 3) := chkD_at okX6_many_0 2 rfl
theorem dX6_many_5 : decode cX6_many 5 = .ok (.ifCond .ne 10, 3) := chkD_at okX6_many_0 3 rfl
theorem dX6_many_8 : decode cX6_many 8 = .ok (.aload_n 0, 1) := chkD_at okX6_many_0 4 rfl
theorem dX6_many_9 : decode cX6_many 9 = .ok (.ldc 62, 2) := chkD_at okX6_many_0 5 rfl
theorem dX6_many_11 : decode cX6_many 11 = .ok (.invokevirtual 63, 3) := chkD_at okX6_many_0 6 rfl
theorem dX6_many_14 : decode cX6_many 14 = .ok (.ireturn, 1) := chkD_at okX6_many_0 7 rfl
theorem dX6_many_15 : decode cX6_many 15 = .ok (.aload_n 0, 1) := chkD_at okX6_many_0 8 rfl
theorem dX6_many_16 : decode cX6_many 16 = .ok (.getfield 29, 3) := chkD_at okX6_many_0 9 rfl
theorem dX6_many_19 : decode cX6_many 19 = .ok (.aload_n 0, 1) := chkD_at okX6_many_0 10 rfl
theorem dX6_many_20 : decode cX6_many 20 = .ok (.getfield 12, 3) := chkD_at okX6_many_0 11 rfl
theorem dX6_many_23 : decode cX6_many 23 = .ok (.invokevirtual 114, 3) := chkD_at okX6_many_0 12 rfl
theorem dX6_many_26 : decode cX6_many 26 = .ok (.iload_n 1, 1) := chkD_at okX6_many_0 13 rfl
theorem dX6_many_27 : decode cX6_many 27 = .ok (.tableswitch 52 0 2 #[25, 33, 44], 25) := chkD_at okX6_many_0 14 rfl
theorem dX6_many_52 : decode cX6_many 52 = .ok (.aload_n 0, 1) := chkD_at okX6_many_0 15 rfl
theorem dX6_many_53 : decode cX6_many 53 = .ok (.getfield 29, 3) := chkD_at okX6_many_0 16 rfl
theorem dX6_many_56 : decode cX6_many 56 = .ok (.invokevirtual 118, 3) := chkD_at okX6_many_0 17 rfl
theorem dX6_many_59 : decode cX6_many 59 = .ok (.ireturn, 1) := chkD_at okX6_many_0 18 rfl
theorem dX6_many_60 : decode cX6_many 60 = .ok (.aload_n 0, 1) := chkD_at okX6_many_0 19 rfl
theorem dX6_many_61 : decode cX6_many 61 = .ok (.getfield 29, 3) := chkD_at okX6_many_0 20 rfl
theorem dX6_many_64 : decode cX6_many 64 = .ok (.getfield 122, 3) := chkD_at okX6_many_0 21 rfl
theorem dX6_many_67 : decode cX6_many 67 = .ok (.invokevirtual 126, 3) := chkD_at okX6_many_0 22 rfl
theorem dX6_many_70 : decode cX6_many 70 = .ok (.ireturn, 1) := chkD_at okX6_many_0 23 rfl
theorem dX6_many_71 : decode cX6_many 71 = .ok (.aload_n 0, 1) := chkD_at okX6_many_0 24 rfl
theorem dX6_many_72 : decode cX6_many 72 = .ok (.getfield 29, 3) := chkD_at okX6_many_0 25 rfl
theorem dX6_many_75 : decode cX6_many 75 = .ok (.invokevirtual 131, 3) := chkD_at okX6_many_0 26 rfl
theorem dX6_many_78 : decode cX6_many 78 = .ok (.ireturn, 1) := chkD_at okX6_many_0 27 rfl
theorem dX6_many_79 : decode cX6_many 79 = .ok (.sipush 1840, 3) := chkD_at okX6_many_0 28 rfl
theorem dX6_many_82 : decode cX6_many 82 = .ok (.aload_n 0, 1) := chkD_at okX6_many_0 29 rfl
theorem dX6_many_83 : decode cX6_many 83 = .ok (.getfield 29, 3) := chkD_at okX6_many_0 30 rfl
theorem dX6_many_86 : decode cX6_many 86 = .ok (.invokevirtual 118, 3) := chkD_at okX6_many_0 31 rfl
theorem dX6_many_89 : decode cX6_many 89 = .ok (.isub, 1) := chkD_at okX6_many_0 32 rfl
theorem dX6_many_90 : decode cX6_many 90 = .ok (.aload_n 0, 1) := chkD_at okX6_many_0 33 rfl
theorem dX6_many_91 : decode cX6_many 91 = .ok (.getfield 29, 3) := chkD_at okX6_many_0 34 rfl
theorem dX6_many_94 : decode cX6_many 94 = .ok (.getfield 122, 3) := chkD_at okX6_many_0 35 rfl
theorem dX6_many_97 : decode cX6_many 97 = .ok (.invokevirtual 126, 3) := chkD_at okX6_many_0 36 rfl
theorem dX6_many_100 : decode cX6_many 100 = .ok (.isub, 1) := chkD_at okX6_many_0 37 rfl
theorem dX6_many_101 : decode cX6_many 101 = .ok (.aload_n 0, 1) := chkD_at okX6_many_0 38 rfl
theorem dX6_many_102 : decode cX6_many 102 = .ok (.getfield 29, 3) := chkD_at okX6_many_0 39 rfl
theorem dX6_many_105 : decode cX6_many 105 = .ok (.invokevirtual 131, 3) := chkD_at okX6_many_0 40 rfl
theorem dX6_many_108 : decode cX6_many 108 = .ok (.iadd, 1) := chkD_at okX6_many_0 41 rfl
theorem dX6_many_109 : decode cX6_many 109 = .ok (.ireturn, 1) := chkD_at okX6_many_0 42 rfl
theorem okX6_next_0 : chkD cX6_next [(0, .iload_n 1, 1), (1, .ifCond .ge 10, 3), (4, .aload_n 0, 1), (5, .ldc 62, 2), (7, .invokevirtual 63, 3), (10, .ireturn, 1), (11, .aload_n 0, 1), (12, .getfield 29, 3), (15, .aload_n 0, 1), (16, .getfield 12, 3), (19, .invokevirtual 114, 3), (22, .aload_n 0, 1), (23, .aload_n 0, 1), (24, .getfield 29, 3), (27, .iload_n 1, 1), (28, .invokevirtual 134, 3), (31, .invokevirtual 137, 3), (34, .ireturn, 1)] = true := by decide +kernel
theorem dX6_next_0 : decode cX6_next 0 = .ok (.iload_n 1, 1) := chkD_at okX6_next_0 0 rfl
theorem dX6_next_1 : decode cX6_next 1 = .ok (.ifCond .ge 10, 3) := chkD_at okX6_next_0 1 rfl
theorem dX6_next_4 : decode cX6_next 4 = .ok (.aload_n 0, 1) := chkD_at okX6_next_0 2 rfl
theorem dX6_next_5 : decode cX6_next 5 = .ok (.ldc 62, 2) := chkD_at okX6_next_0 3 rfl
theorem dX6_next_7 : decode cX6_next 7 = .ok (.invokevirtual 63, 3) := chkD_at okX6_next_0 4 rfl
theorem dX6_next_10 : decode cX6_next 10 = .ok (.ireturn, 1) := chkD_at okX6_next_0 5 rfl
theorem dX6_next_11 : decode cX6_next 11 = .ok (.aload_n 0, 1) := chkD_at okX6_next_0 6 rfl
theorem dX6_next_12 : decode cX6_next 12 = .ok (.getfield 29, 3) := chkD_at okX6_next_0 7 rfl
theorem dX6_next_15 : decode cX6_next 15 = .ok (.aload_n 0, 1) := chkD_at okX6_next_0 8 rfl
theorem dX6_next_16 : decode cX6_next 16 = .ok (.getfield 12, 3) := chkD_at okX6_next_0 9 rfl
theorem dX6_next_19 : decode cX6_next 19 = .ok (.invokevirtual 114, 3) := chkD_at okX6_next_0 10 rfl
theorem dX6_next_22 : decode cX6_next 22 = .ok (.aload_n 0, 1) := chkD_at okX6_next_0 11 rfl
theorem dX6_next_23 : decode cX6_next 23 = .ok (.aload_n 0, 1) := chkD_at okX6_next_0 12 rfl
theorem dX6_next_24 : decode cX6_next 24 = .ok (.getfield 29, 3) := chkD_at okX6_next_0 13 rfl
theorem dX6_next_27 : decode cX6_next 27 = .ok (.iload_n 1, 1) := chkD_at okX6_next_0 14 rfl
theorem dX6_next_28 : decode cX6_next 28 = .ok (.invokevirtual 134, 3) := chkD_at okX6_next_0 15 rfl
theorem dX6_next_31 : decode cX6_next 31 = .ok (.invokevirtual 137, 3) := chkD_at okX6_next_0 16 rfl
theorem dX6_next_34 : decode cX6_next 34 = .ok (.ireturn, 1) := chkD_at okX6_next_0 17 rfl
theorem okX6_enter_0 : chkD cX6_enter [(0, .iload_n 1, 1), (1, .bipush 6, 2), (3, .invokestatic 58, 3), (6, .ifCond .eq 10, 3), (9, .iload_n 2, 1), (10, .invokestatic 86, 3), (13, .ifCond .ne 10, 3), (16, .aload_n 0, 1), (17, .ldc 62, 2), (19, .invokevirtual 63, 3), (22, .ireturn, 1), (23, .aload_n 0, 1), (24, .getfield 12, 3), (27, .invokevirtual 140, 3), (30, .ifCond .eq 10, 3), (33, .aload_n 0, 1), (34, .ldc 144, 2), (36, .invokevirtual 63, 3), (39, .ireturn, 1), (40, .aload_n 0, 1), (41, .getfield 12, 3), (44, .iload_n 1, 1), (45, .iload_n 2, 1), (46, .invokevirtual 145, 3), (49, .ireturn, 1)] = true := by decide +kernel
theorem dX6_enter_0 : decode cX6_enter 0 = .ok (.iload_n 1, 1) := chkD_at okX6_enter_0 0 rfl
theorem dX6_enter_1 : decode cX6_enter 1 = .ok (.bipush 6, 2) := chkD_at okX6_enter_0 1 rfl
theorem dX6_enter_3 : decode cX6_enter 3 = .ok (.invokestatic 58, 3) := chkD_at okX6_enter_0 2 rfl
theorem dX6_enter_6 : decode cX6_enter 6 = .ok (.ifCond .eq 10, 3) := chkD_at okX6_enter_0 3 rfl
theorem dX6_enter_9 : decode cX6_enter 9 = .ok (.iload_n 2, 1) := chkD_at okX6_enter_0 4 rfl
theorem dX6_enter_10 : decode cX6_enter 10 = .ok (.invokestatic 86, 3) := chkD_at okX6_enter_0 5 rfl
theorem dX6_enter_13 : decode cX6_enter 13 = .ok (.ifCond .ne 10, 3) := chkD_at okX6_enter_0 6 rfl
theorem dX6_enter_16 : decode cX6_enter 16 = .ok (.aload_n 0, 1) := chkD_at okX6_enter_0 7 rfl
theorem dX6_enter_17 : decode cX6_enter 17 = .ok (.ldc 62, 2) := chkD_at okX6_enter_0 8 rfl
theorem dX6_enter_19 : decode cX6_enter 19 = .ok (.invokevirtual 63, 3) := chkD_at okX6_enter_0 9 rfl
theorem dX6_enter_22 : decode cX6_enter 22 = .ok (.ireturn, 1) := chkD_at okX6_enter_0 10 rfl
theorem dX6_enter_23 : decode cX6_enter 23 = .ok (.aload_n 0, 1) := chkD_at okX6_enter_0 11 rfl
theorem dX6_enter_24 : decode cX6_enter 24 = .ok (.getfield 12, 3) := chkD_at okX6_enter_0 12 rfl
theorem dX6_enter_27 : decode cX6_enter 27 = .ok (.invokevirtual 140, 3) := chkD_at okX6_enter_0 13 rfl
theorem dX6_enter_30 : decode cX6_enter 30 = .ok (.ifCond .eq 10, 3) := chkD_at okX6_enter_0 14 rfl
theorem dX6_enter_33 : decode cX6_enter 33 = .ok (.aload_n 0, 1) := chkD_at okX6_enter_0 15 rfl
theorem dX6_enter_34 : decode cX6_enter 34 = .ok (.ldc 144, 2) := chkD_at okX6_enter_0 16 rfl
theorem dX6_enter_36 : decode cX6_enter 36 = .ok (.invokevirtual 63, 3) := chkD_at okX6_enter_0 17 rfl
theorem dX6_enter_39 : decode cX6_enter 39 = .ok (.ireturn, 1) := chkD_at okX6_enter_0 18 rfl
theorem dX6_enter_40 : decode cX6_enter 40 = .ok (.aload_n 0, 1) := chkD_at okX6_enter_0 19 rfl
theorem dX6_enter_41 : decode cX6_enter 41 = .ok (.getfield 12, 3) := chkD_at okX6_enter_0 20 rfl
theorem dX6_enter_44 : decode cX6_enter 44 = .ok (.iload_n 1, 1) := chkD_at okX6_enter_0 21 rfl
theorem dX6_enter_45 : decode cX6_enter 45 = .ok (.iload_n 2, 1) := chkD_at okX6_enter_0 22 rfl
theorem dX6_enter_46 : decode cX6_enter 46 = .ok (.invokevirtual 145, 3) := chkD_at okX6_enter_0 23 rfl
theorem dX6_enter_49 : decode cX6_enter 49 = .ok (.ireturn, 1) := chkD_at okX6_enter_0 24 rfl
theorem okX6_entryOf_0 : chkD cX6_entryOf [(0, .iload_n 1, 1), (1, .aload_n 0, 1), (2, .getfield 12, 3), (5, .getfield 148, 3), (8, .invokestatic 58, 3), (11, .ifCond .ne 10, 3), (14, .aload_n 0, 1), (15, .ldc 62, 2), (17, .invokevirtual 63, 3), (20, .ireturn, 1), (21, .iload_n 2, 1), (22, .tableswitch 89 0 3 #[30, 40, 50, 60], 30), (52, .aload_n 0, 1), (53, .getfield 12, 3), (56, .getfield 152, 3), (59, .iload_n 1, 1), (60, .iaload, 1), (61, .ireturn, 1), (62, .aload_n 0, 1), (63, .getfield 12, 3), (66, .getfield 155, 3), (69, .iload_n 1, 1), (70, .iaload, 1), (71, .ireturn, 1), (72, .aload_n 0, 1), (73, .getfield 12, 3), (76, .getfield 158, 3), (79, .iload_n 1, 1), (80, .iaload, 1), (81, .ireturn, 1), (82, .aload_n 0, 1), (83, .getfield 12, 3), (86, .getfield 152, 3), (89, .iload_n 1, 1), (90, .iaload, 1), (91, .aload_n 0, 1), (92, .getfield 12, 3), (95, .getfield 155, 3), (98, .iload_n 1, 1), (99, .iaload, 1), (100, .aload_n 0, 1), (101, .getfield 12, 3), (104, .getfield 161, 3), (107, .invokestatic 164, 3), (110, .ireturn, 1), (111, .aload_n 0, 1), (112, .ldc 62, 2), (114, .invokevirtual 63, 3), (117, .ireturn, 1)] = true := by decide +kernel
theorem dX6_entryOf_0 : decode cX6_entryOf 0 = .ok (.iload_n 1, 1) := chkD_at okX6_entryOf_0 0 rfl
theorem dX6_entryOf_1 : decode cX6_entryOf 1 = .ok (.aload_n 0, 1) := chkD_at okX6_entryOf_0 1 rfl
theorem dX6_entryOf_2 : decode cX6_entryOf 2 = .ok (.getfield 12, 3) := chkD_at okX6_entryOf_0 2 rfl
theorem dX6_entryOf_5 : decode cX6_entryOf 5 = .ok (.getfield 148, 3) := chkD_at okX6_entryOf_0 3 rfl
theorem dX6_entryOf_8 : decode cX6_entryOf 8 = .ok (.invokestatic 58, 3) := chkD_at okX6_entryOf_0 4 rfl
theorem dX6_entryOf_11 : decode cX6_entryOf 11 = .ok (.ifCond .ne 10, 3) := chkD_at okX6_entryOf_0 5 rfl
theorem dX6_entryOf_14 : decode cX6_entryOf 14 = .ok (.aload_n 0, 1) := chkD_at okX6_entryOf_0 6 rfl
theorem dX6_entryOf_15 : decode cX6_entryOf 15 = .ok (.ldc 62, 2) := chkD_at okX6_entryOf_0 7 rfl
theorem dX6_entryOf_17 : decode cX6_entryOf 17 = .ok (.invokevirtual 63, 3) := chkD_at okX6_entryOf_0 8 rfl
theorem dX6_entryOf_20 : decode cX6_entryOf 20 = .ok (.ireturn, 1) := chkD_at okX6_entryOf_0 9 rfl
theorem dX6_entryOf_21 : decode cX6_entryOf 21 = .ok (.iload_n 2, 1) := chkD_at okX6_entryOf_0 10 rfl
theorem dX6_entryOf_22 : decode cX6_entryOf 22 = .ok (.tableswitch 89 0 3 #[30, 40, 50, 60], 30) := chkD_at okX6_entryOf_0 11 rfl
theorem dX6_entryOf_52 : decode cX6_entryOf 52 = .ok (.aload_n 0, 1) := chkD_at okX6_entryOf_0 12 rfl
theorem dX6_entryOf_53 : decode cX6_entryOf 53 = .ok (.getfield 12, 3) := chkD_at okX6_entryOf_0 13 rfl
theorem dX6_entryOf_56 : decode cX6_entryOf 56 = .ok (.getfield 152, 3) := chkD_at okX6_entryOf_0 14 rfl
theorem dX6_entryOf_59 : decode cX6_entryOf 59 = .ok (.iload_n 1, 1) := chkD_at okX6_entryOf_0 15 rfl
theorem dX6_entryOf_60 : decode cX6_entryOf 60 = .ok (.iaload, 1) := chkD_at okX6_entryOf_0 16 rfl
theorem dX6_entryOf_61 : decode cX6_entryOf 61 = .ok (.ireturn, 1) := chkD_at okX6_entryOf_0 17 rfl
theorem dX6_entryOf_62 : decode cX6_entryOf 62 = .ok (.aload_n 0, 1) := chkD_at okX6_entryOf_0 18 rfl
theorem dX6_entryOf_63 : decode cX6_entryOf 63 = .ok (.getfield 12, 3) := chkD_at okX6_entryOf_0 19 rfl
theorem dX6_entryOf_66 : decode cX6_entryOf 66 = .ok (.getfield 155, 3) := chkD_at okX6_entryOf_0 20 rfl
theorem dX6_entryOf_69 : decode cX6_entryOf 69 = .ok (.iload_n 1, 1) := chkD_at okX6_entryOf_0 21 rfl
theorem dX6_entryOf_70 : decode cX6_entryOf 70 = .ok (.iaload, 1) := chkD_at okX6_entryOf_0 22 rfl
theorem dX6_entryOf_71 : decode cX6_entryOf 71 = .ok (.ireturn, 1) := chkD_at okX6_entryOf_0 23 rfl
theorem dX6_entryOf_72 : decode cX6_entryOf 72 = .ok (.aload_n 0, 1) := chkD_at okX6_entryOf_0 24 rfl
theorem dX6_entryOf_73 : decode cX6_entryOf 73 = .ok (.getfield 12, 3) := chkD_at okX6_entryOf_0 25 rfl
theorem dX6_entryOf_76 : decode cX6_entryOf 76 = .ok (.getfield 158, 3) := chkD_at okX6_entryOf_0 26 rfl
theorem dX6_entryOf_79 : decode cX6_entryOf 79 = .ok (.iload_n 1, 1) := chkD_at okX6_entryOf_0 27 rfl
theorem dX6_entryOf_80 : decode cX6_entryOf 80 = .ok (.iaload, 1) := chkD_at okX6_entryOf_0 28 rfl
theorem dX6_entryOf_81 : decode cX6_entryOf 81 = .ok (.ireturn, 1) := chkD_at okX6_entryOf_0 29 rfl
theorem dX6_entryOf_82 : decode cX6_entryOf 82 = .ok (.aload_n 0, 1) := chkD_at okX6_entryOf_0 30 rfl
theorem dX6_entryOf_83 : decode cX6_entryOf 83 = .ok (.getfield 12, 3) := chkD_at okX6_entryOf_0 31 rfl
theorem dX6_entryOf_86 : decode cX6_entryOf 86 = .ok (.getfield 152, 3) := chkD_at okX6_entryOf_0 32 rfl
theorem dX6_entryOf_89 : decode cX6_entryOf 89 = .ok (.iload_n 1, 1) := chkD_at okX6_entryOf_0 33 rfl
theorem dX6_entryOf_90 : decode cX6_entryOf 90 = .ok (.iaload, 1) := chkD_at okX6_entryOf_0 34 rfl
theorem dX6_entryOf_91 : decode cX6_entryOf 91 = .ok (.aload_n 0, 1) := chkD_at okX6_entryOf_0 35 rfl
theorem dX6_entryOf_92 : decode cX6_entryOf 92 = .ok (.getfield 12, 3) := chkD_at okX6_entryOf_0 36 rfl
theorem dX6_entryOf_95 : decode cX6_entryOf 95 = .ok (.getfield 155, 3) := chkD_at okX6_entryOf_0 37 rfl
theorem dX6_entryOf_98 : decode cX6_entryOf 98 = .ok (.iload_n 1, 1) := chkD_at okX6_entryOf_0 38 rfl
theorem dX6_entryOf_99 : decode cX6_entryOf 99 = .ok (.iaload, 1) := chkD_at okX6_entryOf_0 39 rfl
theorem dX6_entryOf_100 : decode cX6_entryOf 100 = .ok (.aload_n 0, 1) := chkD_at okX6_entryOf_0 40 rfl
theorem dX6_entryOf_101 : decode cX6_entryOf 101 = .ok (.getfield 12, 3) := chkD_at okX6_entryOf_0 41 rfl
theorem dX6_entryOf_104 : decode cX6_entryOf 104 = .ok (.getfield 161, 3) := chkD_at okX6_entryOf_0 42 rfl
theorem dX6_entryOf_107 : decode cX6_entryOf 107 = .ok (.invokestatic 164, 3) := chkD_at okX6_entryOf_0 43 rfl
theorem dX6_entryOf_110 : decode cX6_entryOf 110 = .ok (.ireturn, 1) := chkD_at okX6_entryOf_0 44 rfl
theorem dX6_entryOf_111 : decode cX6_entryOf 111 = .ok (.aload_n 0, 1) := chkD_at okX6_entryOf_0 45 rfl
theorem dX6_entryOf_112 : decode cX6_entryOf 112 = .ok (.ldc 62, 2) := chkD_at okX6_entryOf_0 46 rfl
theorem dX6_entryOf_114 : decode cX6_entryOf 114 = .ok (.invokevirtual 63, 3) := chkD_at okX6_entryOf_0 47 rfl
theorem dX6_entryOf_117 : decode cX6_entryOf 117 = .ok (.ireturn, 1) := chkD_at okX6_entryOf_0 48 rfl
theorem okX6_turn_0 : chkD cX6_turn [(0, .iload_n 1, 1), (1, .aload_n 0, 1), (2, .getfield 12, 3), (5, .getfield 148, 3), (8, .invokestatic 58, 3), (11, .ifCond .eq 12, 3), (14, .iload_n 2, 1), (15, .bipush 6, 2), (17, .invokestatic 58, 3), (20, .ifCond .ne 10, 3), (23, .aload_n 0, 1), (24, .ldc 62, 2), (26, .invokevirtual 63, 3), (29, .ireturn, 1), (30, .aload_n 0, 1), (31, .getfield 12, 3), (34, .getfield 152, 3), (37, .iload_n 1, 1), (38, .iaload, 1), (39, .istore_n 3, 1), (40, .aload_n 0, 1), (41, .getfield 12, 3), (44, .getfield 152, 3), (47, .iload_n 1, 1), (48, .iload_n 2, 1), (49, .iastore, 1), (50, .iload_n 3, 1), (51, .ireturn, 1)] = true := by decide +kernel
theorem dX6_turn_0 : decode cX6_turn 0 = .ok (.iload_n 1, 1) := chkD_at okX6_turn_0 0 rfl
theorem dX6_turn_1 : decode cX6_turn 1 = .ok (.aload_n 0, 1) := chkD_at okX6_turn_0 1 rfl
theorem dX6_turn_2 : decode cX6_turn 2 = .ok (.getfield 12, 3) := chkD_at okX6_turn_0 2 rfl
theorem dX6_turn_5 : decode cX6_turn 5 = .ok (.getfield 148, 3) := chkD_at okX6_turn_0 3 rfl
theorem dX6_turn_8 : decode cX6_turn 8 = .ok (.invokestatic 58, 3) := chkD_at okX6_turn_0 4 rfl
theorem dX6_turn_11 : decode cX6_turn 11 = .ok (.ifCond .eq 12, 3) := chkD_at okX6_turn_0 5 rfl
theorem dX6_turn_14 : decode cX6_turn 14 = .ok (.iload_n 2, 1) := chkD_at okX6_turn_0 6 rfl
theorem dX6_turn_15 : decode cX6_turn 15 = .ok (.bipush 6, 2) := chkD_at okX6_turn_0 7 rfl
theorem dX6_turn_17 : decode cX6_turn 17 = .ok (.invokestatic 58, 3) := chkD_at okX6_turn_0 8 rfl
theorem dX6_turn_20 : decode cX6_turn 20 = .ok (.ifCond .ne 10, 3) := chkD_at okX6_turn_0 9 rfl
theorem dX6_turn_23 : decode cX6_turn 23 = .ok (.aload_n 0, 1) := chkD_at okX6_turn_0 10 rfl
theorem dX6_turn_24 : decode cX6_turn 24 = .ok (.ldc 62, 2) := chkD_at okX6_turn_0 11 rfl
theorem dX6_turn_26 : decode cX6_turn 26 = .ok (.invokevirtual 63, 3) := chkD_at okX6_turn_0 12 rfl
theorem dX6_turn_29 : decode cX6_turn 29 = .ok (.ireturn, 1) := chkD_at okX6_turn_0 13 rfl
theorem dX6_turn_30 : decode cX6_turn 30 = .ok (.aload_n 0, 1) := chkD_at okX6_turn_0 14 rfl
theorem dX6_turn_31 : decode cX6_turn 31 = .ok (.getfield 12, 3) := chkD_at okX6_turn_0 15 rfl
theorem dX6_turn_34 : decode cX6_turn 34 = .ok (.getfield 152, 3) := chkD_at okX6_turn_0 16 rfl
theorem dX6_turn_37 : decode cX6_turn 37 = .ok (.iload_n 1, 1) := chkD_at okX6_turn_0 17 rfl
theorem dX6_turn_38 : decode cX6_turn 38 = .ok (.iaload, 1) := chkD_at okX6_turn_0 18 rfl
theorem dX6_turn_39 : decode cX6_turn 39 = .ok (.istore_n 3, 1) := chkD_at okX6_turn_0 19 rfl
theorem dX6_turn_40 : decode cX6_turn 40 = .ok (.aload_n 0, 1) := chkD_at okX6_turn_0 20 rfl
theorem dX6_turn_41 : decode cX6_turn 41 = .ok (.getfield 12, 3) := chkD_at okX6_turn_0 21 rfl
theorem dX6_turn_44 : decode cX6_turn 44 = .ok (.getfield 152, 3) := chkD_at okX6_turn_0 22 rfl
theorem dX6_turn_47 : decode cX6_turn 47 = .ok (.iload_n 1, 1) := chkD_at okX6_turn_0 23 rfl
theorem dX6_turn_48 : decode cX6_turn 48 = .ok (.iload_n 2, 1) := chkD_at okX6_turn_0 24 rfl
theorem dX6_turn_49 : decode cX6_turn 49 = .ok (.iastore, 1) := chkD_at okX6_turn_0 25 rfl
theorem dX6_turn_50 : decode cX6_turn 50 = .ok (.iload_n 3, 1) := chkD_at okX6_turn_0 26 rfl
theorem dX6_turn_51 : decode cX6_turn 51 = .ok (.ireturn, 1) := chkD_at okX6_turn_0 27 rfl
theorem okX6_as_0 : chkD cX6_as [(0, .iload_n 1, 1), (1, .aload_n 0, 1), (2, .getfield 12, 3), (5, .getfield 148, 3), (8, .invokestatic 58, 3), (11, .ifCond .eq 12, 3), (14, .iload_n 2, 1), (15, .bipush 6, 2), (17, .invokestatic 58, 3), (20, .ifCond .ne 10, 3), (23, .aload_n 0, 1), (24, .ldc 62, 2), (26, .invokevirtual 63, 3), (29, .ireturn, 1), (30, .aload_n 0, 1), (31, .getfield 12, 3), (34, .getfield 152, 3), (37, .iload_n 1, 1), (38, .iaload, 1), (39, .iload_n 2, 1), (40, .invokestatic 167, 3), (43, .ifCond .ne 10, 3), (46, .aload_n 0, 1), (47, .ldc 170, 2), (49, .invokevirtual 63, 3), (52, .ireturn, 1), (53, .aload_n 0, 1), (54, .getfield 12, 3), (57, .getfield 155, 3), (60, .iload_n 1, 1), (61, .iaload, 1), (62, .ireturn, 1)] = true := by decide +kernel
theorem dX6_as_0 : decode cX6_as 0 = .ok (.iload_n 1, 1) := chkD_at okX6_as_0 0 rfl
theorem dX6_as_1 : decode cX6_as 1 = .ok (.aload_n 0, 1) := chkD_at okX6_as_0 1 rfl
theorem dX6_as_2 : decode cX6_as 2 = .ok (.getfield 12, 3) := chkD_at okX6_as_0 2 rfl
theorem dX6_as_5 : decode cX6_as 5 = .ok (.getfield 148, 3) := chkD_at okX6_as_0 3 rfl
theorem dX6_as_8 : decode cX6_as 8 = .ok (.invokestatic 58, 3) := chkD_at okX6_as_0 4 rfl
theorem dX6_as_11 : decode cX6_as 11 = .ok (.ifCond .eq 12, 3) := chkD_at okX6_as_0 5 rfl
theorem dX6_as_14 : decode cX6_as 14 = .ok (.iload_n 2, 1) := chkD_at okX6_as_0 6 rfl
theorem dX6_as_15 : decode cX6_as 15 = .ok (.bipush 6, 2) := chkD_at okX6_as_0 7 rfl
theorem dX6_as_17 : decode cX6_as 17 = .ok (.invokestatic 58, 3) := chkD_at okX6_as_0 8 rfl
theorem dX6_as_20 : decode cX6_as 20 = .ok (.ifCond .ne 10, 3) := chkD_at okX6_as_0 9 rfl
theorem dX6_as_23 : decode cX6_as 23 = .ok (.aload_n 0, 1) := chkD_at okX6_as_0 10 rfl
theorem dX6_as_24 : decode cX6_as 24 = .ok (.ldc 62, 2) := chkD_at okX6_as_0 11 rfl
theorem dX6_as_26 : decode cX6_as 26 = .ok (.invokevirtual 63, 3) := chkD_at okX6_as_0 12 rfl
theorem dX6_as_29 : decode cX6_as 29 = .ok (.ireturn, 1) := chkD_at okX6_as_0 13 rfl
theorem dX6_as_30 : decode cX6_as 30 = .ok (.aload_n 0, 1) := chkD_at okX6_as_0 14 rfl
theorem dX6_as_31 : decode cX6_as 31 = .ok (.getfield 12, 3) := chkD_at okX6_as_0 15 rfl
theorem dX6_as_34 : decode cX6_as 34 = .ok (.getfield 152, 3) := chkD_at okX6_as_0 16 rfl
theorem dX6_as_37 : decode cX6_as 37 = .ok (.iload_n 1, 1) := chkD_at okX6_as_0 17 rfl
theorem dX6_as_38 : decode cX6_as 38 = .ok (.iaload, 1) := chkD_at okX6_as_0 18 rfl
theorem dX6_as_39 : decode cX6_as 39 = .ok (.iload_n 2, 1) := chkD_at okX6_as_0 19 rfl
theorem dX6_as_40 : decode cX6_as 40 = .ok (.invokestatic 167, 3) := chkD_at okX6_as_0 20 rfl
theorem dX6_as_43 : decode cX6_as 43 = .ok (.ifCond .ne 10, 3) := chkD_at okX6_as_0 21 rfl
theorem dX6_as_46 : decode cX6_as 46 = .ok (.aload_n 0, 1) := chkD_at okX6_as_0 22 rfl
theorem dX6_as_47 : decode cX6_as 47 = .ok (.ldc 170, 2) := chkD_at okX6_as_0 23 rfl
theorem dX6_as_49 : decode cX6_as 49 = .ok (.invokevirtual 63, 3) := chkD_at okX6_as_0 24 rfl
theorem dX6_as_52 : decode cX6_as 52 = .ok (.ireturn, 1) := chkD_at okX6_as_0 25 rfl
theorem dX6_as_53 : decode cX6_as 53 = .ok (.aload_n 0, 1) := chkD_at okX6_as_0 26 rfl
theorem dX6_as_54 : decode cX6_as 54 = .ok (.getfield 12, 3) := chkD_at okX6_as_0 27 rfl
theorem dX6_as_57 : decode cX6_as 57 = .ok (.getfield 155, 3) := chkD_at okX6_as_0 28 rfl
theorem dX6_as_60 : decode cX6_as 60 = .ok (.iload_n 1, 1) := chkD_at okX6_as_0 29 rfl
theorem dX6_as_61 : decode cX6_as 61 = .ok (.iaload, 1) := chkD_at okX6_as_0 30 rfl
theorem dX6_as_62 : decode cX6_as 62 = .ok (.ireturn, 1) := chkD_at okX6_as_0 31 rfl
theorem okX6_strike_0 : chkD cX6_strike [(0, .aload_n 0, 1), (1, .getfield 12, 3), (4, .getfield 148, 3), (7, .ifCond .gt 10, 3), (10, .aload_n 0, 1), (11, .ldc 171, 2), (13, .invokevirtual 63, 3), (16, .ireturn, 1), (17, .aload_n 0, 1), (18, .getfield 12, 3), (21, .dup, 1), (22, .getfield 148, 3), (25, .iconst 1, 1), (26, .isub, 1), (27, .putfield 148, 3), (30, .aload_n 0, 1), (31, .getfield 12, 3), (34, .getfield 155, 3), (37, .aload_n 0, 1), (38, .getfield 12, 3), (41, .getfield 148, 3), (44, .iaload, 1), (45, .ireturn, 1)] = true := by decide +kernel
theorem dX6_strike_0 : decode cX6_strike 0 = .ok (.aload_n 0, 1) := chkD_at okX6_strike_0 0 rfl
theorem dX6_strike_1 : decode cX6_strike 1 = .ok (.getfield 12, 3) := chkD_at okX6_strike_0 1 rfl
theorem dX6_strike_4 : decode cX6_strike 4 = .ok (.getfield 148, 3) := chkD_at okX6_strike_0 2 rfl
theorem dX6_strike_7 : decode cX6_strike 7 = .ok (.ifCond .gt 10, 3) := chkD_at okX6_strike_0 3 rfl
theorem dX6_strike_10 : decode cX6_strike 10 = .ok (.aload_n 0, 1) := chkD_at okX6_strike_0 4 rfl
theorem dX6_strike_11 : decode cX6_strike 11 = .ok (.ldc 171, 2) := chkD_at okX6_strike_0 5 rfl
theorem dX6_strike_13 : decode cX6_strike 13 = .ok (.invokevirtual 63, 3) := chkD_at okX6_strike_0 6 rfl
theorem dX6_strike_16 : decode cX6_strike 16 = .ok (.ireturn, 1) := chkD_at okX6_strike_0 7 rfl
theorem dX6_strike_17 : decode cX6_strike 17 = .ok (.aload_n 0, 1) := chkD_at okX6_strike_0 8 rfl
theorem dX6_strike_18 : decode cX6_strike 18 = .ok (.getfield 12, 3) := chkD_at okX6_strike_0 9 rfl
theorem dX6_strike_21 : decode cX6_strike 21 = .ok (.dup, 1) := chkD_at okX6_strike_0 10 rfl
theorem dX6_strike_22 : decode cX6_strike 22 = .ok (.getfield 148, 3) := chkD_at okX6_strike_0 11 rfl
theorem dX6_strike_25 : decode cX6_strike 25 = .ok (.iconst 1, 1) := chkD_at okX6_strike_0 12 rfl
theorem dX6_strike_26 : decode cX6_strike 26 = .ok (.isub, 1) := chkD_at okX6_strike_0 13 rfl
theorem dX6_strike_27 : decode cX6_strike 27 = .ok (.putfield 148, 3) := chkD_at okX6_strike_0 14 rfl
theorem dX6_strike_30 : decode cX6_strike 30 = .ok (.aload_n 0, 1) := chkD_at okX6_strike_0 15 rfl
theorem dX6_strike_31 : decode cX6_strike 31 = .ok (.getfield 12, 3) := chkD_at okX6_strike_0 16 rfl
theorem dX6_strike_34 : decode cX6_strike 34 = .ok (.getfield 155, 3) := chkD_at okX6_strike_0 17 rfl
theorem dX6_strike_37 : decode cX6_strike 37 = .ok (.aload_n 0, 1) := chkD_at okX6_strike_0 18 rfl
theorem dX6_strike_38 : decode cX6_strike 38 = .ok (.getfield 12, 3) := chkD_at okX6_strike_0 19 rfl
theorem dX6_strike_41 : decode cX6_strike 41 = .ok (.getfield 148, 3) := chkD_at okX6_strike_0 20 rfl
theorem dX6_strike_44 : decode cX6_strike 44 = .ok (.iaload, 1) := chkD_at okX6_strike_0 21 rfl
theorem dX6_strike_45 : decode cX6_strike 45 = .ok (.ireturn, 1) := chkD_at okX6_strike_0 22 rfl
theorem okX6_bars_0 : chkD cX6_bars [(0, .iload_n 1, 1), (1, .aload_n 0, 1), (2, .getfield 12, 3), (5, .getfield 148, 3), (8, .invokestatic 58, 3), (11, .ifCond .eq 10, 3), (14, .iload_n 2, 1), (15, .invokestatic 86, 3), (18, .ifCond .ne 10, 3), (21, .aload_n 0, 1), (22, .ldc 62, 2), (24, .invokevirtual 63, 3), (27, .ireturn, 1), (28, .aload_n 0, 1), (29, .getfield 12, 3), (32, .iload_n 1, 1), (33, .iload_n 2, 1), (34, .invokevirtual 172, 3), (37, .ifCond .eq 7, 3), (40, .iconst 1, 1), (41, .goto 4, 3), (44, .iconst 0, 1), (45, .ireturn, 1)] = true := by decide +kernel
theorem dX6_bars_0 : decode cX6_bars 0 = .ok (.iload_n 1, 1) := chkD_at okX6_bars_0 0 rfl
theorem dX6_bars_1 : decode cX6_bars 1 = .ok (.aload_n 0, 1) := chkD_at okX6_bars_0 1 rfl
theorem dX6_bars_2 : decode cX6_bars 2 = .ok (.getfield 12, 3) := chkD_at okX6_bars_0 2 rfl
theorem dX6_bars_5 : decode cX6_bars 5 = .ok (.getfield 148, 3) := chkD_at okX6_bars_0 3 rfl
theorem dX6_bars_8 : decode cX6_bars 8 = .ok (.invokestatic 58, 3) := chkD_at okX6_bars_0 4 rfl
theorem dX6_bars_11 : decode cX6_bars 11 = .ok (.ifCond .eq 10, 3) := chkD_at okX6_bars_0 5 rfl
theorem dX6_bars_14 : decode cX6_bars 14 = .ok (.iload_n 2, 1) := chkD_at okX6_bars_0 6 rfl
theorem dX6_bars_15 : decode cX6_bars 15 = .ok (.invokestatic 86, 3) := chkD_at okX6_bars_0 7 rfl
theorem dX6_bars_18 : decode cX6_bars 18 = .ok (.ifCond .ne 10, 3) := chkD_at okX6_bars_0 8 rfl
theorem dX6_bars_21 : decode cX6_bars 21 = .ok (.aload_n 0, 1) := chkD_at okX6_bars_0 9 rfl
theorem dX6_bars_22 : decode cX6_bars 22 = .ok (.ldc 62, 2) := chkD_at okX6_bars_0 10 rfl
theorem dX6_bars_24 : decode cX6_bars 24 = .ok (.invokevirtual 63, 3) := chkD_at okX6_bars_0 11 rfl
theorem dX6_bars_27 : decode cX6_bars 27 = .ok (.ireturn, 1) := chkD_at okX6_bars_0 12 rfl
theorem dX6_bars_28 : decode cX6_bars 28 = .ok (.aload_n 0, 1) := chkD_at okX6_bars_0 13 rfl
theorem dX6_bars_29 : decode cX6_bars 29 = .ok (.getfield 12, 3) := chkD_at okX6_bars_0 14 rfl
theorem dX6_bars_32 : decode cX6_bars 32 = .ok (.iload_n 1, 1) := chkD_at okX6_bars_0 15 rfl
theorem dX6_bars_33 : decode cX6_bars 33 = .ok (.iload_n 2, 1) := chkD_at okX6_bars_0 16 rfl
theorem dX6_bars_34 : decode cX6_bars 34 = .ok (.invokevirtual 172, 3) := chkD_at okX6_bars_0 17 rfl
theorem dX6_bars_37 : decode cX6_bars 37 = .ok (.ifCond .eq 7, 3) := chkD_at okX6_bars_0 18 rfl
theorem dX6_bars_40 : decode cX6_bars 40 = .ok (.iconst 1, 1) := chkD_at okX6_bars_0 19 rfl
theorem dX6_bars_41 : decode cX6_bars 41 = .ok (.goto 4, 3) := chkD_at okX6_bars_0 20 rfl
theorem dX6_bars_44 : decode cX6_bars 44 = .ok (.iconst 0, 1) := chkD_at okX6_bars_0 21 rfl
theorem dX6_bars_45 : decode cX6_bars 45 = .ok (.ireturn, 1) := chkD_at okX6_bars_0 22 rfl
theorem okX6_by_0 : chkD cX6_by [(0, .iload_n 1, 1), (1, .invokestatic 86, 3), (4, .ifCond .ne 10, 3), (7, .aload_n 0, 1), (8, .ldc 62, 2), (10, .invokevirtual 63, 3), (13, .ireturn, 1), (14, .aload_n 0, 1), (15, .aload_n 0, 1), (16, .getfield 12, 3), (19, .iload_n 1, 1), (20, .aload_n 0, 1), (21, .getfield 12, 3), (24, .getfield 148, 3), (27, .invokevirtual 175, 3), (30, .invokevirtual 137, 3), (33, .ireturn, 1)] = true := by decide +kernel
theorem dX6_by_0 : decode cX6_by 0 = .ok (.iload_n 1, 1) := chkD_at okX6_by_0 0 rfl
theorem dX6_by_1 : decode cX6_by 1 = .ok (.invokestatic 86, 3) := chkD_at okX6_by_0 1 rfl
theorem dX6_by_4 : decode cX6_by 4 = .ok (.ifCond .ne 10, 3) := chkD_at okX6_by_0 2 rfl
theorem dX6_by_7 : decode cX6_by 7 = .ok (.aload_n 0, 1) := chkD_at okX6_by_0 3 rfl
theorem dX6_by_8 : decode cX6_by 8 = .ok (.ldc 62, 2) := chkD_at okX6_by_0 4 rfl
theorem dX6_by_10 : decode cX6_by 10 = .ok (.invokevirtual 63, 3) := chkD_at okX6_by_0 5 rfl
theorem dX6_by_13 : decode cX6_by 13 = .ok (.ireturn, 1) := chkD_at okX6_by_0 6 rfl
theorem dX6_by_14 : decode cX6_by 14 = .ok (.aload_n 0, 1) := chkD_at okX6_by_0 7 rfl
theorem dX6_by_15 : decode cX6_by 15 = .ok (.aload_n 0, 1) := chkD_at okX6_by_0 8 rfl
theorem dX6_by_16 : decode cX6_by 16 = .ok (.getfield 12, 3) := chkD_at okX6_by_0 9 rfl
theorem dX6_by_19 : decode cX6_by 19 = .ok (.iload_n 1, 1) := chkD_at okX6_by_0 10 rfl
theorem dX6_by_20 : decode cX6_by 20 = .ok (.aload_n 0, 1) := chkD_at okX6_by_0 11 rfl
theorem dX6_by_21 : decode cX6_by 21 = .ok (.getfield 12, 3) := chkD_at okX6_by_0 12 rfl
theorem dX6_by_24 : decode cX6_by 24 = .ok (.getfield 148, 3) := chkD_at okX6_by_0 13 rfl
theorem dX6_by_27 : decode cX6_by 27 = .ok (.invokevirtual 175, 3) := chkD_at okX6_by_0 14 rfl
theorem dX6_by_30 : decode cX6_by 30 = .ok (.invokevirtual 137, 3) := chkD_at okX6_by_0 15 rfl
theorem dX6_by_33 : decode cX6_by 33 = .ok (.ireturn, 1) := chkD_at okX6_by_0 16 rfl
theorem okX6_breach_0 : chkD cX6_breach [(0, .aload_n 0, 1), (1, .aload_n 0, 1), (2, .getfield 12, 3), (5, .invokevirtual 178, 3), (8, .invokevirtual 137, 3), (11, .ireturn, 1)] = true := by decide +kernel
theorem dX6_breach_0 : decode cX6_breach 0 = .ok (.aload_n 0, 1) := chkD_at okX6_breach_0 0 rfl
theorem dX6_breach_1 : decode cX6_breach 1 = .ok (.aload_n 0, 1) := chkD_at okX6_breach_0 1 rfl
theorem dX6_breach_2 : decode cX6_breach 2 = .ok (.getfield 12, 3) := chkD_at okX6_breach_0 2 rfl
theorem dX6_breach_5 : decode cX6_breach 5 = .ok (.invokevirtual 178, 3) := chkD_at okX6_breach_0 3 rfl
theorem dX6_breach_8 : decode cX6_breach 8 = .ok (.invokevirtual 137, 3) := chkD_at okX6_breach_0 4 rfl
theorem dX6_breach_11 : decode cX6_breach 11 = .ok (.ireturn, 1) := chkD_at okX6_breach_0 5 rfl
theorem okX6_keenest_0 : chkD cX6_keenest [(0, .aload_n 0, 1), (1, .getfield 29, 3), (4, .aload_n 0, 1), (5, .getfield 12, 3), (8, .invokevirtual 114, 3), (11, .iconst (-1), 1), (12, .istore_n 1, 1), (13, .iconst (-1), 1), (14, .istore_n 2, 1), (15, .iconst 0, 1), (16, .istore_n 3, 1), (17, .iload_n 3, 1), (18, .aload_n 0, 1), (19, .getfield 12, 3), (22, .getfield 148, 3), (25, .if_icmp .ge 57, 3), (28, .aload_n 0, 1), (29, .getfield 29, 3), (32, .getfield 122, 3), (35, .aload_n 0, 1), (36, .getfield 12, 3), (39, .getfield 152, 3), (42, .iload_n 3, 1), (43, .iaload, 1), (44, .aload_n 0, 1), (45, .getfield 12, 3), (48, .getfield 155, 3), (51, .iload_n 3, 1), (52, .iaload, 1), (53, .aload_n 0, 1), (54, .getfield 12, 3), (57, .getfield 161, 3), (60, .invokevirtual 181, 3), (63, .istore 4, 2), (65, .iload 4, 2), (67, .iload_n 2, 1), (68, .if_icmp .le 8, 3), (71, .iload 4, 2), (73, .istore_n 2, 1), (74, .iload_n 3, 1), (75, .istore_n 1, 1), (76, .iinc 3 1, 3), (79, .goto (-62), 3), (82, .aload_n 0, 1), (83, .iload_n 1, 1), (84, .invokevirtual 137, 3), (87, .ireturn, 1)] = true := by decide +kernel
theorem dX6_keenest_0 : decode cX6_keenest 0 = .ok (.aload_n 0, 1) := chkD_at okX6_keenest_0 0 rfl
theorem dX6_keenest_1 : decode cX6_keenest 1 = .ok (.getfield 29, 3) := chkD_at okX6_keenest_0 1 rfl
theorem dX6_keenest_4 : decode cX6_keenest 4 = .ok (.aload_n 0, 1) := chkD_at okX6_keenest_0 2 rfl
theorem dX6_keenest_5 : decode cX6_keenest 5 = .ok (.getfield 12, 3) := chkD_at okX6_keenest_0 3 rfl
theorem dX6_keenest_8 : decode cX6_keenest 8 = .ok (.invokevirtual 114, 3) := chkD_at okX6_keenest_0 4 rfl
theorem dX6_keenest_11 : decode cX6_keenest 11 = .ok (.iconst (-1), 1) := chkD_at okX6_keenest_0 5 rfl
theorem dX6_keenest_12 : decode cX6_keenest 12 = .ok (.istore_n 1, 1) := chkD_at okX6_keenest_0 6 rfl
theorem dX6_keenest_13 : decode cX6_keenest 13 = .ok (.iconst (-1), 1) := chkD_at okX6_keenest_0 7 rfl
theorem dX6_keenest_14 : decode cX6_keenest 14 = .ok (.istore_n 2, 1) := chkD_at okX6_keenest_0 8 rfl
theorem dX6_keenest_15 : decode cX6_keenest 15 = .ok (.iconst 0, 1) := chkD_at okX6_keenest_0 9 rfl
theorem dX6_keenest_16 : decode cX6_keenest 16 = .ok (.istore_n 3, 1) := chkD_at okX6_keenest_0 10 rfl
theorem dX6_keenest_17 : decode cX6_keenest 17 = .ok (.iload_n 3, 1) := chkD_at okX6_keenest_0 11 rfl
theorem dX6_keenest_18 : decode cX6_keenest 18 = .ok (.aload_n 0, 1) := chkD_at okX6_keenest_0 12 rfl
theorem dX6_keenest_19 : decode cX6_keenest 19 = .ok (.getfield 12, 3) := chkD_at okX6_keenest_0 13 rfl
theorem dX6_keenest_22 : decode cX6_keenest 22 = .ok (.getfield 148, 3) := chkD_at okX6_keenest_0 14 rfl
theorem dX6_keenest_25 : decode cX6_keenest 25 = .ok (.if_icmp .ge 57, 3) := chkD_at okX6_keenest_0 15 rfl
theorem dX6_keenest_28 : decode cX6_keenest 28 = .ok (.aload_n 0, 1) := chkD_at okX6_keenest_0 16 rfl
theorem dX6_keenest_29 : decode cX6_keenest 29 = .ok (.getfield 29, 3) := chkD_at okX6_keenest_0 17 rfl
theorem dX6_keenest_32 : decode cX6_keenest 32 = .ok (.getfield 122, 3) := chkD_at okX6_keenest_0 18 rfl
theorem dX6_keenest_35 : decode cX6_keenest 35 = .ok (.aload_n 0, 1) := chkD_at okX6_keenest_0 19 rfl
theorem dX6_keenest_36 : decode cX6_keenest 36 = .ok (.getfield 12, 3) := chkD_at okX6_keenest_0 20 rfl
theorem dX6_keenest_39 : decode cX6_keenest 39 = .ok (.getfield 152, 3) := chkD_at okX6_keenest_0 21 rfl
theorem dX6_keenest_42 : decode cX6_keenest 42 = .ok (.iload_n 3, 1) := chkD_at okX6_keenest_0 22 rfl
theorem dX6_keenest_43 : decode cX6_keenest 43 = .ok (.iaload, 1) := chkD_at okX6_keenest_0 23 rfl
theorem dX6_keenest_44 : decode cX6_keenest 44 = .ok (.aload_n 0, 1) := chkD_at okX6_keenest_0 24 rfl
theorem dX6_keenest_45 : decode cX6_keenest 45 = .ok (.getfield 12, 3) := chkD_at okX6_keenest_0 25 rfl
theorem dX6_keenest_48 : decode cX6_keenest 48 = .ok (.getfield 155, 3) := chkD_at okX6_keenest_0 26 rfl
theorem dX6_keenest_51 : decode cX6_keenest 51 = .ok (.iload_n 3, 1) := chkD_at okX6_keenest_0 27 rfl
theorem dX6_keenest_52 : decode cX6_keenest 52 = .ok (.iaload, 1) := chkD_at okX6_keenest_0 28 rfl
theorem dX6_keenest_53 : decode cX6_keenest 53 = .ok (.aload_n 0, 1) := chkD_at okX6_keenest_0 29 rfl
theorem dX6_keenest_54 : decode cX6_keenest 54 = .ok (.getfield 12, 3) := chkD_at okX6_keenest_0 30 rfl
theorem dX6_keenest_57 : decode cX6_keenest 57 = .ok (.getfield 161, 3) := chkD_at okX6_keenest_0 31 rfl
theorem dX6_keenest_60 : decode cX6_keenest 60 = .ok (.invokevirtual 181, 3) := chkD_at okX6_keenest_0 32 rfl
theorem dX6_keenest_63 : decode cX6_keenest 63 = .ok (.istore 4, 2) := chkD_at okX6_keenest_0 33 rfl
theorem dX6_keenest_65 : decode cX6_keenest 65 = .ok (.iload 4, 2) := chkD_at okX6_keenest_0 34 rfl
theorem dX6_keenest_67 : decode cX6_keenest 67 = .ok (.iload_n 2, 1) := chkD_at okX6_keenest_0 35 rfl
theorem dX6_keenest_68 : decode cX6_keenest 68 = .ok (.if_icmp .le 8, 3) := chkD_at okX6_keenest_0 36 rfl
theorem dX6_keenest_71 : decode cX6_keenest 71 = .ok (.iload 4, 2) := chkD_at okX6_keenest_0 37 rfl
theorem dX6_keenest_73 : decode cX6_keenest 73 = .ok (.istore_n 2, 1) := chkD_at okX6_keenest_0 38 rfl
theorem dX6_keenest_74 : decode cX6_keenest 74 = .ok (.iload_n 3, 1) := chkD_at okX6_keenest_0 39 rfl
theorem dX6_keenest_75 : decode cX6_keenest 75 = .ok (.istore_n 1, 1) := chkD_at okX6_keenest_0 40 rfl
theorem dX6_keenest_76 : decode cX6_keenest 76 = .ok (.iinc 3 1, 3) := chkD_at okX6_keenest_0 41 rfl
theorem dX6_keenest_79 : decode cX6_keenest 79 = .ok (.goto (-62), 3) := chkD_at okX6_keenest_0 42 rfl
theorem dX6_keenest_82 : decode cX6_keenest 82 = .ok (.aload_n 0, 1) := chkD_at okX6_keenest_0 43 rfl
theorem dX6_keenest_83 : decode cX6_keenest 83 = .ok (.iload_n 1, 1) := chkD_at okX6_keenest_0 44 rfl
theorem dX6_keenest_84 : decode cX6_keenest 84 = .ok (.invokevirtual 137, 3) := chkD_at okX6_keenest_0 45 rfl
theorem dX6_keenest_87 : decode cX6_keenest 87 = .ok (.ireturn, 1) := chkD_at okX6_keenest_0 46 rfl
theorem okX6_wouldBe_0 : chkD cX6_wouldBe [(0, .iload_n 1, 1), (1, .iconst 2, 1), (2, .invokestatic 58, 3), (5, .ifCond .ne 10, 3), (8, .aload_n 0, 1), (9, .ldc 62, 2), (11, .invokevirtual 63, 3), (14, .ireturn, 1), (15, .aload_n 0, 1), (16, .getfield 29, 3), (19, .getfield 122, 3), (22, .aload_n 0, 1), (23, .getfield 12, 3), (26, .aload_n 0, 1), (27, .getfield 12, 3), (30, .getfield 161, 3), (33, .invokevirtual 184, 3), (36, .aload_n 0, 1), (37, .getfield 29, 3), (40, .getfield 122, 3), (43, .invokevirtual 126, 3), (46, .istore_n 2, 1), (47, .aload_n 0, 1), (48, .getfield 29, 3), (51, .getfield 122, 3), (54, .aload_n 0, 1), (55, .getfield 12, 3), (58, .aload_n 0, 1), (59, .getfield 12, 3), (62, .getfield 161, 3), (65, .iconst 1, 1), (66, .iload_n 1, 1), (67, .ishl, 1), (68, .ixor, 1), (69, .invokevirtual 184, 3), (72, .aload_n 0, 1), (73, .getfield 29, 3), (76, .getfield 122, 3), (79, .invokevirtual 126, 3), (82, .iload_n 2, 1), (83, .isub, 1), (84, .ireturn, 1)] = true := by decide +kernel
theorem dX6_wouldBe_0 : decode cX6_wouldBe 0 = .ok (.iload_n 1, 1) := chkD_at okX6_wouldBe_0 0 rfl
theorem dX6_wouldBe_1 : decode cX6_wouldBe 1 = .ok (.iconst 2, 1) := chkD_at okX6_wouldBe_0 1 rfl
theorem dX6_wouldBe_2 : decode cX6_wouldBe 2 = .ok (.invokestatic 58, 3) := chkD_at okX6_wouldBe_0 2 rfl
theorem dX6_wouldBe_5 : decode cX6_wouldBe 5 = .ok (.ifCond .ne 10, 3) := chkD_at okX6_wouldBe_0 3 rfl
theorem dX6_wouldBe_8 : decode cX6_wouldBe 8 = .ok (.aload_n 0, 1) := chkD_at okX6_wouldBe_0 4 rfl
theorem dX6_wouldBe_9 : decode cX6_wouldBe 9 = .ok (.ldc 62, 2) := chkD_at okX6_wouldBe_0 5 rfl
theorem dX6_wouldBe_11 : decode cX6_wouldBe 11 = .ok (.invokevirtual 63, 3) := chkD_at okX6_wouldBe_0 6 rfl
theorem dX6_wouldBe_14 : decode cX6_wouldBe 14 = .ok (.ireturn, 1) := chkD_at okX6_wouldBe_0 7 rfl
theorem dX6_wouldBe_15 : decode cX6_wouldBe 15 = .ok (.aload_n 0, 1) := chkD_at okX6_wouldBe_0 8 rfl
theorem dX6_wouldBe_16 : decode cX6_wouldBe 16 = .ok (.getfield 29, 3) := chkD_at okX6_wouldBe_0 9 rfl
theorem dX6_wouldBe_19 : decode cX6_wouldBe 19 = .ok (.getfield 122, 3) := chkD_at okX6_wouldBe_0 10 rfl
theorem dX6_wouldBe_22 : decode cX6_wouldBe 22 = .ok (.aload_n 0, 1) := chkD_at okX6_wouldBe_0 11 rfl
theorem dX6_wouldBe_23 : decode cX6_wouldBe 23 = .ok (.getfield 12, 3) := chkD_at okX6_wouldBe_0 12 rfl
theorem dX6_wouldBe_26 : decode cX6_wouldBe 26 = .ok (.aload_n 0, 1) := chkD_at okX6_wouldBe_0 13 rfl
theorem dX6_wouldBe_27 : decode cX6_wouldBe 27 = .ok (.getfield 12, 3) := chkD_at okX6_wouldBe_0 14 rfl
theorem dX6_wouldBe_30 : decode cX6_wouldBe 30 = .ok (.getfield 161, 3) := chkD_at okX6_wouldBe_0 15 rfl
theorem dX6_wouldBe_33 : decode cX6_wouldBe 33 = .ok (.invokevirtual 184, 3) := chkD_at okX6_wouldBe_0 16 rfl
theorem dX6_wouldBe_36 : decode cX6_wouldBe 36 = .ok (.aload_n 0, 1) := chkD_at okX6_wouldBe_0 17 rfl
theorem dX6_wouldBe_37 : decode cX6_wouldBe 37 = .ok (.getfield 29, 3) := chkD_at okX6_wouldBe_0 18 rfl
theorem dX6_wouldBe_40 : decode cX6_wouldBe 40 = .ok (.getfield 122, 3) := chkD_at okX6_wouldBe_0 19 rfl
theorem dX6_wouldBe_43 : decode cX6_wouldBe 43 = .ok (.invokevirtual 126, 3) := chkD_at okX6_wouldBe_0 20 rfl
theorem dX6_wouldBe_46 : decode cX6_wouldBe 46 = .ok (.istore_n 2, 1) := chkD_at okX6_wouldBe_0 21 rfl
theorem dX6_wouldBe_47 : decode cX6_wouldBe 47 = .ok (.aload_n 0, 1) := chkD_at okX6_wouldBe_0 22 rfl
theorem dX6_wouldBe_48 : decode cX6_wouldBe 48 = .ok (.getfield 29, 3) := chkD_at okX6_wouldBe_0 23 rfl
theorem dX6_wouldBe_51 : decode cX6_wouldBe 51 = .ok (.getfield 122, 3) := chkD_at okX6_wouldBe_0 24 rfl
theorem dX6_wouldBe_54 : decode cX6_wouldBe 54 = .ok (.aload_n 0, 1) := chkD_at okX6_wouldBe_0 25 rfl
theorem dX6_wouldBe_55 : decode cX6_wouldBe 55 = .ok (.getfield 12, 3) := chkD_at okX6_wouldBe_0 26 rfl
theorem dX6_wouldBe_58 : decode cX6_wouldBe 58 = .ok (.aload_n 0, 1) := chkD_at okX6_wouldBe_0 27 rfl
theorem dX6_wouldBe_59 : decode cX6_wouldBe 59 = .ok (.getfield 12, 3) := chkD_at okX6_wouldBe_0 28 rfl
theorem dX6_wouldBe_62 : decode cX6_wouldBe 62 = .ok (.getfield 161, 3) := chkD_at okX6_wouldBe_0 29 rfl
theorem dX6_wouldBe_65 : decode cX6_wouldBe 65 = .ok (.iconst 1, 1) := chkD_at okX6_wouldBe_0 30 rfl
theorem dX6_wouldBe_66 : decode cX6_wouldBe 66 = .ok (.iload_n 1, 1) := chkD_at okX6_wouldBe_0 31 rfl
theorem dX6_wouldBe_67 : decode cX6_wouldBe 67 = .ok (.ishl, 1) := chkD_at okX6_wouldBe_0 32 rfl
theorem dX6_wouldBe_68 : decode cX6_wouldBe 68 = .ok (.ixor, 1) := chkD_at okX6_wouldBe_0 33 rfl
theorem dX6_wouldBe_69 : decode cX6_wouldBe 69 = .ok (.invokevirtual 184, 3) := chkD_at okX6_wouldBe_0 34 rfl
theorem dX6_wouldBe_72 : decode cX6_wouldBe 72 = .ok (.aload_n 0, 1) := chkD_at okX6_wouldBe_0 35 rfl
theorem dX6_wouldBe_73 : decode cX6_wouldBe 73 = .ok (.getfield 29, 3) := chkD_at okX6_wouldBe_0 36 rfl
theorem dX6_wouldBe_76 : decode cX6_wouldBe 76 = .ok (.getfield 122, 3) := chkD_at okX6_wouldBe_0 37 rfl
theorem dX6_wouldBe_79 : decode cX6_wouldBe 79 = .ok (.invokevirtual 126, 3) := chkD_at okX6_wouldBe_0 38 rfl
theorem dX6_wouldBe_82 : decode cX6_wouldBe 82 = .ok (.iload_n 2, 1) := chkD_at okX6_wouldBe_0 39 rfl
theorem dX6_wouldBe_83 : decode cX6_wouldBe 83 = .ok (.isub, 1) := chkD_at okX6_wouldBe_0 40 rfl
theorem dX6_wouldBe_84 : decode cX6_wouldBe 84 = .ok (.ireturn, 1) := chkD_at okX6_wouldBe_0 41 rfl
theorem okX6_best_0 : chkD cX6_best [(0, .aload_n 0, 1), (1, .getfield 29, 3), (4, .aload_n 0, 1), (5, .getfield 12, 3), (8, .invokevirtual 114, 3), (11, .aload_n 0, 1), (12, .aload_n 0, 1), (13, .getfield 29, 3), (16, .invokevirtual 188, 3), (19, .invokevirtual 137, 3), (22, .ireturn, 1)] = true := by decide +kernel
theorem dX6_best_0 : decode cX6_best 0 = .ok (.aload_n 0, 1) := chkD_at okX6_best_0 0 rfl
theorem dX6_best_1 : decode cX6_best 1 = .ok (.getfield 29, 3) := chkD_at okX6_best_0 1 rfl
theorem dX6_best_4 : decode cX6_best 4 = .ok (.aload_n 0, 1) := chkD_at okX6_best_0 2 rfl
theorem dX6_best_5 : decode cX6_best 5 = .ok (.getfield 12, 3) := chkD_at okX6_best_0 3 rfl
theorem dX6_best_8 : decode cX6_best 8 = .ok (.invokevirtual 114, 3) := chkD_at okX6_best_0 4 rfl
theorem dX6_best_11 : decode cX6_best 11 = .ok (.aload_n 0, 1) := chkD_at okX6_best_0 5 rfl
theorem dX6_best_12 : decode cX6_best 12 = .ok (.aload_n 0, 1) := chkD_at okX6_best_0 6 rfl
theorem dX6_best_13 : decode cX6_best 13 = .ok (.getfield 29, 3) := chkD_at okX6_best_0 7 rfl
theorem dX6_best_16 : decode cX6_best 16 = .ok (.invokevirtual 188, 3) := chkD_at okX6_best_0 8 rfl
theorem dX6_best_19 : decode cX6_best 19 = .ok (.invokevirtual 137, 3) := chkD_at okX6_best_0 9 rfl
theorem dX6_best_22 : decode cX6_best 22 = .ok (.ireturn, 1) := chkD_at okX6_best_0 10 rfl
theorem okX6_serve_0 : chkD cX6_serve [(0, .iload_n 1, 1), (1, .bipush 6, 2), (3, .invokestatic 58, 3), (6, .ifCond .eq 10, 3), (9, .iload_n 2, 1), (10, .invokestatic 86, 3), (13, .ifCond .ne 10, 3), (16, .aload_n 0, 1), (17, .ldc 62, 2), (19, .invokevirtual 63, 3), (22, .ireturn, 1), (23, .aload_n 0, 1), (24, .getfield 12, 3), (27, .iload_n 1, 1), (28, .iload_n 2, 1), (29, .invokevirtual 191, 3), (32, .ifCond .eq 16, 3), (35, .aload_n 0, 1), (36, .getfield 12, 3), (39, .getfield 194, 3), (42, .sipush 9999, 3), (45, .if_icmp .lt 10, 3), (48, .aload_n 0, 1), (49, .ldc 197, 2), (51, .invokevirtual 63, 3), (54, .ireturn, 1), (55, .aload_n 0, 1), (56, .getfield 12, 3), (59, .invokevirtual 140, 3), (62, .ifCond .eq 10, 3), (65, .aload_n 0, 1), (66, .ldc 144, 2), (68, .invokevirtual 63, 3), (71, .ireturn, 1), (72, .aload_n 0, 1), (73, .getfield 12, 3), (76, .iload_n 1, 1), (77, .iload_n 2, 1), (78, .invokevirtual 198, 3), (81, .ireturn, 1)] = true := by decide +kernel
theorem dX6_serve_0 : decode cX6_serve 0 = .ok (.iload_n 1, 1) := chkD_at okX6_serve_0 0 rfl
theorem dX6_serve_1 : decode cX6_serve 1 = .ok (.bipush 6, 2) := chkD_at okX6_serve_0 1 rfl
theorem dX6_serve_3 : decode cX6_serve 3 = .ok (.invokestatic 58, 3) := chkD_at okX6_serve_0 2 rfl
theorem dX6_serve_6 : decode cX6_serve 6 = .ok (.ifCond .eq 10, 3) := chkD_at okX6_serve_0 3 rfl
theorem dX6_serve_9 : decode cX6_serve 9 = .ok (.iload_n 2, 1) := chkD_at okX6_serve_0 4 rfl
theorem dX6_serve_10 : decode cX6_serve 10 = .ok (.invokestatic 86, 3) := chkD_at okX6_serve_0 5 rfl
theorem dX6_serve_13 : decode cX6_serve 13 = .ok (.ifCond .ne 10, 3) := chkD_at okX6_serve_0 6 rfl
theorem dX6_serve_16 : decode cX6_serve 16 = .ok (.aload_n 0, 1) := chkD_at okX6_serve_0 7 rfl
theorem dX6_serve_17 : decode cX6_serve 17 = .ok (.ldc 62, 2) := chkD_at okX6_serve_0 8 rfl
theorem dX6_serve_19 : decode cX6_serve 19 = .ok (.invokevirtual 63, 3) := chkD_at okX6_serve_0 9 rfl
theorem dX6_serve_22 : decode cX6_serve 22 = .ok (.ireturn, 1) := chkD_at okX6_serve_0 10 rfl
theorem dX6_serve_23 : decode cX6_serve 23 = .ok (.aload_n 0, 1) := chkD_at okX6_serve_0 11 rfl
theorem dX6_serve_24 : decode cX6_serve 24 = .ok (.getfield 12, 3) := chkD_at okX6_serve_0 12 rfl
theorem dX6_serve_27 : decode cX6_serve 27 = .ok (.iload_n 1, 1) := chkD_at okX6_serve_0 13 rfl
theorem dX6_serve_28 : decode cX6_serve 28 = .ok (.iload_n 2, 1) := chkD_at okX6_serve_0 14 rfl
theorem dX6_serve_29 : decode cX6_serve 29 = .ok (.invokevirtual 191, 3) := chkD_at okX6_serve_0 15 rfl
theorem dX6_serve_32 : decode cX6_serve 32 = .ok (.ifCond .eq 16, 3) := chkD_at okX6_serve_0 16 rfl
theorem dX6_serve_35 : decode cX6_serve 35 = .ok (.aload_n 0, 1) := chkD_at okX6_serve_0 17 rfl
theorem dX6_serve_36 : decode cX6_serve 36 = .ok (.getfield 12, 3) := chkD_at okX6_serve_0 18 rfl
theorem dX6_serve_39 : decode cX6_serve 39 = .ok (.getfield 194, 3) := chkD_at okX6_serve_0 19 rfl
theorem dX6_serve_42 : decode cX6_serve 42 = .ok (.sipush 9999, 3) := chkD_at okX6_serve_0 20 rfl
theorem dX6_serve_45 : decode cX6_serve 45 = .ok (.if_icmp .lt 10, 3) := chkD_at okX6_serve_0 21 rfl
theorem dX6_serve_48 : decode cX6_serve 48 = .ok (.aload_n 0, 1) := chkD_at okX6_serve_0 22 rfl
theorem dX6_serve_49 : decode cX6_serve 49 = .ok (.ldc 197, 2) := chkD_at okX6_serve_0 23 rfl
theorem dX6_serve_51 : decode cX6_serve 51 = .ok (.invokevirtual 63, 3) := chkD_at okX6_serve_0 24 rfl
theorem dX6_serve_54 : decode cX6_serve 54 = .ok (.ireturn, 1) := chkD_at okX6_serve_0 25 rfl
theorem dX6_serve_55 : decode cX6_serve 55 = .ok (.aload_n 0, 1) := chkD_at okX6_serve_0 26 rfl
theorem dX6_serve_56 : decode cX6_serve 56 = .ok (.getfield 12, 3) := chkD_at okX6_serve_0 27 rfl
theorem dX6_serve_59 : decode cX6_serve 59 = .ok (.invokevirtual 140, 3) := chkD_at okX6_serve_0 28 rfl
theorem dX6_serve_62 : decode cX6_serve 62 = .ok (.ifCond .eq 10, 3) := chkD_at okX6_serve_0 29 rfl
theorem dX6_serve_65 : decode cX6_serve 65 = .ok (.aload_n 0, 1) := chkD_at okX6_serve_0 30 rfl
theorem dX6_serve_66 : decode cX6_serve 66 = .ok (.ldc 144, 2) := chkD_at okX6_serve_0 31 rfl
theorem dX6_serve_68 : decode cX6_serve 68 = .ok (.invokevirtual 63, 3) := chkD_at okX6_serve_0 32 rfl
theorem dX6_serve_71 : decode cX6_serve 71 = .ok (.ireturn, 1) := chkD_at okX6_serve_0 33 rfl
theorem dX6_serve_72 : decode cX6_serve 72 = .ok (.aload_n 0, 1) := chkD_at okX6_serve_0 34 rfl
theorem dX6_serve_73 : decode cX6_serve 73 = .ok (.getfield 12, 3) := chkD_at okX6_serve_0 35 rfl
theorem dX6_serve_76 : decode cX6_serve 76 = .ok (.iload_n 1, 1) := chkD_at okX6_serve_0 36 rfl
theorem dX6_serve_77 : decode cX6_serve 77 = .ok (.iload_n 2, 1) := chkD_at okX6_serve_0 37 rfl
theorem dX6_serve_78 : decode cX6_serve 78 = .ok (.invokevirtual 198, 3) := chkD_at okX6_serve_0 38 rfl
theorem dX6_serve_81 : decode cX6_serve 81 = .ok (.ireturn, 1) := chkD_at okX6_serve_0 39 rfl
theorem okX6_meals_0 : chkD cX6_meals [(0, .iload_n 1, 1), (1, .bipush 6, 2), (3, .invokestatic 58, 3), (6, .ifCond .eq 14, 3), (9, .iload_n 2, 1), (10, .iconst 1, 1), (11, .if_icmp .lt 9, 3), (14, .iload_n 2, 1), (15, .bipush 30, 2), (17, .if_icmp .le 10, 3), (20, .aload_n 0, 1), (21, .ldc 62, 2), (23, .invokevirtual 63, 3), (26, .ireturn, 1), (27, .aload_n 0, 1), (28, .getfield 12, 3), (31, .getfield 194, 3), (34, .iload_n 2, 1), (35, .iadd, 1), (36, .sipush 9999, 3), (39, .if_icmp .le 10, 3), (42, .aload_n 0, 1), (43, .ldc 197, 2), (45, .invokevirtual 63, 3), (48, .ireturn, 1), (49, .aload_n 0, 1), (50, .getfield 29, 3), (53, .aload_n 0, 1), (54, .getfield 12, 3), (57, .invokevirtual 114, 3), (60, .iconst 0, 1), (61, .istore_n 3, 1), (62, .iload_n 3, 1), (63, .iload_n 2, 1), (64, .if_icmp .ge 51, 3), (67, .aload_n 0, 1), (68, .getfield 12, 3), (71, .invokevirtual 140, 3), (74, .ifCond .eq 7, 3), (77, .iconst (-1), 1), (78, .goto 11, 3), (81, .aload_n 0, 1), (82, .getfield 29, 3), (85, .iload_n 1, 1), (86, .invokevirtual 201, 3), (89, .istore 4, 2), (91, .iload 4, 2), (93, .ifCond .ge 5, 3), (96, .iload_n 3, 1), (97, .ireturn, 1), (98, .aload_n 0, 1), (99, .getfield 12, 3), (102, .iload_n 1, 1), (103, .iload 4, 2), (105, .invokevirtual 198, 3), (108, .pop, 1), (109, .iinc 3 1, 3), (112, .goto (-50), 3), (115, .iload_n 2, 1), (116, .ireturn, 1)] = true := by decide +kernel
theorem dX6_meals_0 : decode cX6_meals 0 = .ok (.iload_n 1, 1) := chkD_at okX6_meals_0 0 rfl
theorem dX6_meals_1 : decode cX6_meals 1 = .ok (.bipush 6, 2) := chkD_at okX6_meals_0 1 rfl
theorem dX6_meals_3 : decode cX6_meals 3 = .ok (.invokestatic 58, 3) := chkD_at okX6_meals_0 2 rfl
theorem dX6_meals_6 : decode cX6_meals 6 = .ok (.ifCond .eq 14, 3) := chkD_at okX6_meals_0 3 rfl
theorem dX6_meals_9 : decode cX6_meals 9 = .ok (.iload_n 2, 1) := chkD_at okX6_meals_0 4 rfl
theorem dX6_meals_10 : decode cX6_meals 10 = .ok (.iconst 1, 1) := chkD_at okX6_meals_0 5 rfl
theorem dX6_meals_11 : decode cX6_meals 11 = .ok (.if_icmp .lt 9, 3) := chkD_at okX6_meals_0 6 rfl
theorem dX6_meals_14 : decode cX6_meals 14 = .ok (.iload_n 2, 1) := chkD_at okX6_meals_0 7 rfl
theorem dX6_meals_15 : decode cX6_meals 15 = .ok (.bipush 30, 2) := chkD_at okX6_meals_0 8 rfl
theorem dX6_meals_17 : decode cX6_meals 17 = .ok (.if_icmp .le 10, 3) := chkD_at okX6_meals_0 9 rfl
theorem dX6_meals_20 : decode cX6_meals 20 = .ok (.aload_n 0, 1) := chkD_at okX6_meals_0 10 rfl
theorem dX6_meals_21 : decode cX6_meals 21 = .ok (.ldc 62, 2) := chkD_at okX6_meals_0 11 rfl
theorem dX6_meals_23 : decode cX6_meals 23 = .ok (.invokevirtual 63, 3) := chkD_at okX6_meals_0 12 rfl
theorem dX6_meals_26 : decode cX6_meals 26 = .ok (.ireturn, 1) := chkD_at okX6_meals_0 13 rfl
theorem dX6_meals_27 : decode cX6_meals 27 = .ok (.aload_n 0, 1) := chkD_at okX6_meals_0 14 rfl
theorem dX6_meals_28 : decode cX6_meals 28 = .ok (.getfield 12, 3) := chkD_at okX6_meals_0 15 rfl
theorem dX6_meals_31 : decode cX6_meals 31 = .ok (.getfield 194, 3) := chkD_at okX6_meals_0 16 rfl
theorem dX6_meals_34 : decode cX6_meals 34 = .ok (.iload_n 2, 1) := chkD_at okX6_meals_0 17 rfl
theorem dX6_meals_35 : decode cX6_meals 35 = .ok (.iadd, 1) := chkD_at okX6_meals_0 18 rfl
theorem dX6_meals_36 : decode cX6_meals 36 = .ok (.sipush 9999, 3) := chkD_at okX6_meals_0 19 rfl
theorem dX6_meals_39 : decode cX6_meals 39 = .ok (.if_icmp .le 10, 3) := chkD_at okX6_meals_0 20 rfl
theorem dX6_meals_42 : decode cX6_meals 42 = .ok (.aload_n 0, 1) := chkD_at okX6_meals_0 21 rfl
theorem dX6_meals_43 : decode cX6_meals 43 = .ok (.ldc 197, 2) := chkD_at okX6_meals_0 22 rfl
theorem dX6_meals_45 : decode cX6_meals 45 = .ok (.invokevirtual 63, 3) := chkD_at okX6_meals_0 23 rfl
theorem dX6_meals_48 : decode cX6_meals 48 = .ok (.ireturn, 1) := chkD_at okX6_meals_0 24 rfl
theorem dX6_meals_49 : decode cX6_meals 49 = .ok (.aload_n 0, 1) := chkD_at okX6_meals_0 25 rfl
theorem dX6_meals_50 : decode cX6_meals 50 = .ok (.getfield 29, 3) := chkD_at okX6_meals_0 26 rfl
theorem dX6_meals_53 : decode cX6_meals 53 = .ok (.aload_n 0, 1) := chkD_at okX6_meals_0 27 rfl
theorem dX6_meals_54 : decode cX6_meals 54 = .ok (.getfield 12, 3) := chkD_at okX6_meals_0 28 rfl
theorem dX6_meals_57 : decode cX6_meals 57 = .ok (.invokevirtual 114, 3) := chkD_at okX6_meals_0 29 rfl
theorem dX6_meals_60 : decode cX6_meals 60 = .ok (.iconst 0, 1) := chkD_at okX6_meals_0 30 rfl
theorem dX6_meals_61 : decode cX6_meals 61 = .ok (.istore_n 3, 1) := chkD_at okX6_meals_0 31 rfl
theorem dX6_meals_62 : decode cX6_meals 62 = .ok (.iload_n 3, 1) := chkD_at okX6_meals_0 32 rfl
theorem dX6_meals_63 : decode cX6_meals 63 = .ok (.iload_n 2, 1) := chkD_at okX6_meals_0 33 rfl
theorem dX6_meals_64 : decode cX6_meals 64 = .ok (.if_icmp .ge 51, 3) := chkD_at okX6_meals_0 34 rfl
theorem dX6_meals_67 : decode cX6_meals 67 = .ok (.aload_n 0, 1) := chkD_at okX6_meals_0 35 rfl
theorem dX6_meals_68 : decode cX6_meals 68 = .ok (.getfield 12, 3) := chkD_at okX6_meals_0 36 rfl
theorem dX6_meals_71 : decode cX6_meals 71 = .ok (.invokevirtual 140, 3) := chkD_at okX6_meals_0 37 rfl
theorem dX6_meals_74 : decode cX6_meals 74 = .ok (.ifCond .eq 7, 3) := chkD_at okX6_meals_0 38 rfl
theorem dX6_meals_77 : decode cX6_meals 77 = .ok (.iconst (-1), 1) := chkD_at okX6_meals_0 39 rfl
theorem dX6_meals_78 : decode cX6_meals 78 = .ok (.goto 11, 3) := chkD_at okX6_meals_0 40 rfl
theorem dX6_meals_81 : decode cX6_meals 81 = .ok (.aload_n 0, 1) := chkD_at okX6_meals_0 41 rfl
theorem dX6_meals_82 : decode cX6_meals 82 = .ok (.getfield 29, 3) := chkD_at okX6_meals_0 42 rfl
theorem dX6_meals_85 : decode cX6_meals 85 = .ok (.iload_n 1, 1) := chkD_at okX6_meals_0 43 rfl
theorem dX6_meals_86 : decode cX6_meals 86 = .ok (.invokevirtual 201, 3) := chkD_at okX6_meals_0 44 rfl
theorem dX6_meals_89 : decode cX6_meals 89 = .ok (.istore 4, 2) := chkD_at okX6_meals_0 45 rfl
theorem dX6_meals_91 : decode cX6_meals 91 = .ok (.iload 4, 2) := chkD_at okX6_meals_0 46 rfl
theorem dX6_meals_93 : decode cX6_meals 93 = .ok (.ifCond .ge 5, 3) := chkD_at okX6_meals_0 47 rfl
theorem dX6_meals_96 : decode cX6_meals 96 = .ok (.iload_n 3, 1) := chkD_at okX6_meals_0 48 rfl
theorem dX6_meals_97 : decode cX6_meals 97 = .ok (.ireturn, 1) := chkD_at okX6_meals_0 49 rfl
theorem dX6_meals_98 : decode cX6_meals 98 = .ok (.aload_n 0, 1) := chkD_at okX6_meals_0 50 rfl
theorem dX6_meals_99 : decode cX6_meals 99 = .ok (.getfield 12, 3) := chkD_at okX6_meals_0 51 rfl
theorem dX6_meals_102 : decode cX6_meals 102 = .ok (.iload_n 1, 1) := chkD_at okX6_meals_0 52 rfl
theorem dX6_meals_103 : decode cX6_meals 103 = .ok (.iload 4, 2) := chkD_at okX6_meals_0 53 rfl
theorem dX6_meals_105 : decode cX6_meals 105 = .ok (.invokevirtual 198, 3) := chkD_at okX6_meals_0 54 rfl
theorem dX6_meals_108 : decode cX6_meals 108 = .ok (.pop, 1) := chkD_at okX6_meals_0 55 rfl
theorem dX6_meals_109 : decode cX6_meals 109 = .ok (.iinc 3 1, 3) := chkD_at okX6_meals_0 56 rfl
theorem dX6_meals_112 : decode cX6_meals 112 = .ok (.goto (-50), 3) := chkD_at okX6_meals_0 57 rfl
theorem dX6_meals_115 : decode cX6_meals 115 = .ok (.iload_n 2, 1) := chkD_at okX6_meals_0 58 rfl
theorem dX6_meals_116 : decode cX6_meals 116 = .ok (.ireturn, 1) := chkD_at okX6_meals_0 59 rfl
theorem okX6_on_0 : chkD cX6_on [(0, .iload_n 1, 1), (1, .bipush 6, 2), (3, .invokestatic 58, 3), (6, .ifCond .eq 14, 3), (9, .iload_n 2, 1), (10, .iconst 1, 1), (11, .if_icmp .lt 9, 3), (14, .iload_n 2, 1), (15, .bipush 30, 2), (17, .if_icmp .le 10, 3), (20, .aload_n 0, 1), (21, .ldc 62, 2), (23, .invokevirtual 63, 3), (26, .ireturn, 1), (27, .aload_n 0, 1), (28, .getfield 29, 3), (31, .aload_n 0, 1), (32, .getfield 12, 3), (35, .invokevirtual 114, 3), (38, .iconst (-1), 1), (39, .istore_n 3, 1), (40, .iconst 0, 1), (41, .istore 4, 2), (43, .iload 4, 2), (45, .iload_n 2, 1), (46, .if_icmp .ge 29, 3), (49, .aload_n 0, 1), (50, .getfield 29, 3), (53, .iload_n 1, 1), (54, .invokevirtual 201, 3), (57, .istore_n 3, 1), (58, .iload_n 3, 1), (59, .ifCond .ge 10, 3), (62, .aload_n 0, 1), (63, .ldc 171, 2), (65, .invokevirtual 63, 3), (68, .ireturn, 1), (69, .iinc 4 1, 3), (72, .goto (-29), 3), (75, .iload_n 3, 1), (76, .ireturn, 1)] = true := by decide +kernel
theorem dX6_on_0 : decode cX6_on 0 = .ok (.iload_n 1, 1) := chkD_at okX6_on_0 0 rfl
theorem dX6_on_1 : decode cX6_on 1 = .ok (.bipush 6, 2) := chkD_at okX6_on_0 1 rfl
theorem dX6_on_3 : decode cX6_on 3 = .ok (.invokestatic 58, 3) := chkD_at okX6_on_0 2 rfl
theorem dX6_on_6 : decode cX6_on 6 = .ok (.ifCond .eq 14, 3) := chkD_at okX6_on_0 3 rfl
theorem dX6_on_9 : decode cX6_on 9 = .ok (.iload_n 2, 1) := chkD_at okX6_on_0 4 rfl
theorem dX6_on_10 : decode cX6_on 10 = .ok (.iconst 1, 1) := chkD_at okX6_on_0 5 rfl
theorem dX6_on_11 : decode cX6_on 11 = .ok (.if_icmp .lt 9, 3) := chkD_at okX6_on_0 6 rfl
theorem dX6_on_14 : decode cX6_on 14 = .ok (.iload_n 2, 1) := chkD_at okX6_on_0 7 rfl
theorem dX6_on_15 : decode cX6_on 15 = .ok (.bipush 30, 2) := chkD_at okX6_on_0 8 rfl
theorem dX6_on_17 : decode cX6_on 17 = .ok (.if_icmp .le 10, 3) := chkD_at okX6_on_0 9 rfl
theorem dX6_on_20 : decode cX6_on 20 = .ok (.aload_n 0, 1) := chkD_at okX6_on_0 10 rfl
theorem dX6_on_21 : decode cX6_on 21 = .ok (.ldc 62, 2) := chkD_at okX6_on_0 11 rfl
theorem dX6_on_23 : decode cX6_on 23 = .ok (.invokevirtual 63, 3) := chkD_at okX6_on_0 12 rfl
theorem dX6_on_26 : decode cX6_on 26 = .ok (.ireturn, 1) := chkD_at okX6_on_0 13 rfl
theorem dX6_on_27 : decode cX6_on 27 = .ok (.aload_n 0, 1) := chkD_at okX6_on_0 14 rfl
theorem dX6_on_28 : decode cX6_on 28 = .ok (.getfield 29, 3) := chkD_at okX6_on_0 15 rfl
theorem dX6_on_31 : decode cX6_on 31 = .ok (.aload_n 0, 1) := chkD_at okX6_on_0 16 rfl
theorem dX6_on_32 : decode cX6_on 32 = .ok (.getfield 12, 3) := chkD_at okX6_on_0 17 rfl
theorem dX6_on_35 : decode cX6_on 35 = .ok (.invokevirtual 114, 3) := chkD_at okX6_on_0 18 rfl
theorem dX6_on_38 : decode cX6_on 38 = .ok (.iconst (-1), 1) := chkD_at okX6_on_0 19 rfl
theorem dX6_on_39 : decode cX6_on 39 = .ok (.istore_n 3, 1) := chkD_at okX6_on_0 20 rfl
theorem dX6_on_40 : decode cX6_on 40 = .ok (.iconst 0, 1) := chkD_at okX6_on_0 21 rfl
theorem dX6_on_41 : decode cX6_on 41 = .ok (.istore 4, 2) := chkD_at okX6_on_0 22 rfl
theorem dX6_on_43 : decode cX6_on 43 = .ok (.iload 4, 2) := chkD_at okX6_on_0 23 rfl
theorem dX6_on_45 : decode cX6_on 45 = .ok (.iload_n 2, 1) := chkD_at okX6_on_0 24 rfl
theorem dX6_on_46 : decode cX6_on 46 = .ok (.if_icmp .ge 29, 3) := chkD_at okX6_on_0 25 rfl
theorem dX6_on_49 : decode cX6_on 49 = .ok (.aload_n 0, 1) := chkD_at okX6_on_0 26 rfl
theorem dX6_on_50 : decode cX6_on 50 = .ok (.getfield 29, 3) := chkD_at okX6_on_0 27 rfl
theorem dX6_on_53 : decode cX6_on 53 = .ok (.iload_n 1, 1) := chkD_at okX6_on_0 28 rfl
theorem dX6_on_54 : decode cX6_on 54 = .ok (.invokevirtual 201, 3) := chkD_at okX6_on_0 29 rfl
theorem dX6_on_57 : decode cX6_on 57 = .ok (.istore_n 3, 1) := chkD_at okX6_on_0 30 rfl
theorem dX6_on_58 : decode cX6_on 58 = .ok (.iload_n 3, 1) := chkD_at okX6_on_0 31 rfl
theorem dX6_on_59 : decode cX6_on 59 = .ok (.ifCond .ge 10, 3) := chkD_at okX6_on_0 32 rfl
theorem dX6_on_62 : decode cX6_on 62 = .ok (.aload_n 0, 1) := chkD_at okX6_on_0 33 rfl
theorem dX6_on_63 : decode cX6_on 63 = .ok (.ldc 171, 2) := chkD_at okX6_on_0 34 rfl
theorem dX6_on_65 : decode cX6_on 65 = .ok (.invokevirtual 63, 3) := chkD_at okX6_on_0 35 rfl
theorem dX6_on_68 : decode cX6_on 68 = .ok (.ireturn, 1) := chkD_at okX6_on_0 36 rfl
theorem dX6_on_69 : decode cX6_on 69 = .ok (.iinc 4 1, 3) := chkD_at okX6_on_0 37 rfl
theorem dX6_on_72 : decode cX6_on 72 = .ok (.goto (-29), 3) := chkD_at okX6_on_0 38 rfl
theorem dX6_on_75 : decode cX6_on 75 = .ok (.iload_n 3, 1) := chkD_at okX6_on_0 39 rfl
theorem dX6_on_76 : decode cX6_on 76 = .ok (.ireturn, 1) := chkD_at okX6_on_0 40 rfl
theorem okX6_lasts_0 : chkD cX6_lasts [(0, .iload_n 1, 1), (1, .bipush 6, 2), (3, .invokestatic 58, 3), (6, .ifCond .ne 10, 3), (9, .aload_n 0, 1), (10, .ldc 62, 2), (12, .invokevirtual 63, 3), (15, .ireturn, 1), (16, .aload_n 0, 1), (17, .getfield 29, 3), (20, .aload_n 0, 1), (21, .getfield 12, 3), (24, .invokevirtual 114, 3), (27, .aload_n 0, 1), (28, .getfield 29, 3), (31, .iload_n 1, 1), (32, .invokevirtual 204, 3), (35, .ireturn, 1)] = true := by decide +kernel
theorem dX6_lasts_0 : decode cX6_lasts 0 = .ok (.iload_n 1, 1) := chkD_at okX6_lasts_0 0 rfl
theorem dX6_lasts_1 : decode cX6_lasts 1 = .ok (.bipush 6, 2) := chkD_at okX6_lasts_0 1 rfl
theorem dX6_lasts_3 : decode cX6_lasts 3 = .ok (.invokestatic 58, 3) := chkD_at okX6_lasts_0 2 rfl
theorem dX6_lasts_6 : decode cX6_lasts 6 = .ok (.ifCond .ne 10, 3) := chkD_at okX6_lasts_0 3 rfl
theorem dX6_lasts_9 : decode cX6_lasts 9 = .ok (.aload_n 0, 1) := chkD_at okX6_lasts_0 4 rfl
theorem dX6_lasts_10 : decode cX6_lasts 10 = .ok (.ldc 62, 2) := chkD_at okX6_lasts_0 5 rfl
theorem dX6_lasts_12 : decode cX6_lasts 12 = .ok (.invokevirtual 63, 3) := chkD_at okX6_lasts_0 6 rfl
theorem dX6_lasts_15 : decode cX6_lasts 15 = .ok (.ireturn, 1) := chkD_at okX6_lasts_0 7 rfl
theorem dX6_lasts_16 : decode cX6_lasts 16 = .ok (.aload_n 0, 1) := chkD_at okX6_lasts_0 8 rfl
theorem dX6_lasts_17 : decode cX6_lasts 17 = .ok (.getfield 29, 3) := chkD_at okX6_lasts_0 9 rfl
theorem dX6_lasts_20 : decode cX6_lasts 20 = .ok (.aload_n 0, 1) := chkD_at okX6_lasts_0 10 rfl
theorem dX6_lasts_21 : decode cX6_lasts 21 = .ok (.getfield 12, 3) := chkD_at okX6_lasts_0 11 rfl
theorem dX6_lasts_24 : decode cX6_lasts 24 = .ok (.invokevirtual 114, 3) := chkD_at okX6_lasts_0 12 rfl
theorem dX6_lasts_27 : decode cX6_lasts 27 = .ok (.aload_n 0, 1) := chkD_at okX6_lasts_0 13 rfl
theorem dX6_lasts_28 : decode cX6_lasts 28 = .ok (.getfield 29, 3) := chkD_at okX6_lasts_0 14 rfl
theorem dX6_lasts_31 : decode cX6_lasts 31 = .ok (.iload_n 1, 1) := chkD_at okX6_lasts_0 15 rfl
theorem dX6_lasts_32 : decode cX6_lasts 32 = .ok (.invokevirtual 204, 3) := chkD_at okX6_lasts_0 16 rfl
theorem dX6_lasts_35 : decode cX6_lasts 35 = .ok (.ireturn, 1) := chkD_at okX6_lasts_0 17 rfl
theorem okX6_buy_0 : chkD cX6_buy [(0, .iload_n 1, 1), (1, .bipush 6, 2), (3, .invokestatic 58, 3), (6, .ifCond .ne 10, 3), (9, .aload_n 0, 1), (10, .ldc 62, 2), (12, .invokevirtual 63, 3), (15, .ireturn, 1), (16, .aload_n 0, 1), (17, .getfield 29, 3), (20, .aload_n 0, 1), (21, .getfield 12, 3), (24, .invokevirtual 114, 3), (27, .aload_n 0, 1), (28, .getfield 29, 3), (31, .iload_n 1, 1), (32, .invokevirtual 204, 3), (35, .istore_n 2, 1), (36, .iconst (-1), 1), (37, .istore_n 3, 1), (38, .iconst 0, 1), (39, .istore 4, 2), (41, .iload 4, 2), (43, .bipush 8, 2), (45, .if_icmp .ge 56, 3), (48, .aload_n 0, 1), (49, .getfield 29, 3), (52, .aload_n 0, 1), (53, .getfield 12, 3), (56, .invokevirtual 114, 3), (59, .aload_n 0, 1), (60, .getfield 29, 3), (63, .getfield 207, 3), (66, .iload 4, 2), (68, .dup2, 1), (69, .iaload, 1), (70, .iconst 1, 1), (71, .iadd, 1), (72, .iastore, 1), (73, .aload_n 0, 1), (74, .getfield 29, 3), (77, .iload_n 1, 1), (78, .invokevirtual 204, 3), (81, .istore 5, 2), (83, .iload 5, 2), (85, .iload_n 2, 1), (86, .if_icmp .le 9, 3), (89, .iload 5, 2), (91, .istore_n 2, 1), (92, .iload 4, 2), (94, .istore_n 3, 1), (95, .iinc 4 1, 3), (98, .goto (-57), 3), (101, .aload_n 0, 1), (102, .iload_n 3, 1), (103, .invokevirtual 137, 3), (106, .ireturn, 1)] = true := by decide +kernel
theorem dX6_buy_0 : decode cX6_buy 0 = .ok (.iload_n 1, 1) := chkD_at okX6_buy_0 0 rfl
theorem dX6_buy_1 : decode cX6_buy 1 = .ok (.bipush 6, 2) := chkD_at okX6_buy_0 1 rfl
theorem dX6_buy_3 : decode cX6_buy 3 = .ok (.invokestatic 58, 3) := chkD_at okX6_buy_0 2 rfl
theorem dX6_buy_6 : decode cX6_buy 6 = .ok (.ifCond .ne 10, 3) := chkD_at okX6_buy_0 3 rfl
theorem dX6_buy_9 : decode cX6_buy 9 = .ok (.aload_n 0, 1) := chkD_at okX6_buy_0 4 rfl
theorem dX6_buy_10 : decode cX6_buy 10 = .ok (.ldc 62, 2) := chkD_at okX6_buy_0 5 rfl
theorem dX6_buy_12 : decode cX6_buy 12 = .ok (.invokevirtual 63, 3) := chkD_at okX6_buy_0 6 rfl
theorem dX6_buy_15 : decode cX6_buy 15 = .ok (.ireturn, 1) := chkD_at okX6_buy_0 7 rfl
theorem dX6_buy_16 : decode cX6_buy 16 = .ok (.aload_n 0, 1) := chkD_at okX6_buy_0 8 rfl
theorem dX6_buy_17 : decode cX6_buy 17 = .ok (.getfield 29, 3) := chkD_at okX6_buy_0 9 rfl
theorem dX6_buy_20 : decode cX6_buy 20 = .ok (.aload_n 0, 1) := chkD_at okX6_buy_0 10 rfl
theorem dX6_buy_21 : decode cX6_buy 21 = .ok (.getfield 12, 3) := chkD_at okX6_buy_0 11 rfl
theorem dX6_buy_24 : decode cX6_buy 24 = .ok (.invokevirtual 114, 3) := chkD_at okX6_buy_0 12 rfl
theorem dX6_buy_27 : decode cX6_buy 27 = .ok (.aload_n 0, 1) := chkD_at okX6_buy_0 13 rfl
theorem dX6_buy_28 : decode cX6_buy 28 = .ok (.getfield 29, 3) := chkD_at okX6_buy_0 14 rfl
theorem dX6_buy_31 : decode cX6_buy 31 = .ok (.iload_n 1, 1) := chkD_at okX6_buy_0 15 rfl
theorem dX6_buy_32 : decode cX6_buy 32 = .ok (.invokevirtual 204, 3) := chkD_at okX6_buy_0 16 rfl
theorem dX6_buy_35 : decode cX6_buy 35 = .ok (.istore_n 2, 1) := chkD_at okX6_buy_0 17 rfl
theorem dX6_buy_36 : decode cX6_buy 36 = .ok (.iconst (-1), 1) := chkD_at okX6_buy_0 18 rfl
theorem dX6_buy_37 : decode cX6_buy 37 = .ok (.istore_n 3, 1) := chkD_at okX6_buy_0 19 rfl
theorem dX6_buy_38 : decode cX6_buy 38 = .ok (.iconst 0, 1) := chkD_at okX6_buy_0 20 rfl
theorem dX6_buy_39 : decode cX6_buy 39 = .ok (.istore 4, 2) := chkD_at okX6_buy_0 21 rfl
theorem dX6_buy_41 : decode cX6_buy 41 = .ok (.iload 4, 2) := chkD_at okX6_buy_0 22 rfl
theorem dX6_buy_43 : decode cX6_buy 43 = .ok (.bipush 8, 2) := chkD_at okX6_buy_0 23 rfl
theorem dX6_buy_45 : decode cX6_buy 45 = .ok (.if_icmp .ge 56, 3) := chkD_at okX6_buy_0 24 rfl
theorem dX6_buy_48 : decode cX6_buy 48 = .ok (.aload_n 0, 1) := chkD_at okX6_buy_0 25 rfl
theorem dX6_buy_49 : decode cX6_buy 49 = .ok (.getfield 29, 3) := chkD_at okX6_buy_0 26 rfl
theorem dX6_buy_52 : decode cX6_buy 52 = .ok (.aload_n 0, 1) := chkD_at okX6_buy_0 27 rfl
theorem dX6_buy_53 : decode cX6_buy 53 = .ok (.getfield 12, 3) := chkD_at okX6_buy_0 28 rfl
theorem dX6_buy_56 : decode cX6_buy 56 = .ok (.invokevirtual 114, 3) := chkD_at okX6_buy_0 29 rfl
theorem dX6_buy_59 : decode cX6_buy 59 = .ok (.aload_n 0, 1) := chkD_at okX6_buy_0 30 rfl
theorem dX6_buy_60 : decode cX6_buy 60 = .ok (.getfield 29, 3) := chkD_at okX6_buy_0 31 rfl
theorem dX6_buy_63 : decode cX6_buy 63 = .ok (.getfield 207, 3) := chkD_at okX6_buy_0 32 rfl
theorem dX6_buy_66 : decode cX6_buy 66 = .ok (.iload 4, 2) := chkD_at okX6_buy_0 33 rfl
theorem dX6_buy_68 : decode cX6_buy 68 = .ok (.dup2, 1) := chkD_at okX6_buy_0 34 rfl
theorem dX6_buy_69 : decode cX6_buy 69 = .ok (.iaload, 1) := chkD_at okX6_buy_0 35 rfl
theorem dX6_buy_70 : decode cX6_buy 70 = .ok (.iconst 1, 1) := chkD_at okX6_buy_0 36 rfl
theorem dX6_buy_71 : decode cX6_buy 71 = .ok (.iadd, 1) := chkD_at okX6_buy_0 37 rfl
theorem dX6_buy_72 : decode cX6_buy 72 = .ok (.iastore, 1) := chkD_at okX6_buy_0 38 rfl
theorem dX6_buy_73 : decode cX6_buy 73 = .ok (.aload_n 0, 1) := chkD_at okX6_buy_0 39 rfl
theorem dX6_buy_74 : decode cX6_buy 74 = .ok (.getfield 29, 3) := chkD_at okX6_buy_0 40 rfl
theorem dX6_buy_77 : decode cX6_buy 77 = .ok (.iload_n 1, 1) := chkD_at okX6_buy_0 41 rfl
theorem dX6_buy_78 : decode cX6_buy 78 = .ok (.invokevirtual 204, 3) := chkD_at okX6_buy_0 42 rfl
theorem dX6_buy_81 : decode cX6_buy 81 = .ok (.istore 5, 2) := chkD_at okX6_buy_0 43 rfl
theorem dX6_buy_83 : decode cX6_buy 83 = .ok (.iload 5, 2) := chkD_at okX6_buy_0 44 rfl
theorem dX6_buy_85 : decode cX6_buy 85 = .ok (.iload_n 2, 1) := chkD_at okX6_buy_0 45 rfl
theorem dX6_buy_86 : decode cX6_buy 86 = .ok (.if_icmp .le 9, 3) := chkD_at okX6_buy_0 46 rfl
theorem dX6_buy_89 : decode cX6_buy 89 = .ok (.iload 5, 2) := chkD_at okX6_buy_0 47 rfl
theorem dX6_buy_91 : decode cX6_buy 91 = .ok (.istore_n 2, 1) := chkD_at okX6_buy_0 48 rfl
theorem dX6_buy_92 : decode cX6_buy 92 = .ok (.iload 4, 2) := chkD_at okX6_buy_0 49 rfl
theorem dX6_buy_94 : decode cX6_buy 94 = .ok (.istore_n 3, 1) := chkD_at okX6_buy_0 50 rfl
theorem dX6_buy_95 : decode cX6_buy 95 = .ok (.iinc 4 1, 3) := chkD_at okX6_buy_0 51 rfl
theorem dX6_buy_98 : decode cX6_buy 98 = .ok (.goto (-57), 3) := chkD_at okX6_buy_0 52 rfl
theorem dX6_buy_101 : decode cX6_buy 101 = .ok (.aload_n 0, 1) := chkD_at okX6_buy_0 53 rfl
theorem dX6_buy_102 : decode cX6_buy 102 = .ok (.iload_n 3, 1) := chkD_at okX6_buy_0 54 rfl
theorem dX6_buy_103 : decode cX6_buy 103 = .ok (.invokevirtual 137, 3) := chkD_at okX6_buy_0 55 rfl
theorem dX6_buy_106 : decode cX6_buy 106 = .ok (.ireturn, 1) := chkD_at okX6_buy_0 56 rfl
theorem okX6_steps_0 : chkD cX6_steps [(0, .iload_n 1, 1), (1, .invokestatic 86, 3), (4, .ifCond .eq 10, 3), (7, .iload_n 2, 1), (8, .invokestatic 86, 3), (11, .ifCond .ne 10, 3), (14, .aload_n 0, 1), (15, .ldc 62, 2), (17, .invokevirtual 63, 3), (20, .ireturn, 1), (21, .aload_n 0, 1), (22, .getfield 29, 3), (25, .aload_n 0, 1), (26, .getfield 12, 3), (29, .invokevirtual 114, 3), (32, .aload_n 0, 1), (33, .aload_n 0, 1), (34, .getfield 36, 3), (37, .iload_n 1, 1), (38, .iload_n 2, 1), (39, .aload_n 0, 1), (40, .getfield 29, 3), (43, .invokevirtual 210, 3), (46, .invokevirtual 137, 3), (49, .ireturn, 1)] = true := by decide +kernel
theorem dX6_steps_0 : decode cX6_steps 0 = .ok (.iload_n 1, 1) := chkD_at okX6_steps_0 0 rfl
theorem dX6_steps_1 : decode cX6_steps 1 = .ok (.invokestatic 86, 3) := chkD_at okX6_steps_0 1 rfl
theorem dX6_steps_4 : decode cX6_steps 4 = .ok (.ifCond .eq 10, 3) := chkD_at okX6_steps_0 2 rfl
theorem dX6_steps_7 : decode cX6_steps 7 = .ok (.iload_n 2, 1) := chkD_at okX6_steps_0 3 rfl
theorem dX6_steps_8 : decode cX6_steps 8 = .ok (.invokestatic 86, 3) := chkD_at okX6_steps_0 4 rfl
theorem dX6_steps_11 : decode cX6_steps 11 = .ok (.ifCond .ne 10, 3) := chkD_at okX6_steps_0 5 rfl
theorem dX6_steps_14 : decode cX6_steps 14 = .ok (.aload_n 0, 1) := chkD_at okX6_steps_0 6 rfl
theorem dX6_steps_15 : decode cX6_steps 15 = .ok (.ldc 62, 2) := chkD_at okX6_steps_0 7 rfl
theorem dX6_steps_17 : decode cX6_steps 17 = .ok (.invokevirtual 63, 3) := chkD_at okX6_steps_0 8 rfl
theorem dX6_steps_20 : decode cX6_steps 20 = .ok (.ireturn, 1) := chkD_at okX6_steps_0 9 rfl
theorem dX6_steps_21 : decode cX6_steps 21 = .ok (.aload_n 0, 1) := chkD_at okX6_steps_0 10 rfl
theorem dX6_steps_22 : decode cX6_steps 22 = .ok (.getfield 29, 3) := chkD_at okX6_steps_0 11 rfl
theorem dX6_steps_25 : decode cX6_steps 25 = .ok (.aload_n 0, 1) := chkD_at okX6_steps_0 12 rfl
theorem dX6_steps_26 : decode cX6_steps 26 = .ok (.getfield 12, 3) := chkD_at okX6_steps_0 13 rfl
theorem dX6_steps_29 : decode cX6_steps 29 = .ok (.invokevirtual 114, 3) := chkD_at okX6_steps_0 14 rfl
theorem dX6_steps_32 : decode cX6_steps 32 = .ok (.aload_n 0, 1) := chkD_at okX6_steps_0 15 rfl
theorem dX6_steps_33 : decode cX6_steps 33 = .ok (.aload_n 0, 1) := chkD_at okX6_steps_0 16 rfl
theorem dX6_steps_34 : decode cX6_steps 34 = .ok (.getfield 36, 3) := chkD_at okX6_steps_0 17 rfl
theorem dX6_steps_37 : decode cX6_steps 37 = .ok (.iload_n 1, 1) := chkD_at okX6_steps_0 18 rfl
theorem dX6_steps_38 : decode cX6_steps 38 = .ok (.iload_n 2, 1) := chkD_at okX6_steps_0 19 rfl
theorem dX6_steps_39 : decode cX6_steps 39 = .ok (.aload_n 0, 1) := chkD_at okX6_steps_0 20 rfl
theorem dX6_steps_40 : decode cX6_steps 40 = .ok (.getfield 29, 3) := chkD_at okX6_steps_0 21 rfl
theorem dX6_steps_43 : decode cX6_steps 43 = .ok (.invokevirtual 210, 3) := chkD_at okX6_steps_0 22 rfl
theorem dX6_steps_46 : decode cX6_steps 46 = .ok (.invokevirtual 137, 3) := chkD_at okX6_steps_0 23 rfl
theorem dX6_steps_49 : decode cX6_steps 49 = .ok (.ireturn, 1) := chkD_at okX6_steps_0 24 rfl
theorem okX6_within_0 : chkD cX6_within [(0, .iload_n 1, 1), (1, .invokestatic 86, 3), (4, .ifCond .eq 13, 3), (7, .iload_n 2, 1), (8, .ifCond .lt 9, 3), (11, .iload_n 2, 1), (12, .bipush 12, 2), (14, .if_icmp .le 10, 3), (17, .aload_n 0, 1), (18, .ldc 62, 2), (20, .invokevirtual 63, 3), (23, .ireturn, 1), (24, .aload_n 0, 1), (25, .getfield 29, 3), (28, .aload_n 0, 1), (29, .getfield 12, 3), (32, .invokevirtual 114, 3), (35, .aload_n 0, 1), (36, .getfield 36, 3), (39, .iload_n 1, 1), (40, .iload_n 2, 1), (41, .aload_n 0, 1), (42, .getfield 29, 3), (45, .invokevirtual 214, 3), (48, .aload_n 0, 1), (49, .getfield 36, 3), (52, .getfield 218, 3), (55, .invokestatic 221, 3), (58, .ireturn, 1)] = true := by decide +kernel
theorem dX6_within_0 : decode cX6_within 0 = .ok (.iload_n 1, 1) := chkD_at okX6_within_0 0 rfl
theorem dX6_within_1 : decode cX6_within 1 = .ok (.invokestatic 86, 3) := chkD_at okX6_within_0 1 rfl
theorem dX6_within_4 : decode cX6_within 4 = .ok (.ifCond .eq 13, 3) := chkD_at okX6_within_0 2 rfl
theorem dX6_within_7 : decode cX6_within 7 = .ok (.iload_n 2, 1) := chkD_at okX6_within_0 3 rfl
theorem dX6_within_8 : decode cX6_within 8 = .ok (.ifCond .lt 9, 3) := chkD_at okX6_within_0 4 rfl
theorem dX6_within_11 : decode cX6_within 11 = .ok (.iload_n 2, 1) := chkD_at okX6_within_0 5 rfl
theorem dX6_within_12 : decode cX6_within 12 = .ok (.bipush 12, 2) := chkD_at okX6_within_0 6 rfl
theorem dX6_within_14 : decode cX6_within 14 = .ok (.if_icmp .le 10, 3) := chkD_at okX6_within_0 7 rfl
theorem dX6_within_17 : decode cX6_within 17 = .ok (.aload_n 0, 1) := chkD_at okX6_within_0 8 rfl
theorem dX6_within_18 : decode cX6_within 18 = .ok (.ldc 62, 2) := chkD_at okX6_within_0 9 rfl
theorem dX6_within_20 : decode cX6_within 20 = .ok (.invokevirtual 63, 3) := chkD_at okX6_within_0 10 rfl
theorem dX6_within_23 : decode cX6_within 23 = .ok (.ireturn, 1) := chkD_at okX6_within_0 11 rfl
theorem dX6_within_24 : decode cX6_within 24 = .ok (.aload_n 0, 1) := chkD_at okX6_within_0 12 rfl
theorem dX6_within_25 : decode cX6_within 25 = .ok (.getfield 29, 3) := chkD_at okX6_within_0 13 rfl
theorem dX6_within_28 : decode cX6_within 28 = .ok (.aload_n 0, 1) := chkD_at okX6_within_0 14 rfl
theorem dX6_within_29 : decode cX6_within 29 = .ok (.getfield 12, 3) := chkD_at okX6_within_0 15 rfl
theorem dX6_within_32 : decode cX6_within 32 = .ok (.invokevirtual 114, 3) := chkD_at okX6_within_0 16 rfl
theorem dX6_within_35 : decode cX6_within 35 = .ok (.aload_n 0, 1) := chkD_at okX6_within_0 17 rfl
theorem dX6_within_36 : decode cX6_within 36 = .ok (.getfield 36, 3) := chkD_at okX6_within_0 18 rfl
theorem dX6_within_39 : decode cX6_within 39 = .ok (.iload_n 1, 1) := chkD_at okX6_within_0 19 rfl
theorem dX6_within_40 : decode cX6_within 40 = .ok (.iload_n 2, 1) := chkD_at okX6_within_0 20 rfl
theorem dX6_within_41 : decode cX6_within 41 = .ok (.aload_n 0, 1) := chkD_at okX6_within_0 21 rfl
theorem dX6_within_42 : decode cX6_within 42 = .ok (.getfield 29, 3) := chkD_at okX6_within_0 22 rfl
theorem dX6_within_45 : decode cX6_within 45 = .ok (.invokevirtual 214, 3) := chkD_at okX6_within_0 23 rfl
theorem dX6_within_48 : decode cX6_within 48 = .ok (.aload_n 0, 1) := chkD_at okX6_within_0 24 rfl
theorem dX6_within_49 : decode cX6_within 49 = .ok (.getfield 36, 3) := chkD_at okX6_within_0 25 rfl
theorem dX6_within_52 : decode cX6_within 52 = .ok (.getfield 218, 3) := chkD_at okX6_within_0 26 rfl
theorem dX6_within_55 : decode cX6_within 55 = .ok (.invokestatic 221, 3) := chkD_at okX6_within_0 27 rfl
theorem dX6_within_58 : decode cX6_within 58 = .ok (.ireturn, 1) := chkD_at okX6_within_0 28 rfl
theorem okX6_walk_0 : chkD cX6_walk [(0, .iload_n 1, 1), (1, .invokestatic 86, 3), (4, .ifCond .eq 14, 3), (7, .iload_n 2, 1), (8, .iconst 1, 1), (9, .if_icmp .lt 9, 3), (12, .iload_n 2, 1), (13, .bipush 12, 2), (15, .if_icmp .le 10, 3), (18, .aload_n 0, 1), (19, .ldc 62, 2), (21, .invokevirtual 63, 3), (24, .ireturn, 1), (25, .aload_n 0, 1), (26, .getfield 29, 3), (29, .aload_n 0, 1), (30, .getfield 12, 3), (33, .invokevirtual 114, 3), (36, .aload_n 0, 1), (37, .getfield 36, 3), (40, .iload_n 1, 1), (41, .iload_n 2, 1), (42, .aload_n 0, 1), (43, .getfield 29, 3), (46, .invokevirtual 214, 3), (49, .aload_n 0, 1), (50, .aload_n 0, 1), (51, .getfield 29, 3), (54, .aload_n 0, 1), (55, .getfield 36, 3), (58, .getfield 218, 3), (61, .invokevirtual 225, 3), (64, .invokevirtual 137, 3), (67, .ireturn, 1)] = true := by decide +kernel
theorem dX6_walk_0 : decode cX6_walk 0 = .ok (.iload_n 1, 1) := chkD_at okX6_walk_0 0 rfl
theorem dX6_walk_1 : decode cX6_walk 1 = .ok (.invokestatic 86, 3) := chkD_at okX6_walk_0 1 rfl
theorem dX6_walk_4 : decode cX6_walk 4 = .ok (.ifCond .eq 14, 3) := chkD_at okX6_walk_0 2 rfl
theorem dX6_walk_7 : decode cX6_walk 7 = .ok (.iload_n 2, 1) := chkD_at okX6_walk_0 3 rfl
theorem dX6_walk_8 : decode cX6_walk 8 = .ok (.iconst 1, 1) := chkD_at okX6_walk_0 4 rfl
theorem dX6_walk_9 : decode cX6_walk 9 = .ok (.if_icmp .lt 9, 3) := chkD_at okX6_walk_0 5 rfl
theorem dX6_walk_12 : decode cX6_walk 12 = .ok (.iload_n 2, 1) := chkD_at okX6_walk_0 6 rfl
theorem dX6_walk_13 : decode cX6_walk 13 = .ok (.bipush 12, 2) := chkD_at okX6_walk_0 7 rfl
theorem dX6_walk_15 : decode cX6_walk 15 = .ok (.if_icmp .le 10, 3) := chkD_at okX6_walk_0 8 rfl
theorem dX6_walk_18 : decode cX6_walk 18 = .ok (.aload_n 0, 1) := chkD_at okX6_walk_0 9 rfl
theorem dX6_walk_19 : decode cX6_walk 19 = .ok (.ldc 62, 2) := chkD_at okX6_walk_0 10 rfl
theorem dX6_walk_21 : decode cX6_walk 21 = .ok (.invokevirtual 63, 3) := chkD_at okX6_walk_0 11 rfl
theorem dX6_walk_24 : decode cX6_walk 24 = .ok (.ireturn, 1) := chkD_at okX6_walk_0 12 rfl
theorem dX6_walk_25 : decode cX6_walk 25 = .ok (.aload_n 0, 1) := chkD_at okX6_walk_0 13 rfl
theorem dX6_walk_26 : decode cX6_walk 26 = .ok (.getfield 29, 3) := chkD_at okX6_walk_0 14 rfl
theorem dX6_walk_29 : decode cX6_walk 29 = .ok (.aload_n 0, 1) := chkD_at okX6_walk_0 15 rfl
theorem dX6_walk_30 : decode cX6_walk 30 = .ok (.getfield 12, 3) := chkD_at okX6_walk_0 16 rfl
theorem dX6_walk_33 : decode cX6_walk 33 = .ok (.invokevirtual 114, 3) := chkD_at okX6_walk_0 17 rfl
theorem dX6_walk_36 : decode cX6_walk 36 = .ok (.aload_n 0, 1) := chkD_at okX6_walk_0 18 rfl
theorem dX6_walk_37 : decode cX6_walk 37 = .ok (.getfield 36, 3) := chkD_at okX6_walk_0 19 rfl
theorem dX6_walk_40 : decode cX6_walk 40 = .ok (.iload_n 1, 1) := chkD_at okX6_walk_0 20 rfl
theorem dX6_walk_41 : decode cX6_walk 41 = .ok (.iload_n 2, 1) := chkD_at okX6_walk_0 21 rfl
theorem dX6_walk_42 : decode cX6_walk 42 = .ok (.aload_n 0, 1) := chkD_at okX6_walk_0 22 rfl
theorem dX6_walk_43 : decode cX6_walk 43 = .ok (.getfield 29, 3) := chkD_at okX6_walk_0 23 rfl
theorem dX6_walk_46 : decode cX6_walk 46 = .ok (.invokevirtual 214, 3) := chkD_at okX6_walk_0 24 rfl
theorem dX6_walk_49 : decode cX6_walk 49 = .ok (.aload_n 0, 1) := chkD_at okX6_walk_0 25 rfl
theorem dX6_walk_50 : decode cX6_walk 50 = .ok (.aload_n 0, 1) := chkD_at okX6_walk_0 26 rfl
theorem dX6_walk_51 : decode cX6_walk 51 = .ok (.getfield 29, 3) := chkD_at okX6_walk_0 27 rfl
theorem dX6_walk_54 : decode cX6_walk 54 = .ok (.aload_n 0, 1) := chkD_at okX6_walk_0 28 rfl
theorem dX6_walk_55 : decode cX6_walk 55 = .ok (.getfield 36, 3) := chkD_at okX6_walk_0 29 rfl
theorem dX6_walk_58 : decode cX6_walk 58 = .ok (.getfield 218, 3) := chkD_at okX6_walk_0 30 rfl
theorem dX6_walk_61 : decode cX6_walk 61 = .ok (.invokevirtual 225, 3) := chkD_at okX6_walk_0 31 rfl
theorem dX6_walk_64 : decode cX6_walk 64 = .ok (.invokevirtual 137, 3) := chkD_at okX6_walk_0 32 rfl
theorem dX6_walk_67 : decode cX6_walk 67 = .ok (.ireturn, 1) := chkD_at okX6_walk_0 33 rfl
theorem okX6_now_0 : chkD cX6_now [(0, .iload_n 1, 1), (1, .tableswitch 63 0 3 #[31, 39, 47, 55], 31), (32, .aload_n 0, 1), (33, .getfield 12, 3), (36, .getfield 194, 3), (39, .ireturn, 1), (40, .aload_n 0, 1), (41, .getfield 12, 3), (44, .getfield 148, 3), (47, .ireturn, 1), (48, .aload_n 0, 1), (49, .getfield 12, 3), (52, .invokevirtual 228, 3), (55, .ireturn, 1), (56, .aload_n 0, 1), (57, .getfield 12, 3), (60, .invokevirtual 231, 3), (63, .ireturn, 1), (64, .aload_n 0, 1), (65, .ldc 62, 2), (67, .invokevirtual 63, 3), (70, .ireturn, 1)] = true := by decide +kernel
theorem dX6_now_0 : decode cX6_now 0 = .ok (.iload_n 1, 1) := chkD_at okX6_now_0 0 rfl
theorem dX6_now_1 : decode cX6_now 1 = .ok (.tableswitch 63 0 3 #[31, 39, 47, 55], 31) := chkD_at okX6_now_0 1 rfl
theorem dX6_now_32 : decode cX6_now 32 = .ok (.aload_n 0, 1) := chkD_at okX6_now_0 2 rfl
theorem dX6_now_33 : decode cX6_now 33 = .ok (.getfield 12, 3) := chkD_at okX6_now_0 3 rfl
theorem dX6_now_36 : decode cX6_now 36 = .ok (.getfield 194, 3) := chkD_at okX6_now_0 4 rfl
theorem dX6_now_39 : decode cX6_now 39 = .ok (.ireturn, 1) := chkD_at okX6_now_0 5 rfl
theorem dX6_now_40 : decode cX6_now 40 = .ok (.aload_n 0, 1) := chkD_at okX6_now_0 6 rfl
theorem dX6_now_41 : decode cX6_now 41 = .ok (.getfield 12, 3) := chkD_at okX6_now_0 7 rfl
theorem dX6_now_44 : decode cX6_now 44 = .ok (.getfield 148, 3) := chkD_at okX6_now_0 8 rfl
theorem dX6_now_47 : decode cX6_now 47 = .ok (.ireturn, 1) := chkD_at okX6_now_0 9 rfl
theorem dX6_now_48 : decode cX6_now 48 = .ok (.aload_n 0, 1) := chkD_at okX6_now_0 10 rfl
theorem dX6_now_49 : decode cX6_now 49 = .ok (.getfield 12, 3) := chkD_at okX6_now_0 11 rfl
theorem dX6_now_52 : decode cX6_now 52 = .ok (.invokevirtual 228, 3) := chkD_at okX6_now_0 12 rfl
theorem dX6_now_55 : decode cX6_now 55 = .ok (.ireturn, 1) := chkD_at okX6_now_0 13 rfl
theorem dX6_now_56 : decode cX6_now 56 = .ok (.aload_n 0, 1) := chkD_at okX6_now_0 14 rfl
theorem dX6_now_57 : decode cX6_now 57 = .ok (.getfield 12, 3) := chkD_at okX6_now_0 15 rfl
theorem dX6_now_60 : decode cX6_now 60 = .ok (.invokevirtual 231, 3) := chkD_at okX6_now_0 16 rfl
theorem dX6_now_63 : decode cX6_now 63 = .ok (.ireturn, 1) := chkD_at okX6_now_0 17 rfl
theorem dX6_now_64 : decode cX6_now 64 = .ok (.aload_n 0, 1) := chkD_at okX6_now_0 18 rfl
theorem dX6_now_65 : decode cX6_now 65 = .ok (.ldc 62, 2) := chkD_at okX6_now_0 19 rfl
theorem dX6_now_67 : decode cX6_now 67 = .ok (.invokevirtual 63, 3) := chkD_at okX6_now_0 20 rfl
theorem dX6_now_70 : decode cX6_now 70 = .ok (.ireturn, 1) := chkD_at okX6_now_0 21 rfl
theorem okX6_feed_0 : chkD cX6_feed [(0, .iload_n 2, 1), (1, .iconst 1, 1), (2, .if_icmp .lt 8, 3), (5, .iload_n 2, 1), (6, .iconst 4, 1), (7, .if_icmp .le 10, 3), (10, .aload_n 0, 1), (11, .ldc 62, 2), (13, .invokevirtual 63, 3), (16, .ireturn, 1), (17, .aload_n 0, 1), (18, .getfield 43, 3), (21, .getfield 234, 3), (24, .iload_n 2, 1), (25, .iadd, 1), (26, .bipush 120, 2), (28, .if_icmp .le 10, 3), (31, .aload_n 0, 1), (32, .ldc 144, 2), (34, .invokevirtual 63, 3), (37, .ireturn, 1), (38, .iload_n 2, 1), (39, .iconst 1, 1), (40, .isub, 1), (41, .istore_n 3, 1), (42, .iload_n 3, 1), (43, .ifCond .lt 26, 3), (46, .aload_n 0, 1), (47, .getfield 43, 3), (50, .iload_n 1, 1), (51, .bipush 8, 2), (53, .iload_n 3, 1), (54, .imul, 1), (55, .ishr, 1), (56, .sipush 255, 3), (59, .iand, 1), (60, .invokevirtual 237, 3), (63, .iinc 3 (-1), 3), (66, .goto (-24), 3), (69, .aload_n 0, 1), (70, .getfield 43, 3), (73, .getfield 234, 3), (76, .ireturn, 1)] = true := by decide +kernel
theorem dX6_feed_0 : decode cX6_feed 0 = .ok (.iload_n 2, 1) := chkD_at okX6_feed_0 0 rfl
theorem dX6_feed_1 : decode cX6_feed 1 = .ok (.iconst 1, 1) := chkD_at okX6_feed_0 1 rfl
theorem dX6_feed_2 : decode cX6_feed 2 = .ok (.if_icmp .lt 8, 3) := chkD_at okX6_feed_0 2 rfl
theorem dX6_feed_5 : decode cX6_feed 5 = .ok (.iload_n 2, 1) := chkD_at okX6_feed_0 3 rfl
theorem dX6_feed_6 : decode cX6_feed 6 = .ok (.iconst 4, 1) := chkD_at okX6_feed_0 4 rfl
theorem dX6_feed_7 : decode cX6_feed 7 = .ok (.if_icmp .le 10, 3) := chkD_at okX6_feed_0 5 rfl
theorem dX6_feed_10 : decode cX6_feed 10 = .ok (.aload_n 0, 1) := chkD_at okX6_feed_0 6 rfl
theorem dX6_feed_11 : decode cX6_feed 11 = .ok (.ldc 62, 2) := chkD_at okX6_feed_0 7 rfl
theorem dX6_feed_13 : decode cX6_feed 13 = .ok (.invokevirtual 63, 3) := chkD_at okX6_feed_0 8 rfl
theorem dX6_feed_16 : decode cX6_feed 16 = .ok (.ireturn, 1) := chkD_at okX6_feed_0 9 rfl
theorem dX6_feed_17 : decode cX6_feed 17 = .ok (.aload_n 0, 1) := chkD_at okX6_feed_0 10 rfl
theorem dX6_feed_18 : decode cX6_feed 18 = .ok (.getfield 43, 3) := chkD_at okX6_feed_0 11 rfl
theorem dX6_feed_21 : decode cX6_feed 21 = .ok (.getfield 234, 3) := chkD_at okX6_feed_0 12 rfl
theorem dX6_feed_24 : decode cX6_feed 24 = .ok (.iload_n 2, 1) := chkD_at okX6_feed_0 13 rfl
theorem dX6_feed_25 : decode cX6_feed 25 = .ok (.iadd, 1) := chkD_at okX6_feed_0 14 rfl
theorem dX6_feed_26 : decode cX6_feed 26 = .ok (.bipush 120, 2) := chkD_at okX6_feed_0 15 rfl
theorem dX6_feed_28 : decode cX6_feed 28 = .ok (.if_icmp .le 10, 3) := chkD_at okX6_feed_0 16 rfl
theorem dX6_feed_31 : decode cX6_feed 31 = .ok (.aload_n 0, 1) := chkD_at okX6_feed_0 17 rfl
theorem dX6_feed_32 : decode cX6_feed 32 = .ok (.ldc 144, 2) := chkD_at okX6_feed_0 18 rfl
theorem dX6_feed_34 : decode cX6_feed 34 = .ok (.invokevirtual 63, 3) := chkD_at okX6_feed_0 19 rfl
theorem dX6_feed_37 : decode cX6_feed 37 = .ok (.ireturn, 1) := chkD_at okX6_feed_0 20 rfl
theorem dX6_feed_38 : decode cX6_feed 38 = .ok (.iload_n 2, 1) := chkD_at okX6_feed_0 21 rfl
theorem dX6_feed_39 : decode cX6_feed 39 = .ok (.iconst 1, 1) := chkD_at okX6_feed_0 22 rfl
theorem dX6_feed_40 : decode cX6_feed 40 = .ok (.isub, 1) := chkD_at okX6_feed_0 23 rfl
theorem dX6_feed_41 : decode cX6_feed 41 = .ok (.istore_n 3, 1) := chkD_at okX6_feed_0 24 rfl
theorem dX6_feed_42 : decode cX6_feed 42 = .ok (.iload_n 3, 1) := chkD_at okX6_feed_0 25 rfl
theorem dX6_feed_43 : decode cX6_feed 43 = .ok (.ifCond .lt 26, 3) := chkD_at okX6_feed_0 26 rfl
theorem dX6_feed_46 : decode cX6_feed 46 = .ok (.aload_n 0, 1) := chkD_at okX6_feed_0 27 rfl
theorem dX6_feed_47 : decode cX6_feed 47 = .ok (.getfield 43, 3) := chkD_at okX6_feed_0 28 rfl
theorem dX6_feed_50 : decode cX6_feed 50 = .ok (.iload_n 1, 1) := chkD_at okX6_feed_0 29 rfl
theorem dX6_feed_51 : decode cX6_feed 51 = .ok (.bipush 8, 2) := chkD_at okX6_feed_0 30 rfl
theorem dX6_feed_53 : decode cX6_feed 53 = .ok (.iload_n 3, 1) := chkD_at okX6_feed_0 31 rfl
theorem dX6_feed_54 : decode cX6_feed 54 = .ok (.imul, 1) := chkD_at okX6_feed_0 32 rfl
theorem dX6_feed_55 : decode cX6_feed 55 = .ok (.ishr, 1) := chkD_at okX6_feed_0 33 rfl
theorem dX6_feed_56 : decode cX6_feed 56 = .ok (.sipush 255, 3) := chkD_at okX6_feed_0 34 rfl
theorem dX6_feed_59 : decode cX6_feed 59 = .ok (.iand, 1) := chkD_at okX6_feed_0 35 rfl
theorem dX6_feed_60 : decode cX6_feed 60 = .ok (.invokevirtual 237, 3) := chkD_at okX6_feed_0 36 rfl
theorem dX6_feed_63 : decode cX6_feed 63 = .ok (.iinc 3 (-1), 3) := chkD_at okX6_feed_0 37 rfl
theorem dX6_feed_66 : decode cX6_feed 66 = .ok (.goto (-24), 3) := chkD_at okX6_feed_0 38 rfl
theorem dX6_feed_69 : decode cX6_feed 69 = .ok (.aload_n 0, 1) := chkD_at okX6_feed_0 39 rfl
theorem dX6_feed_70 : decode cX6_feed 70 = .ok (.getfield 43, 3) := chkD_at okX6_feed_0 40 rfl
theorem dX6_feed_73 : decode cX6_feed 73 = .ok (.getfield 234, 3) := chkD_at okX6_feed_0 41 rfl
theorem dX6_feed_76 : decode cX6_feed 76 = .ok (.ireturn, 1) := chkD_at okX6_feed_0 42 rfl
theorem okX6_wipe_0 : chkD cX6_wipe [(0, .aload_n 0, 1), (1, .getfield 43, 3), (4, .getfield 234, 3), (7, .istore_n 1, 1), (8, .aload_n 0, 1), (9, .getfield 43, 3), (12, .iconst 0, 1), (13, .putfield 234, 3), (16, .iload_n 1, 1), (17, .ireturn, 1)] = true := by decide +kernel
theorem dX6_wipe_0 : decode cX6_wipe 0 = .ok (.aload_n 0, 1) := chkD_at okX6_wipe_0 0 rfl
theorem dX6_wipe_1 : decode cX6_wipe 1 = .ok (.getfield 43, 3) := chkD_at okX6_wipe_0 1 rfl
theorem dX6_wipe_4 : decode cX6_wipe 4 = .ok (.getfield 234, 3) := chkD_at okX6_wipe_0 2 rfl
theorem dX6_wipe_7 : decode cX6_wipe 7 = .ok (.istore_n 1, 1) := chkD_at okX6_wipe_0 3 rfl
theorem dX6_wipe_8 : decode cX6_wipe 8 = .ok (.aload_n 0, 1) := chkD_at okX6_wipe_0 4 rfl
theorem dX6_wipe_9 : decode cX6_wipe 9 = .ok (.getfield 43, 3) := chkD_at okX6_wipe_0 5 rfl
theorem dX6_wipe_12 : decode cX6_wipe 12 = .ok (.iconst 0, 1) := chkD_at okX6_wipe_0 6 rfl
theorem dX6_wipe_13 : decode cX6_wipe 13 = .ok (.putfield 234, 3) := chkD_at okX6_wipe_0 7 rfl
theorem dX6_wipe_16 : decode cX6_wipe 16 = .ok (.iload_n 1, 1) := chkD_at okX6_wipe_0 8 rfl
theorem dX6_wipe_17 : decode cX6_wipe 17 = .ok (.ireturn, 1) := chkD_at okX6_wipe_0 9 rfl
theorem okX6_book_0 : chkD cX6_book [(0, .aload_n 0, 1), (1, .getfield 19, 3), (4, .aload_n 0, 1), (5, .getfield 12, 3), (8, .invokevirtual 241, 3), (11, .aload_n 0, 1), (12, .getfield 43, 3), (15, .aload_n 0, 1), (16, .getfield 19, 3), (19, .invokevirtual 244, 3), (22, .istore_n 1, 1), (23, .aload_n 0, 1), (24, .getfield 43, 3), (27, .iconst 0, 1), (28, .putfield 234, 3), (31, .iload_n 1, 1), (32, .ifCond .lt 14, 3), (35, .aload_n 0, 1), (36, .getfield 12, 3), (39, .aload_n 0, 1), (40, .getfield 19, 3), (43, .invokevirtual 241, 3), (46, .iload_n 1, 1), (47, .ireturn, 1)] = true := by decide +kernel
theorem dX6_book_0 : decode cX6_book 0 = .ok (.aload_n 0, 1) := chkD_at okX6_book_0 0 rfl
theorem dX6_book_1 : decode cX6_book 1 = .ok (.getfield 19, 3) := chkD_at okX6_book_0 1 rfl
theorem dX6_book_4 : decode cX6_book 4 = .ok (.aload_n 0, 1) := chkD_at okX6_book_0 2 rfl
theorem dX6_book_5 : decode cX6_book 5 = .ok (.getfield 12, 3) := chkD_at okX6_book_0 3 rfl
theorem dX6_book_8 : decode cX6_book 8 = .ok (.invokevirtual 241, 3) := chkD_at okX6_book_0 4 rfl
theorem dX6_book_11 : decode cX6_book 11 = .ok (.aload_n 0, 1) := chkD_at okX6_book_0 5 rfl
theorem dX6_book_12 : decode cX6_book 12 = .ok (.getfield 43, 3) := chkD_at okX6_book_0 6 rfl
theorem dX6_book_15 : decode cX6_book 15 = .ok (.aload_n 0, 1) := chkD_at okX6_book_0 7 rfl
theorem dX6_book_16 : decode cX6_book 16 = .ok (.getfield 19, 3) := chkD_at okX6_book_0 8 rfl
theorem dX6_book_19 : decode cX6_book 19 = .ok (.invokevirtual 244, 3) := chkD_at okX6_book_0 9 rfl
theorem dX6_book_22 : decode cX6_book 22 = .ok (.istore_n 1, 1) := chkD_at okX6_book_0 10 rfl
theorem dX6_book_23 : decode cX6_book 23 = .ok (.aload_n 0, 1) := chkD_at okX6_book_0 11 rfl
theorem dX6_book_24 : decode cX6_book 24 = .ok (.getfield 43, 3) := chkD_at okX6_book_0 12 rfl
theorem dX6_book_27 : decode cX6_book 27 = .ok (.iconst 0, 1) := chkD_at okX6_book_0 13 rfl
theorem dX6_book_28 : decode cX6_book 28 = .ok (.putfield 234, 3) := chkD_at okX6_book_0 14 rfl
theorem dX6_book_31 : decode cX6_book 31 = .ok (.iload_n 1, 1) := chkD_at okX6_book_0 15 rfl
theorem dX6_book_32 : decode cX6_book 32 = .ok (.ifCond .lt 14, 3) := chkD_at okX6_book_0 16 rfl
theorem dX6_book_35 : decode cX6_book 35 = .ok (.aload_n 0, 1) := chkD_at okX6_book_0 17 rfl
theorem dX6_book_36 : decode cX6_book 36 = .ok (.getfield 12, 3) := chkD_at okX6_book_0 18 rfl
theorem dX6_book_39 : decode cX6_book 39 = .ok (.aload_n 0, 1) := chkD_at okX6_book_0 19 rfl
theorem dX6_book_40 : decode cX6_book 40 = .ok (.getfield 19, 3) := chkD_at okX6_book_0 20 rfl
theorem dX6_book_43 : decode cX6_book 43 = .ok (.invokevirtual 241, 3) := chkD_at okX6_book_0 21 rfl
theorem dX6_book_46 : decode cX6_book 46 = .ok (.iload_n 1, 1) := chkD_at okX6_book_0 22 rfl
theorem dX6_book_47 : decode cX6_book 47 = .ok (.ireturn, 1) := chkD_at okX6_book_0 23 rfl
theorem okX6_sheet_0 : chkD cX6_sheet [(0, .iload_n 1, 1), (1, .iconst 4, 1), (2, .invokestatic 58, 3), (5, .ifCond .eq 25, 3), (8, .iload_n 2, 1), (9, .ifCond .eq 28, 3), (12, .iload_n 2, 1), (13, .bipush 8, 2), (15, .if_icmp .eq 22, 3), (18, .iload_n 2, 1), (19, .bipush 16, 2), (21, .if_icmp .eq 16, 3), (24, .iload_n 2, 1), (25, .bipush 64, 2), (27, .if_icmp .eq 10, 3), (30, .aload_n 0, 1), (31, .ldc 62, 2), (33, .invokevirtual 63, 3), (36, .ireturn, 1), (37, .iload_n 3, 1), (38, .ifCond .ge 10, 3), (41, .aload_n 0, 1), (42, .ldc 248, 2), (44, .invokevirtual 63, 3), (47, .ireturn, 1), (48, .iload_n 3, 1), (49, .bipush 40, 2), (51, .if_icmp .le 10, 3), (54, .aload_n 0, 1), (55, .ldc 62, 2), (57, .invokevirtual 63, 3), (60, .ireturn, 1), (61, .aload_n 0, 1), (62, .getfield 49, 3), (65, .iload_n 1, 1), (66, .aaload, 1), (67, .iload_n 2, 1), (68, .iload_n 3, 1), (69, .invokevirtual 249, 3), (72, .aload_n 0, 1), (73, .getfield 49, 3), (76, .iload_n 1, 1), (77, .aaload, 1), (78, .getfield 253, 3), (81, .ireturn, 1)] = true := by decide +kernel
theorem dX6_sheet_0 : decode cX6_sheet 0 = .ok (.iload_n 1, 1) := chkD_at okX6_sheet_0 0 rfl
theorem dX6_sheet_1 : decode cX6_sheet 1 = .ok (.iconst 4, 1) := chkD_at okX6_sheet_0 1 rfl
theorem dX6_sheet_2 : decode cX6_sheet 2 = .ok (.invokestatic 58, 3) := chkD_at okX6_sheet_0 2 rfl
theorem dX6_sheet_5 : decode cX6_sheet 5 = .ok (.ifCond .eq 25, 3) := chkD_at okX6_sheet_0 3 rfl
theorem dX6_sheet_8 : decode cX6_sheet 8 = .ok (.iload_n 2, 1) := chkD_at okX6_sheet_0 4 rfl
theorem dX6_sheet_9 : decode cX6_sheet 9 = .ok (.ifCond .eq 28, 3) := chkD_at okX6_sheet_0 5 rfl
theorem dX6_sheet_12 : decode cX6_sheet 12 = .ok (.iload_n 2, 1) := chkD_at okX6_sheet_0 6 rfl
theorem dX6_sheet_13 : decode cX6_sheet 13 = .ok (.bipush 8, 2) := chkD_at okX6_sheet_0 7 rfl
theorem dX6_sheet_15 : decode cX6_sheet 15 = .ok (.if_icmp .eq 22, 3) := chkD_at okX6_sheet_0 8 rfl
theorem dX6_sheet_18 : decode cX6_sheet 18 = .ok (.iload_n 2, 1) := chkD_at okX6_sheet_0 9 rfl
theorem dX6_sheet_19 : decode cX6_sheet 19 = .ok (.bipush 16, 2) := chkD_at okX6_sheet_0 10 rfl
theorem dX6_sheet_21 : decode cX6_sheet 21 = .ok (.if_icmp .eq 16, 3) := chkD_at okX6_sheet_0 11 rfl
theorem dX6_sheet_24 : decode cX6_sheet 24 = .ok (.iload_n 2, 1) := chkD_at okX6_sheet_0 12 rfl
theorem dX6_sheet_25 : decode cX6_sheet 25 = .ok (.bipush 64, 2) := chkD_at okX6_sheet_0 13 rfl
theorem dX6_sheet_27 : decode cX6_sheet 27 = .ok (.if_icmp .eq 10, 3) := chkD_at okX6_sheet_0 14 rfl
theorem dX6_sheet_30 : decode cX6_sheet 30 = .ok (.aload_n 0, 1) := chkD_at okX6_sheet_0 15 rfl
theorem dX6_sheet_31 : decode cX6_sheet 31 = .ok (.ldc 62, 2) := chkD_at okX6_sheet_0 16 rfl
theorem dX6_sheet_33 : decode cX6_sheet 33 = .ok (.invokevirtual 63, 3) := chkD_at okX6_sheet_0 17 rfl
theorem dX6_sheet_36 : decode cX6_sheet 36 = .ok (.ireturn, 1) := chkD_at okX6_sheet_0 18 rfl
theorem dX6_sheet_37 : decode cX6_sheet 37 = .ok (.iload_n 3, 1) := chkD_at okX6_sheet_0 19 rfl
theorem dX6_sheet_38 : decode cX6_sheet 38 = .ok (.ifCond .ge 10, 3) := chkD_at okX6_sheet_0 20 rfl
theorem dX6_sheet_41 : decode cX6_sheet 41 = .ok (.aload_n 0, 1) := chkD_at okX6_sheet_0 21 rfl
theorem dX6_sheet_42 : decode cX6_sheet 42 = .ok (.ldc 248, 2) := chkD_at okX6_sheet_0 22 rfl
theorem dX6_sheet_44 : decode cX6_sheet 44 = .ok (.invokevirtual 63, 3) := chkD_at okX6_sheet_0 23 rfl
theorem dX6_sheet_47 : decode cX6_sheet 47 = .ok (.ireturn, 1) := chkD_at okX6_sheet_0 24 rfl
theorem dX6_sheet_48 : decode cX6_sheet 48 = .ok (.iload_n 3, 1) := chkD_at okX6_sheet_0 25 rfl
theorem dX6_sheet_49 : decode cX6_sheet 49 = .ok (.bipush 40, 2) := chkD_at okX6_sheet_0 26 rfl
theorem dX6_sheet_51 : decode cX6_sheet 51 = .ok (.if_icmp .le 10, 3) := chkD_at okX6_sheet_0 27 rfl
theorem dX6_sheet_54 : decode cX6_sheet 54 = .ok (.aload_n 0, 1) := chkD_at okX6_sheet_0 28 rfl
theorem dX6_sheet_55 : decode cX6_sheet 55 = .ok (.ldc 62, 2) := chkD_at okX6_sheet_0 29 rfl
theorem dX6_sheet_57 : decode cX6_sheet 57 = .ok (.invokevirtual 63, 3) := chkD_at okX6_sheet_0 30 rfl
theorem dX6_sheet_60 : decode cX6_sheet 60 = .ok (.ireturn, 1) := chkD_at okX6_sheet_0 31 rfl
theorem dX6_sheet_61 : decode cX6_sheet 61 = .ok (.aload_n 0, 1) := chkD_at okX6_sheet_0 32 rfl
theorem dX6_sheet_62 : decode cX6_sheet 62 = .ok (.getfield 49, 3) := chkD_at okX6_sheet_0 33 rfl
theorem dX6_sheet_65 : decode cX6_sheet 65 = .ok (.iload_n 1, 1) := chkD_at okX6_sheet_0 34 rfl
theorem dX6_sheet_66 : decode cX6_sheet 66 = .ok (.aaload, 1) := chkD_at okX6_sheet_0 35 rfl
theorem dX6_sheet_67 : decode cX6_sheet 67 = .ok (.iload_n 2, 1) := chkD_at okX6_sheet_0 36 rfl
theorem dX6_sheet_68 : decode cX6_sheet 68 = .ok (.iload_n 3, 1) := chkD_at okX6_sheet_0 37 rfl
theorem dX6_sheet_69 : decode cX6_sheet 69 = .ok (.invokevirtual 249, 3) := chkD_at okX6_sheet_0 38 rfl
theorem dX6_sheet_72 : decode cX6_sheet 72 = .ok (.aload_n 0, 1) := chkD_at okX6_sheet_0 39 rfl
theorem dX6_sheet_73 : decode cX6_sheet 73 = .ok (.getfield 49, 3) := chkD_at okX6_sheet_0 40 rfl
theorem dX6_sheet_76 : decode cX6_sheet 76 = .ok (.iload_n 1, 1) := chkD_at okX6_sheet_0 41 rfl
theorem dX6_sheet_77 : decode cX6_sheet 77 = .ok (.aaload, 1) := chkD_at okX6_sheet_0 42 rfl
theorem dX6_sheet_78 : decode cX6_sheet 78 = .ok (.getfield 253, 3) := chkD_at okX6_sheet_0 43 rfl
theorem dX6_sheet_81 : decode cX6_sheet 81 = .ok (.ireturn, 1) := chkD_at okX6_sheet_0 44 rfl
theorem okX6_write_0 : chkD cX6_write [(0, .aload_n 0, 1), (1, .iload_n 1, 1), (2, .invokevirtual 254, 3), (5, .istore 5, 2), (7, .iload 5, 2), (9, .ifCond .eq 11, 3), (12, .aload_n 0, 1), (13, .iload 5, 2), (15, .invokevirtual 63, 3), (18, .i2l, 1), (19, .lreturn, 1), (20, .aload_n 0, 1), (21, .getfield 49, 3), (24, .iload_n 1, 1), (25, .aaload, 1), (26, .astore 6, 2), (28, .iload_n 2, 1), (29, .aload 6, 2), (31, .getfield 253, 3), (34, .invokestatic 58, 3), (37, .ifCond .ne 11, 3), (40, .aload_n 0, 1), (41, .ldc 62, 2), (43, .invokevirtual 63, 3), (46, .i2l, 1), (47, .lreturn, 1), (48, .aload 6, 2), (50, .getfield 257, 3), (53, .iload_n 2, 1), (54, .laload, 1), (55, .lstore 7, 2), (57, .aload 6, 2), (59, .iload_n 2, 1), (60, .lload_n 3, 1), (61, .invokevirtual 261, 3), (64, .lload 7, 2), (66, .lreturn, 1)] = true := by decide +kernel
theorem dX6_write_0 : decode cX6_write 0 = .ok (.aload_n 0, 1) := chkD_at okX6_write_0 0 rfl
theorem dX6_write_1 : decode cX6_write 1 = .ok (.iload_n 1, 1) := chkD_at okX6_write_0 1 rfl
theorem dX6_write_2 : decode cX6_write 2 = .ok (.invokevirtual 254, 3) := chkD_at okX6_write_0 2 rfl
theorem dX6_write_5 : decode cX6_write 5 = .ok (.istore 5, 2) := chkD_at okX6_write_0 3 rfl
theorem dX6_write_7 : decode cX6_write 7 = .ok (.iload 5, 2) := chkD_at okX6_write_0 4 rfl
theorem dX6_write_9 : decode cX6_write 9 = .ok (.ifCond .eq 11, 3) := chkD_at okX6_write_0 5 rfl
theorem dX6_write_12 : decode cX6_write 12 = .ok (.aload_n 0, 1) := chkD_at okX6_write_0 6 rfl
theorem dX6_write_13 : decode cX6_write 13 = .ok (.iload 5, 2) := chkD_at okX6_write_0 7 rfl
theorem dX6_write_15 : decode cX6_write 15 = .ok (.invokevirtual 63, 3) := chkD_at okX6_write_0 8 rfl
theorem dX6_write_18 : decode cX6_write 18 = .ok (.i2l, 1) := chkD_at okX6_write_0 9 rfl
theorem dX6_write_19 : decode cX6_write 19 = .ok (.lreturn, 1) := chkD_at okX6_write_0 10 rfl
theorem dX6_write_20 : decode cX6_write 20 = .ok (.aload_n 0, 1) := chkD_at okX6_write_0 11 rfl
theorem dX6_write_21 : decode cX6_write 21 = .ok (.getfield 49, 3) := chkD_at okX6_write_0 12 rfl
theorem dX6_write_24 : decode cX6_write 24 = .ok (.iload_n 1, 1) := chkD_at okX6_write_0 13 rfl
theorem dX6_write_25 : decode cX6_write 25 = .ok (.aaload, 1) := chkD_at okX6_write_0 14 rfl
theorem dX6_write_26 : decode cX6_write 26 = .ok (.astore 6, 2) := chkD_at okX6_write_0 15 rfl
theorem dX6_write_28 : decode cX6_write 28 = .ok (.iload_n 2, 1) := chkD_at okX6_write_0 16 rfl
theorem dX6_write_29 : decode cX6_write 29 = .ok (.aload 6, 2) := chkD_at okX6_write_0 17 rfl
theorem dX6_write_31 : decode cX6_write 31 = .ok (.getfield 253, 3) := chkD_at okX6_write_0 18 rfl
theorem dX6_write_34 : decode cX6_write 34 = .ok (.invokestatic 58, 3) := chkD_at okX6_write_0 19 rfl
theorem dX6_write_37 : decode cX6_write 37 = .ok (.ifCond .ne 11, 3) := chkD_at okX6_write_0 20 rfl
theorem dX6_write_40 : decode cX6_write 40 = .ok (.aload_n 0, 1) := chkD_at okX6_write_0 21 rfl
theorem dX6_write_41 : decode cX6_write 41 = .ok (.ldc 62, 2) := chkD_at okX6_write_0 22 rfl
theorem dX6_write_43 : decode cX6_write 43 = .ok (.invokevirtual 63, 3) := chkD_at okX6_write_0 23 rfl
theorem dX6_write_46 : decode cX6_write 46 = .ok (.i2l, 1) := chkD_at okX6_write_0 24 rfl
theorem dX6_write_47 : decode cX6_write 47 = .ok (.lreturn, 1) := chkD_at okX6_write_0 25 rfl
theorem dX6_write_48 : decode cX6_write 48 = .ok (.aload 6, 2) := chkD_at okX6_write_0 26 rfl
theorem dX6_write_50 : decode cX6_write 50 = .ok (.getfield 257, 3) := chkD_at okX6_write_0 27 rfl
theorem dX6_write_53 : decode cX6_write 53 = .ok (.iload_n 2, 1) := chkD_at okX6_write_0 28 rfl
theorem dX6_write_54 : decode cX6_write 54 = .ok (.laload, 1) := chkD_at okX6_write_0 29 rfl
theorem dX6_write_55 : decode cX6_write 55 = .ok (.lstore 7, 2) := chkD_at okX6_write_0 30 rfl
theorem dX6_write_57 : decode cX6_write 57 = .ok (.aload 6, 2) := chkD_at okX6_write_0 31 rfl
theorem dX6_write_59 : decode cX6_write 59 = .ok (.iload_n 2, 1) := chkD_at okX6_write_0 32 rfl
theorem dX6_write_60 : decode cX6_write 60 = .ok (.lload_n 3, 1) := chkD_at okX6_write_0 33 rfl
theorem dX6_write_61 : decode cX6_write 61 = .ok (.invokevirtual 261, 3) := chkD_at okX6_write_0 34 rfl
theorem dX6_write_64 : decode cX6_write 64 = .ok (.lload 7, 2) := chkD_at okX6_write_0 35 rfl
theorem dX6_write_66 : decode cX6_write 66 = .ok (.lreturn, 1) := chkD_at okX6_write_0 36 rfl
theorem okX6_copy_0 : chkD cX6_copy [(0, .iload_n 1, 1), (1, .iconst 4, 1), (2, .invokestatic 58, 3), (5, .ifCond .eq 11, 3), (8, .iload_n 3, 1), (9, .iconst 4, 1), (10, .invokestatic 58, 3), (13, .ifCond .ne 10, 3), (16, .aload_n 0, 1), (17, .ldc 62, 2), (19, .invokevirtual 63, 3), (22, .ireturn, 1), (23, .aload_n 0, 1), (24, .getfield 49, 3), (27, .iload_n 1, 1), (28, .aaload, 1), (29, .astore 6, 2), (31, .aload_n 0, 1), (32, .getfield 49, 3), (35, .iload_n 3, 1), (36, .aaload, 1), (37, .astore 7, 2), (39, .aload 6, 2), (41, .invokevirtual 264, 3), (44, .ifCond .ne 11, 3), (47, .aload 7, 2), (49, .invokevirtual 264, 3), (52, .ifCond .eq 11, 3), (55, .aload_n 0, 1), (56, .ldc_w 267, 3), (59, .invokevirtual 63, 3), (62, .ireturn, 1), (63, .aload 6, 2), (65, .getfield 268, 3), (68, .aload 7, 2), (70, .getfield 268, 3), (73, .if_icmp .eq 10, 3), (76, .aload_n 0, 1), (77, .ldc 170, 2), (79, .invokevirtual 63, 3), (82, .ireturn, 1), (83, .aload 6, 2), (85, .iload_n 2, 1), (86, .iload 5, 2), (88, .invokevirtual 271, 3), (91, .ifCond .eq 15, 3), (94, .aload 7, 2), (96, .iload 4, 2), (98, .iload 5, 2), (100, .invokevirtual 271, 3), (103, .ifCond .ne 10, 3), (106, .aload_n 0, 1), (107, .ldc 62, 2), (109, .invokevirtual 63, 3), (112, .ireturn, 1), (113, .aload 6, 2), (115, .getfield 257, 3), (118, .iload_n 2, 1), (119, .aload 7, 2), (121, .getfield 257, 3), (124, .iload 4, 2), (126, .iload 5, 2), (128, .invokestatic 274, 3), (131, .iload 5, 2), (133, .ireturn, 1)] = true := by decide +kernel
theorem dX6_copy_0 : decode cX6_copy 0 = .ok (.iload_n 1, 1) := chkD_at okX6_copy_0 0 rfl
theorem dX6_copy_1 : decode cX6_copy 1 = .ok (.iconst 4, 1) := chkD_at okX6_copy_0 1 rfl
theorem dX6_copy_2 : decode cX6_copy 2 = .ok (.invokestatic 58, 3) := chkD_at okX6_copy_0 2 rfl
theorem dX6_copy_5 : decode cX6_copy 5 = .ok (.ifCond .eq 11, 3) := chkD_at okX6_copy_0 3 rfl
theorem dX6_copy_8 : decode cX6_copy 8 = .ok (.iload_n 3, 1) := chkD_at okX6_copy_0 4 rfl
theorem dX6_copy_9 : decode cX6_copy 9 = .ok (.iconst 4, 1) := chkD_at okX6_copy_0 5 rfl
theorem dX6_copy_10 : decode cX6_copy 10 = .ok (.invokestatic 58, 3) := chkD_at okX6_copy_0 6 rfl
theorem dX6_copy_13 : decode cX6_copy 13 = .ok (.ifCond .ne 10, 3) := chkD_at okX6_copy_0 7 rfl
theorem dX6_copy_16 : decode cX6_copy 16 = .ok (.aload_n 0, 1) := chkD_at okX6_copy_0 8 rfl
theorem dX6_copy_17 : decode cX6_copy 17 = .ok (.ldc 62, 2) := chkD_at okX6_copy_0 9 rfl
theorem dX6_copy_19 : decode cX6_copy 19 = .ok (.invokevirtual 63, 3) := chkD_at okX6_copy_0 10 rfl
theorem dX6_copy_22 : decode cX6_copy 22 = .ok (.ireturn, 1) := chkD_at okX6_copy_0 11 rfl
theorem dX6_copy_23 : decode cX6_copy 23 = .ok (.aload_n 0, 1) := chkD_at okX6_copy_0 12 rfl
theorem dX6_copy_24 : decode cX6_copy 24 = .ok (.getfield 49, 3) := chkD_at okX6_copy_0 13 rfl
theorem dX6_copy_27 : decode cX6_copy 27 = .ok (.iload_n 1, 1) := chkD_at okX6_copy_0 14 rfl
theorem dX6_copy_28 : decode cX6_copy 28 = .ok (.aaload, 1) := chkD_at okX6_copy_0 15 rfl
theorem dX6_copy_29 : decode cX6_copy 29 = .ok (.astore 6, 2) := chkD_at okX6_copy_0 16 rfl
theorem dX6_copy_31 : decode cX6_copy 31 = .ok (.aload_n 0, 1) := chkD_at okX6_copy_0 17 rfl
theorem dX6_copy_32 : decode cX6_copy 32 = .ok (.getfield 49, 3) := chkD_at okX6_copy_0 18 rfl
theorem dX6_copy_35 : decode cX6_copy 35 = .ok (.iload_n 3, 1) := chkD_at okX6_copy_0 19 rfl
theorem dX6_copy_36 : decode cX6_copy 36 = .ok (.aaload, 1) := chkD_at okX6_copy_0 20 rfl
theorem dX6_copy_37 : decode cX6_copy 37 = .ok (.astore 7, 2) := chkD_at okX6_copy_0 21 rfl
theorem dX6_copy_39 : decode cX6_copy 39 = .ok (.aload 6, 2) := chkD_at okX6_copy_0 22 rfl
theorem dX6_copy_41 : decode cX6_copy 41 = .ok (.invokevirtual 264, 3) := chkD_at okX6_copy_0 23 rfl
theorem dX6_copy_44 : decode cX6_copy 44 = .ok (.ifCond .ne 11, 3) := chkD_at okX6_copy_0 24 rfl
theorem dX6_copy_47 : decode cX6_copy 47 = .ok (.aload 7, 2) := chkD_at okX6_copy_0 25 rfl
theorem dX6_copy_49 : decode cX6_copy 49 = .ok (.invokevirtual 264, 3) := chkD_at okX6_copy_0 26 rfl
theorem dX6_copy_52 : decode cX6_copy 52 = .ok (.ifCond .eq 11, 3) := chkD_at okX6_copy_0 27 rfl
theorem dX6_copy_55 : decode cX6_copy 55 = .ok (.aload_n 0, 1) := chkD_at okX6_copy_0 28 rfl
theorem dX6_copy_56 : decode cX6_copy 56 = .ok (.ldc_w 267, 3) := chkD_at okX6_copy_0 29 rfl
theorem dX6_copy_59 : decode cX6_copy 59 = .ok (.invokevirtual 63, 3) := chkD_at okX6_copy_0 30 rfl
theorem dX6_copy_62 : decode cX6_copy 62 = .ok (.ireturn, 1) := chkD_at okX6_copy_0 31 rfl
theorem dX6_copy_63 : decode cX6_copy 63 = .ok (.aload 6, 2) := chkD_at okX6_copy_0 32 rfl
theorem dX6_copy_65 : decode cX6_copy 65 = .ok (.getfield 268, 3) := chkD_at okX6_copy_0 33 rfl
theorem dX6_copy_68 : decode cX6_copy 68 = .ok (.aload 7, 2) := chkD_at okX6_copy_0 34 rfl
theorem dX6_copy_70 : decode cX6_copy 70 = .ok (.getfield 268, 3) := chkD_at okX6_copy_0 35 rfl
theorem dX6_copy_73 : decode cX6_copy 73 = .ok (.if_icmp .eq 10, 3) := chkD_at okX6_copy_0 36 rfl
theorem dX6_copy_76 : decode cX6_copy 76 = .ok (.aload_n 0, 1) := chkD_at okX6_copy_0 37 rfl
theorem dX6_copy_77 : decode cX6_copy 77 = .ok (.ldc 170, 2) := chkD_at okX6_copy_0 38 rfl
theorem dX6_copy_79 : decode cX6_copy 79 = .ok (.invokevirtual 63, 3) := chkD_at okX6_copy_0 39 rfl
theorem dX6_copy_82 : decode cX6_copy 82 = .ok (.ireturn, 1) := chkD_at okX6_copy_0 40 rfl
theorem dX6_copy_83 : decode cX6_copy 83 = .ok (.aload 6, 2) := chkD_at okX6_copy_0 41 rfl
theorem dX6_copy_85 : decode cX6_copy 85 = .ok (.iload_n 2, 1) := chkD_at okX6_copy_0 42 rfl
theorem dX6_copy_86 : decode cX6_copy 86 = .ok (.iload 5, 2) := chkD_at okX6_copy_0 43 rfl
theorem dX6_copy_88 : decode cX6_copy 88 = .ok (.invokevirtual 271, 3) := chkD_at okX6_copy_0 44 rfl
theorem dX6_copy_91 : decode cX6_copy 91 = .ok (.ifCond .eq 15, 3) := chkD_at okX6_copy_0 45 rfl
theorem dX6_copy_94 : decode cX6_copy 94 = .ok (.aload 7, 2) := chkD_at okX6_copy_0 46 rfl
theorem dX6_copy_96 : decode cX6_copy 96 = .ok (.iload 4, 2) := chkD_at okX6_copy_0 47 rfl
theorem dX6_copy_98 : decode cX6_copy 98 = .ok (.iload 5, 2) := chkD_at okX6_copy_0 48 rfl
theorem dX6_copy_100 : decode cX6_copy 100 = .ok (.invokevirtual 271, 3) := chkD_at okX6_copy_0 49 rfl
theorem dX6_copy_103 : decode cX6_copy 103 = .ok (.ifCond .ne 10, 3) := chkD_at okX6_copy_0 50 rfl
theorem dX6_copy_106 : decode cX6_copy 106 = .ok (.aload_n 0, 1) := chkD_at okX6_copy_0 51 rfl
theorem dX6_copy_107 : decode cX6_copy 107 = .ok (.ldc 62, 2) := chkD_at okX6_copy_0 52 rfl
theorem dX6_copy_109 : decode cX6_copy 109 = .ok (.invokevirtual 63, 3) := chkD_at okX6_copy_0 53 rfl
theorem dX6_copy_112 : decode cX6_copy 112 = .ok (.ireturn, 1) := chkD_at okX6_copy_0 54 rfl
theorem dX6_copy_113 : decode cX6_copy 113 = .ok (.aload 6, 2) := chkD_at okX6_copy_0 55 rfl
theorem dX6_copy_115 : decode cX6_copy 115 = .ok (.getfield 257, 3) := chkD_at okX6_copy_0 56 rfl
theorem dX6_copy_118 : decode cX6_copy 118 = .ok (.iload_n 2, 1) := chkD_at okX6_copy_0 57 rfl
theorem dX6_copy_119 : decode cX6_copy 119 = .ok (.aload 7, 2) := chkD_at okX6_copy_0 58 rfl
theorem dX6_copy_121 : decode cX6_copy 121 = .ok (.getfield 257, 3) := chkD_at okX6_copy_0 59 rfl
theorem dX6_copy_124 : decode cX6_copy 124 = .ok (.iload 4, 2) := chkD_at okX6_copy_0 60 rfl
theorem dX6_copy_126 : decode cX6_copy 126 = .ok (.iload 5, 2) := chkD_at okX6_copy_0 61 rfl
theorem dX6_copy_128 : decode cX6_copy 128 = .ok (.invokestatic 274, 3) := chkD_at okX6_copy_0 62 rfl
theorem dX6_copy_131 : decode cX6_copy 131 = .ok (.iload 5, 2) := chkD_at okX6_copy_0 63 rfl
theorem dX6_copy_133 : decode cX6_copy 133 = .ok (.ireturn, 1) := chkD_at okX6_copy_0 64 rfl
theorem okX6_lays_0 : chkD cX6_lays [(0, .aload_n 0, 1), (1, .iload_n 1, 1), (2, .invokevirtual 254, 3), (5, .istore_n 2, 1), (6, .iload_n 2, 1), (7, .ifCond .eq 9, 3), (10, .aload_n 0, 1), (11, .iload_n 2, 1), (12, .invokevirtual 63, 3), (15, .ireturn, 1), (16, .aload_n 0, 1), (17, .getfield 49, 3), (20, .iload_n 1, 1), (21, .aaload, 1), (22, .astore_n 3, 1), (23, .iconst 0, 1), (24, .istore 4, 2), (26, .iconst 0, 1), (27, .istore 5, 2), (29, .iload 5, 2), (31, .aload_n 3, 1), (32, .getfield 253, 3), (35, .if_icmp .ge 57, 3), (38, .iload 5, 2), (40, .bipush 8, 2), (42, .if_icmp .ge 50, 3), (45, .aload_n 3, 1), (46, .getfield 257, 3), (49, .iload 5, 2), (51, .laload, 1), (52, .lstore 6, 2), (54, .lload 6, 2), (56, .lconst 0, 1), (57, .lcmp, 1), (58, .ifCond .lt 28, 3), (61, .lload 6, 2), (63, .ldc2_w 280, 3), (66, .lcmp, 1), (67, .ifCond .gt 19, 3), (70, .aload_n 0, 1), (71, .getfield 12, 3), (74, .getfield 67, 3), (77, .iload 5, 2), (79, .lload 6, 2), (81, .l2i, 1), (82, .iastore, 1), (83, .iinc 4 1, 3), (86, .iinc 5 1, 3), (89, .goto (-60), 3), (92, .iload 4, 2), (94, .ireturn, 1)] = true := by decide +kernel
theorem dX6_lays_0 : decode cX6_lays 0 = .ok (.aload_n 0, 1) := chkD_at okX6_lays_0 0 rfl
theorem dX6_lays_1 : decode cX6_lays 1 = .ok (.iload_n 1, 1) := chkD_at okX6_lays_0 1 rfl
theorem dX6_lays_2 : decode cX6_lays 2 = .ok (.invokevirtual 254, 3) := chkD_at okX6_lays_0 2 rfl
theorem dX6_lays_5 : decode cX6_lays 5 = .ok (.istore_n 2, 1) := chkD_at okX6_lays_0 3 rfl
theorem dX6_lays_6 : decode cX6_lays 6 = .ok (.iload_n 2, 1) := chkD_at okX6_lays_0 4 rfl
theorem dX6_lays_7 : decode cX6_lays 7 = .ok (.ifCond .eq 9, 3) := chkD_at okX6_lays_0 5 rfl
theorem dX6_lays_10 : decode cX6_lays 10 = .ok (.aload_n 0, 1) := chkD_at okX6_lays_0 6 rfl
theorem dX6_lays_11 : decode cX6_lays 11 = .ok (.iload_n 2, 1) := chkD_at okX6_lays_0 7 rfl
theorem dX6_lays_12 : decode cX6_lays 12 = .ok (.invokevirtual 63, 3) := chkD_at okX6_lays_0 8 rfl
theorem dX6_lays_15 : decode cX6_lays 15 = .ok (.ireturn, 1) := chkD_at okX6_lays_0 9 rfl
theorem dX6_lays_16 : decode cX6_lays 16 = .ok (.aload_n 0, 1) := chkD_at okX6_lays_0 10 rfl
theorem dX6_lays_17 : decode cX6_lays 17 = .ok (.getfield 49, 3) := chkD_at okX6_lays_0 11 rfl
theorem dX6_lays_20 : decode cX6_lays 20 = .ok (.iload_n 1, 1) := chkD_at okX6_lays_0 12 rfl
theorem dX6_lays_21 : decode cX6_lays 21 = .ok (.aaload, 1) := chkD_at okX6_lays_0 13 rfl
theorem dX6_lays_22 : decode cX6_lays 22 = .ok (.astore_n 3, 1) := chkD_at okX6_lays_0 14 rfl
theorem dX6_lays_23 : decode cX6_lays 23 = .ok (.iconst 0, 1) := chkD_at okX6_lays_0 15 rfl
theorem dX6_lays_24 : decode cX6_lays 24 = .ok (.istore 4, 2) := chkD_at okX6_lays_0 16 rfl
theorem dX6_lays_26 : decode cX6_lays 26 = .ok (.iconst 0, 1) := chkD_at okX6_lays_0 17 rfl
theorem dX6_lays_27 : decode cX6_lays 27 = .ok (.istore 5, 2) := chkD_at okX6_lays_0 18 rfl
theorem dX6_lays_29 : decode cX6_lays 29 = .ok (.iload 5, 2) := chkD_at okX6_lays_0 19 rfl
theorem dX6_lays_31 : decode cX6_lays 31 = .ok (.aload_n 3, 1) := chkD_at okX6_lays_0 20 rfl
theorem dX6_lays_32 : decode cX6_lays 32 = .ok (.getfield 253, 3) := chkD_at okX6_lays_0 21 rfl
theorem dX6_lays_35 : decode cX6_lays 35 = .ok (.if_icmp .ge 57, 3) := chkD_at okX6_lays_0 22 rfl
theorem dX6_lays_38 : decode cX6_lays 38 = .ok (.iload 5, 2) := chkD_at okX6_lays_0 23 rfl
theorem dX6_lays_40 : decode cX6_lays 40 = .ok (.bipush 8, 2) := chkD_at okX6_lays_0 24 rfl
theorem dX6_lays_42 : decode cX6_lays 42 = .ok (.if_icmp .ge 50, 3) := chkD_at okX6_lays_0 25 rfl
theorem dX6_lays_45 : decode cX6_lays 45 = .ok (.aload_n 3, 1) := chkD_at okX6_lays_0 26 rfl
theorem dX6_lays_46 : decode cX6_lays 46 = .ok (.getfield 257, 3) := chkD_at okX6_lays_0 27 rfl
theorem dX6_lays_49 : decode cX6_lays 49 = .ok (.iload 5, 2) := chkD_at okX6_lays_0 28 rfl
theorem dX6_lays_51 : decode cX6_lays 51 = .ok (.laload, 1) := chkD_at okX6_lays_0 29 rfl
theorem dX6_lays_52 : decode cX6_lays 52 = .ok (.lstore 6, 2) := chkD_at okX6_lays_0 30 rfl
theorem dX6_lays_54 : decode cX6_lays 54 = .ok (.lload 6, 2) := chkD_at okX6_lays_0 31 rfl
theorem dX6_lays_56 : decode cX6_lays 56 = .ok (.lconst 0, 1) := chkD_at okX6_lays_0 32 rfl
theorem dX6_lays_57 : decode cX6_lays 57 = .ok (.lcmp, 1) := chkD_at okX6_lays_0 33 rfl
theorem dX6_lays_58 : decode cX6_lays 58 = .ok (.ifCond .lt 28, 3) := chkD_at okX6_lays_0 34 rfl
theorem dX6_lays_61 : decode cX6_lays 61 = .ok (.lload 6, 2) := chkD_at okX6_lays_0 35 rfl
theorem dX6_lays_63 : decode cX6_lays 63 = .ok (.ldc2_w 280, 3) := chkD_at okX6_lays_0 36 rfl
theorem dX6_lays_66 : decode cX6_lays 66 = .ok (.lcmp, 1) := chkD_at okX6_lays_0 37 rfl
theorem dX6_lays_67 : decode cX6_lays 67 = .ok (.ifCond .gt 19, 3) := chkD_at okX6_lays_0 38 rfl
theorem dX6_lays_70 : decode cX6_lays 70 = .ok (.aload_n 0, 1) := chkD_at okX6_lays_0 39 rfl
theorem dX6_lays_71 : decode cX6_lays 71 = .ok (.getfield 12, 3) := chkD_at okX6_lays_0 40 rfl
theorem dX6_lays_74 : decode cX6_lays 74 = .ok (.getfield 67, 3) := chkD_at okX6_lays_0 41 rfl
theorem dX6_lays_77 : decode cX6_lays 77 = .ok (.iload 5, 2) := chkD_at okX6_lays_0 42 rfl
theorem dX6_lays_79 : decode cX6_lays 79 = .ok (.lload 6, 2) := chkD_at okX6_lays_0 43 rfl
theorem dX6_lays_81 : decode cX6_lays 81 = .ok (.l2i, 1) := chkD_at okX6_lays_0 44 rfl
theorem dX6_lays_82 : decode cX6_lays 82 = .ok (.iastore, 1) := chkD_at okX6_lays_0 45 rfl
theorem dX6_lays_83 : decode cX6_lays 83 = .ok (.iinc 4 1, 3) := chkD_at okX6_lays_0 46 rfl
theorem dX6_lays_86 : decode cX6_lays 86 = .ok (.iinc 5 1, 3) := chkD_at okX6_lays_0 47 rfl
theorem dX6_lays_89 : decode cX6_lays 89 = .ok (.goto (-60), 3) := chkD_at okX6_lays_0 48 rfl
theorem dX6_lays_92 : decode cX6_lays 92 = .ok (.iload 4, 2) := chkD_at okX6_lays_0 49 rfl
theorem dX6_lays_94 : decode cX6_lays 94 = .ok (.ireturn, 1) := chkD_at okX6_lays_0 50 rfl
theorem okX6_menu_0 : chkD cX6_menu [(0, .aload_n 0, 1), (1, .iload_n 1, 1), (2, .iload_n 2, 1), (3, .invokevirtual 282, 3), (6, .istore_n 3, 1), (7, .iload_n 3, 1), (8, .ifCond .eq 9, 3), (11, .aload_n 0, 1), (12, .iload_n 3, 1), (13, .invokevirtual 63, 3), (16, .ireturn, 1), (17, .aload_n 0, 1), (18, .getfield 49, 3), (21, .iload_n 1, 1), (22, .aaload, 1), (23, .astore 4, 2), (25, .aload_n 0, 1), (26, .getfield 29, 3), (29, .aload_n 0, 1), (30, .getfield 12, 3), (33, .invokevirtual 114, 3), (36, .iconst 0, 1), (37, .istore 5, 2), (39, .iload 5, 2), (41, .aload 4, 2), (43, .getfield 253, 3), (46, .if_icmp .ge 37, 3), (49, .aload_n 0, 1), (50, .getfield 29, 3), (53, .iload_n 2, 1), (54, .invokevirtual 201, 3), (57, .istore 6, 2), (59, .iload 6, 2), (61, .ifCond .ge 6, 3), (64, .iload 5, 2), (66, .ireturn, 1), (67, .aload 4, 2), (69, .iload 5, 2), (71, .iload 6, 2), (73, .i2l, 1), (74, .invokevirtual 261, 3), (77, .iinc 5 1, 3), (80, .goto (-41), 3), (83, .aload 4, 2), (85, .getfield 253, 3), (88, .ireturn, 1)] = true := by decide +kernel
theorem dX6_menu_0 : decode cX6_menu 0 = .ok (.aload_n 0, 1) := chkD_at okX6_menu_0 0 rfl
theorem dX6_menu_1 : decode cX6_menu 1 = .ok (.iload_n 1, 1) := chkD_at okX6_menu_0 1 rfl
theorem dX6_menu_2 : decode cX6_menu 2 = .ok (.iload_n 2, 1) := chkD_at okX6_menu_0 2 rfl
theorem dX6_menu_3 : decode cX6_menu 3 = .ok (.invokevirtual 282, 3) := chkD_at okX6_menu_0 3 rfl
theorem dX6_menu_6 : decode cX6_menu 6 = .ok (.istore_n 3, 1) := chkD_at okX6_menu_0 4 rfl
theorem dX6_menu_7 : decode cX6_menu 7 = .ok (.iload_n 3, 1) := chkD_at okX6_menu_0 5 rfl
theorem dX6_menu_8 : decode cX6_menu 8 = .ok (.ifCond .eq 9, 3) := chkD_at okX6_menu_0 6 rfl
theorem dX6_menu_11 : decode cX6_menu 11 = .ok (.aload_n 0, 1) := chkD_at okX6_menu_0 7 rfl
theorem dX6_menu_12 : decode cX6_menu 12 = .ok (.iload_n 3, 1) := chkD_at okX6_menu_0 8 rfl
theorem dX6_menu_13 : decode cX6_menu 13 = .ok (.invokevirtual 63, 3) := chkD_at okX6_menu_0 9 rfl
theorem dX6_menu_16 : decode cX6_menu 16 = .ok (.ireturn, 1) := chkD_at okX6_menu_0 10 rfl
theorem dX6_menu_17 : decode cX6_menu 17 = .ok (.aload_n 0, 1) := chkD_at okX6_menu_0 11 rfl
theorem dX6_menu_18 : decode cX6_menu 18 = .ok (.getfield 49, 3) := chkD_at okX6_menu_0 12 rfl
theorem dX6_menu_21 : decode cX6_menu 21 = .ok (.iload_n 1, 1) := chkD_at okX6_menu_0 13 rfl
theorem dX6_menu_22 : decode cX6_menu 22 = .ok (.aaload, 1) := chkD_at okX6_menu_0 14 rfl
theorem dX6_menu_23 : decode cX6_menu 23 = .ok (.astore 4, 2) := chkD_at okX6_menu_0 15 rfl
theorem dX6_menu_25 : decode cX6_menu 25 = .ok (.aload_n 0, 1) := chkD_at okX6_menu_0 16 rfl
theorem dX6_menu_26 : decode cX6_menu 26 = .ok (.getfield 29, 3) := chkD_at okX6_menu_0 17 rfl
theorem dX6_menu_29 : decode cX6_menu 29 = .ok (.aload_n 0, 1) := chkD_at okX6_menu_0 18 rfl
theorem dX6_menu_30 : decode cX6_menu 30 = .ok (.getfield 12, 3) := chkD_at okX6_menu_0 19 rfl
theorem dX6_menu_33 : decode cX6_menu 33 = .ok (.invokevirtual 114, 3) := chkD_at okX6_menu_0 20 rfl
theorem dX6_menu_36 : decode cX6_menu 36 = .ok (.iconst 0, 1) := chkD_at okX6_menu_0 21 rfl
theorem dX6_menu_37 : decode cX6_menu 37 = .ok (.istore 5, 2) := chkD_at okX6_menu_0 22 rfl
theorem dX6_menu_39 : decode cX6_menu 39 = .ok (.iload 5, 2) := chkD_at okX6_menu_0 23 rfl
theorem dX6_menu_41 : decode cX6_menu 41 = .ok (.aload 4, 2) := chkD_at okX6_menu_0 24 rfl
theorem dX6_menu_43 : decode cX6_menu 43 = .ok (.getfield 253, 3) := chkD_at okX6_menu_0 25 rfl
theorem dX6_menu_46 : decode cX6_menu 46 = .ok (.if_icmp .ge 37, 3) := chkD_at okX6_menu_0 26 rfl
theorem dX6_menu_49 : decode cX6_menu 49 = .ok (.aload_n 0, 1) := chkD_at okX6_menu_0 27 rfl
theorem dX6_menu_50 : decode cX6_menu 50 = .ok (.getfield 29, 3) := chkD_at okX6_menu_0 28 rfl
theorem dX6_menu_53 : decode cX6_menu 53 = .ok (.iload_n 2, 1) := chkD_at okX6_menu_0 29 rfl
theorem dX6_menu_54 : decode cX6_menu 54 = .ok (.invokevirtual 201, 3) := chkD_at okX6_menu_0 30 rfl
theorem dX6_menu_57 : decode cX6_menu 57 = .ok (.istore 6, 2) := chkD_at okX6_menu_0 31 rfl
theorem dX6_menu_59 : decode cX6_menu 59 = .ok (.iload 6, 2) := chkD_at okX6_menu_0 32 rfl
theorem dX6_menu_61 : decode cX6_menu 61 = .ok (.ifCond .ge 6, 3) := chkD_at okX6_menu_0 33 rfl
theorem dX6_menu_64 : decode cX6_menu 64 = .ok (.iload 5, 2) := chkD_at okX6_menu_0 34 rfl
theorem dX6_menu_66 : decode cX6_menu 66 = .ok (.ireturn, 1) := chkD_at okX6_menu_0 35 rfl
theorem dX6_menu_67 : decode cX6_menu 67 = .ok (.aload 4, 2) := chkD_at okX6_menu_0 36 rfl
theorem dX6_menu_69 : decode cX6_menu 69 = .ok (.iload 5, 2) := chkD_at okX6_menu_0 37 rfl
theorem dX6_menu_71 : decode cX6_menu 71 = .ok (.iload 6, 2) := chkD_at okX6_menu_0 38 rfl
theorem dX6_menu_73 : decode cX6_menu 73 = .ok (.i2l, 1) := chkD_at okX6_menu_0 39 rfl
theorem dX6_menu_74 : decode cX6_menu 74 = .ok (.invokevirtual 261, 3) := chkD_at okX6_menu_0 40 rfl
theorem dX6_menu_77 : decode cX6_menu 77 = .ok (.iinc 5 1, 3) := chkD_at okX6_menu_0 41 rfl
theorem dX6_menu_80 : decode cX6_menu 80 = .ok (.goto (-41), 3) := chkD_at okX6_menu_0 42 rfl
theorem dX6_menu_83 : decode cX6_menu 83 = .ok (.aload 4, 2) := chkD_at okX6_menu_0 43 rfl
theorem dX6_menu_85 : decode cX6_menu 85 = .ok (.getfield 253, 3) := chkD_at okX6_menu_0 44 rfl
theorem dX6_menu_88 : decode cX6_menu 88 = .ok (.ireturn, 1) := chkD_at okX6_menu_0 45 rfl
theorem okX6_read_0 : chkD cX6_read [(0, .aload_n 0, 1), (1, .iload_n 1, 1), (2, .iload_n 2, 1), (3, .invokevirtual 282, 3), (6, .istore_n 3, 1), (7, .iload_n 3, 1), (8, .ifCond .eq 9, 3), (11, .aload_n 0, 1), (12, .iload_n 3, 1), (13, .invokevirtual 63, 3), (16, .ireturn, 1), (17, .aload_n 0, 1), (18, .getfield 49, 3), (21, .iload_n 1, 1), (22, .aaload, 1), (23, .astore 4, 2), (25, .aload_n 0, 1), (26, .getfield 29, 3), (29, .aload_n 0, 1), (30, .getfield 12, 3), (33, .invokevirtual 114, 3), (36, .iconst 0, 1), (37, .istore 5, 2), (39, .iload 5, 2), (41, .aload 4, 2), (43, .getfield 253, 3), (46, .if_icmp .ge 74, 3), (49, .aload 4, 2), (51, .getfield 257, 3), (54, .iload 5, 2), (56, .laload, 1), (57, .lstore 6, 2), (59, .lload 6, 2), (61, .lconst 0, 1), (62, .lcmp, 1), (63, .ifCond .lt 35, 3), (66, .lload 6, 2), (68, .ldc2_w 285, 3), (71, .lcmp, 1), (72, .ifCond .gt 26, 3), (75, .lload 6, 2), (77, .l2i, 1), (78, .invokestatic 86, 3), (81, .ifCond .eq 17, 3), (84, .aload_n 0, 1), (85, .getfield 29, 3), (88, .iload_n 2, 1), (89, .lload 6, 2), (91, .l2i, 1), (92, .invokevirtual 287, 3), (95, .ifCond .ne 8, 3), (98, .iconst 1, 1), (99, .iload 5, 2), (101, .iadd, 1), (102, .ireturn, 1), (103, .aload_n 0, 1), (104, .getfield 29, 3), (107, .iload_n 2, 1), (108, .lload 6, 2), (110, .l2i, 1), (111, .invokevirtual 290, 3), (114, .iinc 5 1, 3), (117, .goto (-78), 3), (120, .iconst 0, 1), (121, .ireturn, 1)] = true := by decide +kernel
theorem dX6_read_0 : decode cX6_read 0 = .ok (.aload_n 0, 1) := chkD_at okX6_read_0 0 rfl
theorem dX6_read_1 : decode cX6_read 1 = .ok (.iload_n 1, 1) := chkD_at okX6_read_0 1 rfl
theorem dX6_read_2 : decode cX6_read 2 = .ok (.iload_n 2, 1) := chkD_at okX6_read_0 2 rfl
theorem dX6_read_3 : decode cX6_read 3 = .ok (.invokevirtual 282, 3) := chkD_at okX6_read_0 3 rfl
theorem dX6_read_6 : decode cX6_read 6 = .ok (.istore_n 3, 1) := chkD_at okX6_read_0 4 rfl
theorem dX6_read_7 : decode cX6_read 7 = .ok (.iload_n 3, 1) := chkD_at okX6_read_0 5 rfl
theorem dX6_read_8 : decode cX6_read 8 = .ok (.ifCond .eq 9, 3) := chkD_at okX6_read_0 6 rfl
theorem dX6_read_11 : decode cX6_read 11 = .ok (.aload_n 0, 1) := chkD_at okX6_read_0 7 rfl
theorem dX6_read_12 : decode cX6_read 12 = .ok (.iload_n 3, 1) := chkD_at okX6_read_0 8 rfl
theorem dX6_read_13 : decode cX6_read 13 = .ok (.invokevirtual 63, 3) := chkD_at okX6_read_0 9 rfl
theorem dX6_read_16 : decode cX6_read 16 = .ok (.ireturn, 1) := chkD_at okX6_read_0 10 rfl
theorem dX6_read_17 : decode cX6_read 17 = .ok (.aload_n 0, 1) := chkD_at okX6_read_0 11 rfl
theorem dX6_read_18 : decode cX6_read 18 = .ok (.getfield 49, 3) := chkD_at okX6_read_0 12 rfl
theorem dX6_read_21 : decode cX6_read 21 = .ok (.iload_n 1, 1) := chkD_at okX6_read_0 13 rfl
theorem dX6_read_22 : decode cX6_read 22 = .ok (.aaload, 1) := chkD_at okX6_read_0 14 rfl
theorem dX6_read_23 : decode cX6_read 23 = .ok (.astore 4, 2) := chkD_at okX6_read_0 15 rfl
theorem dX6_read_25 : decode cX6_read 25 = .ok (.aload_n 0, 1) := chkD_at okX6_read_0 16 rfl
theorem dX6_read_26 : decode cX6_read 26 = .ok (.getfield 29, 3) := chkD_at okX6_read_0 17 rfl
theorem dX6_read_29 : decode cX6_read 29 = .ok (.aload_n 0, 1) := chkD_at okX6_read_0 18 rfl
theorem dX6_read_30 : decode cX6_read 30 = .ok (.getfield 12, 3) := chkD_at okX6_read_0 19 rfl
theorem dX6_read_33 : decode cX6_read 33 = .ok (.invokevirtual 114, 3) := chkD_at okX6_read_0 20 rfl
theorem dX6_read_36 : decode cX6_read 36 = .ok (.iconst 0, 1) := chkD_at okX6_read_0 21 rfl
theorem dX6_read_37 : decode cX6_read 37 = .ok (.istore 5, 2) := chkD_at okX6_read_0 22 rfl
theorem dX6_read_39 : decode cX6_read 39 = .ok (.iload 5, 2) := chkD_at okX6_read_0 23 rfl
theorem dX6_read_41 : decode cX6_read 41 = .ok (.aload 4, 2) := chkD_at okX6_read_0 24 rfl
theorem dX6_read_43 : decode cX6_read 43 = .ok (.getfield 253, 3) := chkD_at okX6_read_0 25 rfl
theorem dX6_read_46 : decode cX6_read 46 = .ok (.if_icmp .ge 74, 3) := chkD_at okX6_read_0 26 rfl
theorem dX6_read_49 : decode cX6_read 49 = .ok (.aload 4, 2) := chkD_at okX6_read_0 27 rfl
theorem dX6_read_51 : decode cX6_read 51 = .ok (.getfield 257, 3) := chkD_at okX6_read_0 28 rfl
theorem dX6_read_54 : decode cX6_read 54 = .ok (.iload 5, 2) := chkD_at okX6_read_0 29 rfl
theorem dX6_read_56 : decode cX6_read 56 = .ok (.laload, 1) := chkD_at okX6_read_0 30 rfl
theorem dX6_read_57 : decode cX6_read 57 = .ok (.lstore 6, 2) := chkD_at okX6_read_0 31 rfl
theorem dX6_read_59 : decode cX6_read 59 = .ok (.lload 6, 2) := chkD_at okX6_read_0 32 rfl
theorem dX6_read_61 : decode cX6_read 61 = .ok (.lconst 0, 1) := chkD_at okX6_read_0 33 rfl
theorem dX6_read_62 : decode cX6_read 62 = .ok (.lcmp, 1) := chkD_at okX6_read_0 34 rfl
theorem dX6_read_63 : decode cX6_read 63 = .ok (.ifCond .lt 35, 3) := chkD_at okX6_read_0 35 rfl
theorem dX6_read_66 : decode cX6_read 66 = .ok (.lload 6, 2) := chkD_at okX6_read_0 36 rfl
theorem dX6_read_68 : decode cX6_read 68 = .ok (.ldc2_w 285, 3) := chkD_at okX6_read_0 37 rfl
theorem dX6_read_71 : decode cX6_read 71 = .ok (.lcmp, 1) := chkD_at okX6_read_0 38 rfl
theorem dX6_read_72 : decode cX6_read 72 = .ok (.ifCond .gt 26, 3) := chkD_at okX6_read_0 39 rfl
theorem dX6_read_75 : decode cX6_read 75 = .ok (.lload 6, 2) := chkD_at okX6_read_0 40 rfl
theorem dX6_read_77 : decode cX6_read 77 = .ok (.l2i, 1) := chkD_at okX6_read_0 41 rfl
theorem dX6_read_78 : decode cX6_read 78 = .ok (.invokestatic 86, 3) := chkD_at okX6_read_0 42 rfl
theorem dX6_read_81 : decode cX6_read 81 = .ok (.ifCond .eq 17, 3) := chkD_at okX6_read_0 43 rfl
theorem dX6_read_84 : decode cX6_read 84 = .ok (.aload_n 0, 1) := chkD_at okX6_read_0 44 rfl
theorem dX6_read_85 : decode cX6_read 85 = .ok (.getfield 29, 3) := chkD_at okX6_read_0 45 rfl
theorem dX6_read_88 : decode cX6_read 88 = .ok (.iload_n 2, 1) := chkD_at okX6_read_0 46 rfl
theorem dX6_read_89 : decode cX6_read 89 = .ok (.lload 6, 2) := chkD_at okX6_read_0 47 rfl
theorem dX6_read_91 : decode cX6_read 91 = .ok (.l2i, 1) := chkD_at okX6_read_0 48 rfl
theorem dX6_read_92 : decode cX6_read 92 = .ok (.invokevirtual 287, 3) := chkD_at okX6_read_0 49 rfl
theorem dX6_read_95 : decode cX6_read 95 = .ok (.ifCond .ne 8, 3) := chkD_at okX6_read_0 50 rfl
theorem dX6_read_98 : decode cX6_read 98 = .ok (.iconst 1, 1) := chkD_at okX6_read_0 51 rfl
theorem dX6_read_99 : decode cX6_read 99 = .ok (.iload 5, 2) := chkD_at okX6_read_0 52 rfl
theorem dX6_read_101 : decode cX6_read 101 = .ok (.iadd, 1) := chkD_at okX6_read_0 53 rfl
theorem dX6_read_102 : decode cX6_read 102 = .ok (.ireturn, 1) := chkD_at okX6_read_0 54 rfl
theorem dX6_read_103 : decode cX6_read 103 = .ok (.aload_n 0, 1) := chkD_at okX6_read_0 55 rfl
theorem dX6_read_104 : decode cX6_read 104 = .ok (.getfield 29, 3) := chkD_at okX6_read_0 56 rfl
theorem dX6_read_107 : decode cX6_read 107 = .ok (.iload_n 2, 1) := chkD_at okX6_read_0 57 rfl
theorem dX6_read_108 : decode cX6_read 108 = .ok (.lload 6, 2) := chkD_at okX6_read_0 58 rfl
theorem dX6_read_110 : decode cX6_read 110 = .ok (.l2i, 1) := chkD_at okX6_read_0 59 rfl
theorem dX6_read_111 : decode cX6_read 111 = .ok (.invokevirtual 290, 3) := chkD_at okX6_read_0 60 rfl
theorem dX6_read_114 : decode cX6_read 114 = .ok (.iinc 5 1, 3) := chkD_at okX6_read_0 61 rfl
theorem dX6_read_117 : decode cX6_read 117 = .ok (.goto (-78), 3) := chkD_at okX6_read_0 62 rfl
theorem dX6_read_120 : decode cX6_read 120 = .ok (.iconst 0, 1) := chkD_at okX6_read_0 63 rfl
theorem dX6_read_121 : decode cX6_read 121 = .ok (.ireturn, 1) := chkD_at okX6_read_0 64 rfl
theorem okX6_image_0 : chkD cX6_image [(0, .aload_n 0, 1), (1, .getfield 16, 3), (4, .aload_n 0, 1), (5, .getfield 12, 3), (8, .invokevirtual 241, 3), (11, .aload_n 0, 1), (12, .iconst 1, 1), (13, .putfield 22, 3), (16, .iconst 1, 1), (17, .ireturn, 1)] = true := by decide +kernel
theorem dX6_image_0 : decode cX6_image 0 = .ok (.aload_n 0, 1) := chkD_at okX6_image_0 0 rfl
theorem dX6_image_1 : decode cX6_image 1 = .ok (.getfield 16, 3) := chkD_at okX6_image_0 1 rfl
theorem dX6_image_4 : decode cX6_image 4 = .ok (.aload_n 0, 1) := chkD_at okX6_image_0 2 rfl
theorem dX6_image_5 : decode cX6_image 5 = .ok (.getfield 12, 3) := chkD_at okX6_image_0 3 rfl
theorem dX6_image_8 : decode cX6_image 8 = .ok (.invokevirtual 241, 3) := chkD_at okX6_image_0 4 rfl
theorem dX6_image_11 : decode cX6_image 11 = .ok (.aload_n 0, 1) := chkD_at okX6_image_0 5 rfl
theorem dX6_image_12 : decode cX6_image 12 = .ok (.iconst 1, 1) := chkD_at okX6_image_0 6 rfl
theorem dX6_image_13 : decode cX6_image 13 = .ok (.putfield 22, 3) := chkD_at okX6_image_0 7 rfl
theorem dX6_image_16 : decode cX6_image 16 = .ok (.iconst 1, 1) := chkD_at okX6_image_0 8 rfl
theorem dX6_image_17 : decode cX6_image 17 = .ok (.ireturn, 1) := chkD_at okX6_image_0 9 rfl
theorem okX6_undo_0 : chkD cX6_undo [(0, .aload_n 0, 1), (1, .getfield 22, 3), (4, .ifCond .ne 10, 3), (7, .aload_n 0, 1), (8, .ldc 171, 2), (10, .invokevirtual 63, 3), (13, .ireturn, 1), (14, .aload_n 0, 1), (15, .getfield 12, 3), (18, .aload_n 0, 1), (19, .getfield 16, 3), (22, .invokevirtual 241, 3), (25, .aload_n 0, 1), (26, .getfield 12, 3), (29, .getfield 148, 3), (32, .ireturn, 1)] = true := by decide +kernel
theorem dX6_undo_0 : decode cX6_undo 0 = .ok (.aload_n 0, 1) := chkD_at okX6_undo_0 0 rfl
theorem dX6_undo_1 : decode cX6_undo 1 = .ok (.getfield 22, 3) := chkD_at okX6_undo_0 1 rfl
theorem dX6_undo_4 : decode cX6_undo 4 = .ok (.ifCond .ne 10, 3) := chkD_at okX6_undo_0 2 rfl
theorem dX6_undo_7 : decode cX6_undo 7 = .ok (.aload_n 0, 1) := chkD_at okX6_undo_0 3 rfl
theorem dX6_undo_8 : decode cX6_undo 8 = .ok (.ldc 171, 2) := chkD_at okX6_undo_0 4 rfl
theorem dX6_undo_10 : decode cX6_undo 10 = .ok (.invokevirtual 63, 3) := chkD_at okX6_undo_0 5 rfl
theorem dX6_undo_13 : decode cX6_undo 13 = .ok (.ireturn, 1) := chkD_at okX6_undo_0 6 rfl
theorem dX6_undo_14 : decode cX6_undo 14 = .ok (.aload_n 0, 1) := chkD_at okX6_undo_0 7 rfl
theorem dX6_undo_15 : decode cX6_undo 15 = .ok (.getfield 12, 3) := chkD_at okX6_undo_0 8 rfl
theorem dX6_undo_18 : decode cX6_undo 18 = .ok (.aload_n 0, 1) := chkD_at okX6_undo_0 9 rfl
theorem dX6_undo_19 : decode cX6_undo 19 = .ok (.getfield 16, 3) := chkD_at okX6_undo_0 10 rfl
theorem dX6_undo_22 : decode cX6_undo 22 = .ok (.invokevirtual 241, 3) := chkD_at okX6_undo_0 11 rfl
theorem dX6_undo_25 : decode cX6_undo 25 = .ok (.aload_n 0, 1) := chkD_at okX6_undo_0 12 rfl
theorem dX6_undo_26 : decode cX6_undo 26 = .ok (.getfield 12, 3) := chkD_at okX6_undo_0 13 rfl
theorem dX6_undo_29 : decode cX6_undo 29 = .ok (.getfield 148, 3) := chkD_at okX6_undo_0 14 rfl
theorem dX6_undo_32 : decode cX6_undo 32 = .ok (.ireturn, 1) := chkD_at okX6_undo_0 15 rfl
theorem okX6_tear_0 : chkD cX6_tear [(0, .aload_n 0, 1), (1, .getfield 22, 3), (4, .ifCond .eq 7, 3), (7, .iconst 1, 1), (8, .goto 4, 3), (11, .iconst 0, 1), (12, .istore_n 1, 1), (13, .aload_n 0, 1), (14, .iconst 0, 1), (15, .putfield 22, 3), (18, .iload_n 1, 1), (19, .ireturn, 1)] = true := by decide +kernel
theorem dX6_tear_0 : decode cX6_tear 0 = .ok (.aload_n 0, 1) := chkD_at okX6_tear_0 0 rfl
theorem dX6_tear_1 : decode cX6_tear 1 = .ok (.getfield 22, 3) := chkD_at okX6_tear_0 1 rfl
theorem dX6_tear_4 : decode cX6_tear 4 = .ok (.ifCond .eq 7, 3) := chkD_at okX6_tear_0 2 rfl
theorem dX6_tear_7 : decode cX6_tear 7 = .ok (.iconst 1, 1) := chkD_at okX6_tear_0 3 rfl
theorem dX6_tear_8 : decode cX6_tear 8 = .ok (.goto 4, 3) := chkD_at okX6_tear_0 4 rfl
theorem dX6_tear_11 : decode cX6_tear 11 = .ok (.iconst 0, 1) := chkD_at okX6_tear_0 5 rfl
theorem dX6_tear_12 : decode cX6_tear 12 = .ok (.istore_n 1, 1) := chkD_at okX6_tear_0 6 rfl
theorem dX6_tear_13 : decode cX6_tear 13 = .ok (.aload_n 0, 1) := chkD_at okX6_tear_0 7 rfl
theorem dX6_tear_14 : decode cX6_tear 14 = .ok (.iconst 0, 1) := chkD_at okX6_tear_0 8 rfl
theorem dX6_tear_15 : decode cX6_tear 15 = .ok (.putfield 22, 3) := chkD_at okX6_tear_0 9 rfl
theorem dX6_tear_18 : decode cX6_tear 18 = .ok (.iload_n 1, 1) := chkD_at okX6_tear_0 10 rfl
theorem dX6_tear_19 : decode cX6_tear 19 = .ok (.ireturn, 1) := chkD_at okX6_tear_0 11 rfl
theorem okX6_count_0 : chkD cX6_count [(0, .iload_n 1, 1), (1, .lookupswitch 46 #[(0, 27), (1, 35)], 27), (28, .aload_n 0, 1), (29, .getfield 43, 3), (32, .getfield 234, 3), (35, .ireturn, 1), (36, .aload_n 0, 1), (37, .getfield 12, 3), (40, .getfield 161, 3), (43, .invokestatic 293, 3), (46, .ireturn, 1), (47, .aload_n 0, 1), (48, .ldc 62, 2), (50, .invokevirtual 63, 3), (53, .ireturn, 1)] = true := by decide +kernel
theorem dX6_count_0 : decode cX6_count 0 = .ok (.iload_n 1, 1) := chkD_at okX6_count_0 0 rfl
theorem dX6_count_1 : decode cX6_count 1 = .ok (.lookupswitch 46 #[(0, 27), (1, 35)], 27) := chkD_at okX6_count_0 1 rfl
theorem dX6_count_28 : decode cX6_count 28 = .ok (.aload_n 0, 1) := chkD_at okX6_count_0 2 rfl
theorem dX6_count_29 : decode cX6_count 29 = .ok (.getfield 43, 3) := chkD_at okX6_count_0 3 rfl
theorem dX6_count_32 : decode cX6_count 32 = .ok (.getfield 234, 3) := chkD_at okX6_count_0 4 rfl
theorem dX6_count_35 : decode cX6_count 35 = .ok (.ireturn, 1) := chkD_at okX6_count_0 5 rfl
theorem dX6_count_36 : decode cX6_count 36 = .ok (.aload_n 0, 1) := chkD_at okX6_count_0 6 rfl
theorem dX6_count_37 : decode cX6_count 37 = .ok (.getfield 12, 3) := chkD_at okX6_count_0 7 rfl
theorem dX6_count_40 : decode cX6_count 40 = .ok (.getfield 161, 3) := chkD_at okX6_count_0 8 rfl
theorem dX6_count_43 : decode cX6_count 43 = .ok (.invokestatic 293, 3) := chkD_at okX6_count_0 9 rfl
theorem dX6_count_46 : decode cX6_count 46 = .ok (.ireturn, 1) := chkD_at okX6_count_0 10 rfl
theorem dX6_count_47 : decode cX6_count 47 = .ok (.aload_n 0, 1) := chkD_at okX6_count_0 11 rfl
theorem dX6_count_48 : decode cX6_count 48 = .ok (.ldc 62, 2) := chkD_at okX6_count_0 12 rfl
theorem dX6_count_50 : decode cX6_count 50 = .ok (.invokevirtual 63, 3) := chkD_at okX6_count_0 13 rfl
theorem dX6_count_53 : decode cX6_count 53 = .ok (.ireturn, 1) := chkD_at okX6_count_0 14 rfl
theorem okX6_status_0 : chkD cX6_status [(0, .iload_n 1, 1), (1, .iconst (-1), 1), (2, .if_icmp .lt 9, 3), (5, .iload_n 1, 1), (6, .bipush 7, 2), (8, .if_icmp .lt 10, 3), (11, .aload_n 0, 1), (12, .ldc 62, 2), (14, .invokevirtual 63, 3), (17, .ireturn, 1), (18, .iload_n 1, 1), (19, .ifCond .lt 10, 3), (22, .aload_n 0, 1), (23, .getfield 53, 3), (26, .iload_n 1, 1), (27, .iaload, 1), (28, .ireturn, 1), (29, .iconst 0, 1), (30, .istore_n 2, 1), (31, .iconst 0, 1), (32, .istore_n 3, 1), (33, .iload_n 3, 1), (34, .bipush 7, 2), (36, .if_icmp .ge 18, 3), (39, .iload_n 2, 1), (40, .aload_n 0, 1), (41, .getfield 53, 3), (44, .iload_n 3, 1), (45, .iaload, 1), (46, .iadd, 1), (47, .istore_n 2, 1), (48, .iinc 3 1, 3), (51, .goto (-18), 3), (54, .iload_n 2, 1), (55, .ireturn, 1)] = true := by decide +kernel
theorem dX6_status_0 : decode cX6_status 0 = .ok (.iload_n 1, 1) := chkD_at okX6_status_0 0 rfl
theorem dX6_status_1 : decode cX6_status 1 = .ok (.iconst (-1), 1) := chkD_at okX6_status_0 1 rfl
theorem dX6_status_2 : decode cX6_status 2 = .ok (.if_icmp .lt 9, 3) := chkD_at okX6_status_0 2 rfl
theorem dX6_status_5 : decode cX6_status 5 = .ok (.iload_n 1, 1) := chkD_at okX6_status_0 3 rfl
theorem dX6_status_6 : decode cX6_status 6 = .ok (.bipush 7, 2) := chkD_at okX6_status_0 4 rfl
theorem dX6_status_8 : decode cX6_status 8 = .ok (.if_icmp .lt 10, 3) := chkD_at okX6_status_0 5 rfl
theorem dX6_status_11 : decode cX6_status 11 = .ok (.aload_n 0, 1) := chkD_at okX6_status_0 6 rfl
theorem dX6_status_12 : decode cX6_status 12 = .ok (.ldc 62, 2) := chkD_at okX6_status_0 7 rfl
theorem dX6_status_14 : decode cX6_status 14 = .ok (.invokevirtual 63, 3) := chkD_at okX6_status_0 8 rfl
theorem dX6_status_17 : decode cX6_status 17 = .ok (.ireturn, 1) := chkD_at okX6_status_0 9 rfl
theorem dX6_status_18 : decode cX6_status 18 = .ok (.iload_n 1, 1) := chkD_at okX6_status_0 10 rfl
theorem dX6_status_19 : decode cX6_status 19 = .ok (.ifCond .lt 10, 3) := chkD_at okX6_status_0 11 rfl
theorem dX6_status_22 : decode cX6_status 22 = .ok (.aload_n 0, 1) := chkD_at okX6_status_0 12 rfl
theorem dX6_status_23 : decode cX6_status 23 = .ok (.getfield 53, 3) := chkD_at okX6_status_0 13 rfl
theorem dX6_status_26 : decode cX6_status 26 = .ok (.iload_n 1, 1) := chkD_at okX6_status_0 14 rfl
theorem dX6_status_27 : decode cX6_status 27 = .ok (.iaload, 1) := chkD_at okX6_status_0 15 rfl
theorem dX6_status_28 : decode cX6_status 28 = .ok (.ireturn, 1) := chkD_at okX6_status_0 16 rfl
theorem dX6_status_29 : decode cX6_status 29 = .ok (.iconst 0, 1) := chkD_at okX6_status_0 17 rfl
theorem dX6_status_30 : decode cX6_status 30 = .ok (.istore_n 2, 1) := chkD_at okX6_status_0 18 rfl
theorem dX6_status_31 : decode cX6_status 31 = .ok (.iconst 0, 1) := chkD_at okX6_status_0 19 rfl
theorem dX6_status_32 : decode cX6_status 32 = .ok (.istore_n 3, 1) := chkD_at okX6_status_0 20 rfl
theorem dX6_status_33 : decode cX6_status 33 = .ok (.iload_n 3, 1) := chkD_at okX6_status_0 21 rfl
theorem dX6_status_34 : decode cX6_status 34 = .ok (.bipush 7, 2) := chkD_at okX6_status_0 22 rfl
theorem dX6_status_36 : decode cX6_status 36 = .ok (.if_icmp .ge 18, 3) := chkD_at okX6_status_0 23 rfl
theorem dX6_status_39 : decode cX6_status 39 = .ok (.iload_n 2, 1) := chkD_at okX6_status_0 24 rfl
theorem dX6_status_40 : decode cX6_status 40 = .ok (.aload_n 0, 1) := chkD_at okX6_status_0 25 rfl
theorem dX6_status_41 : decode cX6_status 41 = .ok (.getfield 53, 3) := chkD_at okX6_status_0 26 rfl
theorem dX6_status_44 : decode cX6_status 44 = .ok (.iload_n 3, 1) := chkD_at okX6_status_0 27 rfl
theorem dX6_status_45 : decode cX6_status 45 = .ok (.iaload, 1) := chkD_at okX6_status_0 28 rfl
theorem dX6_status_46 : decode cX6_status 46 = .ok (.iadd, 1) := chkD_at okX6_status_0 29 rfl
theorem dX6_status_47 : decode cX6_status 47 = .ok (.istore_n 2, 1) := chkD_at okX6_status_0 30 rfl
theorem dX6_status_48 : decode cX6_status 48 = .ok (.iinc 3 1, 3) := chkD_at okX6_status_0 31 rfl
theorem dX6_status_51 : decode cX6_status 51 = .ok (.goto (-18), 3) := chkD_at okX6_status_0 32 rfl
theorem dX6_status_54 : decode cX6_status 54 = .ok (.iload_n 2, 1) := chkD_at okX6_status_0 33 rfl
theorem dX6_status_55 : decode cX6_status 55 = .ok (.ireturn, 1) := chkD_at okX6_status_0 34 rfl
theorem okX6_finding_0 : chkD cX6_finding [(0, .ldc 62, 2), (2, .iload_n 1, 1), (3, .isub, 1), (4, .istore_n 2, 1), (5, .iload_n 2, 1), (6, .bipush 7, 2), (8, .invokestatic 58, 3), (11, .ifCond .eq 13, 3), (14, .aload_n 0, 1), (15, .getfield 53, 3), (18, .iload_n 2, 1), (19, .dup2, 1), (20, .iaload, 1), (21, .iconst 1, 1), (22, .iadd, 1), (23, .iastore, 1), (24, .iload_n 1, 1), (25, .ireturn, 1)] = true := by decide +kernel
theorem dX6_finding_0 : decode cX6_finding 0 = .ok (.ldc 62, 2) := chkD_at okX6_finding_0 0 rfl
theorem dX6_finding_2 : decode cX6_finding 2 = .ok (.iload_n 1, 1) := chkD_at okX6_finding_0 1 rfl
theorem dX6_finding_3 : decode cX6_finding 3 = .ok (.isub, 1) := chkD_at okX6_finding_0 2 rfl
theorem dX6_finding_4 : decode cX6_finding 4 = .ok (.istore_n 2, 1) := chkD_at okX6_finding_0 3 rfl
theorem dX6_finding_5 : decode cX6_finding 5 = .ok (.iload_n 2, 1) := chkD_at okX6_finding_0 4 rfl
theorem dX6_finding_6 : decode cX6_finding 6 = .ok (.bipush 7, 2) := chkD_at okX6_finding_0 5 rfl
theorem dX6_finding_8 : decode cX6_finding 8 = .ok (.invokestatic 58, 3) := chkD_at okX6_finding_0 6 rfl
theorem dX6_finding_11 : decode cX6_finding 11 = .ok (.ifCond .eq 13, 3) := chkD_at okX6_finding_0 7 rfl
theorem dX6_finding_14 : decode cX6_finding 14 = .ok (.aload_n 0, 1) := chkD_at okX6_finding_0 8 rfl
theorem dX6_finding_15 : decode cX6_finding 15 = .ok (.getfield 53, 3) := chkD_at okX6_finding_0 9 rfl
theorem dX6_finding_18 : decode cX6_finding 18 = .ok (.iload_n 2, 1) := chkD_at okX6_finding_0 10 rfl
theorem dX6_finding_19 : decode cX6_finding 19 = .ok (.dup2, 1) := chkD_at okX6_finding_0 11 rfl
theorem dX6_finding_20 : decode cX6_finding 20 = .ok (.iaload, 1) := chkD_at okX6_finding_0 12 rfl
theorem dX6_finding_21 : decode cX6_finding 21 = .ok (.iconst 1, 1) := chkD_at okX6_finding_0 13 rfl
theorem dX6_finding_22 : decode cX6_finding 22 = .ok (.iadd, 1) := chkD_at okX6_finding_0 14 rfl
theorem dX6_finding_23 : decode cX6_finding 23 = .ok (.iastore, 1) := chkD_at okX6_finding_0 15 rfl
theorem dX6_finding_24 : decode cX6_finding 24 = .ok (.iload_n 1, 1) := chkD_at okX6_finding_0 16 rfl
theorem dX6_finding_25 : decode cX6_finding 25 = .ok (.ireturn, 1) := chkD_at okX6_finding_0 17 rfl
theorem okX6_orNone_0 : chkD cX6_orNone [(0, .iload_n 1, 1), (1, .ifCond .ge 12, 3), (4, .aload_n 0, 1), (5, .ldc 171, 2), (7, .invokevirtual 63, 3), (10, .goto 4, 3), (13, .iload_n 1, 1), (14, .ireturn, 1)] = true := by decide +kernel
theorem dX6_orNone_0 : decode cX6_orNone 0 = .ok (.iload_n 1, 1) := chkD_at okX6_orNone_0 0 rfl
theorem dX6_orNone_1 : decode cX6_orNone 1 = .ok (.ifCond .ge 12, 3) := chkD_at okX6_orNone_0 1 rfl
theorem dX6_orNone_4 : decode cX6_orNone 4 = .ok (.aload_n 0, 1) := chkD_at okX6_orNone_0 2 rfl
theorem dX6_orNone_5 : decode cX6_orNone 5 = .ok (.ldc 171, 2) := chkD_at okX6_orNone_0 3 rfl
theorem dX6_orNone_7 : decode cX6_orNone 7 = .ok (.invokevirtual 63, 3) := chkD_at okX6_orNone_0 4 rfl
theorem dX6_orNone_10 : decode cX6_orNone 10 = .ok (.goto 4, 3) := chkD_at okX6_orNone_0 5 rfl
theorem dX6_orNone_13 : decode cX6_orNone 13 = .ok (.iload_n 1, 1) := chkD_at okX6_orNone_0 6 rfl
theorem dX6_orNone_14 : decode cX6_orNone 14 = .ok (.ireturn, 1) := chkD_at okX6_orNone_0 7 rfl
theorem okX6_sheetFault_0 : chkD cX6_sheetFault [(0, .iload_n 1, 1), (1, .iconst 4, 1), (2, .invokestatic 58, 3), (5, .ifCond .ne 6, 3), (8, .ldc 62, 2), (10, .ireturn, 1), (11, .aload_n 0, 1), (12, .getfield 49, 3), (15, .iload_n 1, 1), (16, .aaload, 1), (17, .invokevirtual 264, 3), (20, .ifCond .eq 9, 3), (23, .ldc_w 267, 3), (26, .goto 4, 3), (29, .iconst 0, 1), (30, .ireturn, 1)] = true := by decide +kernel
theorem dX6_sheetFault_0 : decode cX6_sheetFault 0 = .ok (.iload_n 1, 1) := chkD_at okX6_sheetFault_0 0 rfl
theorem dX6_sheetFault_1 : decode cX6_sheetFault 1 = .ok (.iconst 4, 1) := chkD_at okX6_sheetFault_0 1 rfl
theorem dX6_sheetFault_2 : decode cX6_sheetFault 2 = .ok (.invokestatic 58, 3) := chkD_at okX6_sheetFault_0 2 rfl
theorem dX6_sheetFault_5 : decode cX6_sheetFault 5 = .ok (.ifCond .ne 6, 3) := chkD_at okX6_sheetFault_0 3 rfl
theorem dX6_sheetFault_8 : decode cX6_sheetFault 8 = .ok (.ldc 62, 2) := chkD_at okX6_sheetFault_0 4 rfl
theorem dX6_sheetFault_10 : decode cX6_sheetFault 10 = .ok (.ireturn, 1) := chkD_at okX6_sheetFault_0 5 rfl
theorem dX6_sheetFault_11 : decode cX6_sheetFault 11 = .ok (.aload_n 0, 1) := chkD_at okX6_sheetFault_0 6 rfl
theorem dX6_sheetFault_12 : decode cX6_sheetFault 12 = .ok (.getfield 49, 3) := chkD_at okX6_sheetFault_0 7 rfl
theorem dX6_sheetFault_15 : decode cX6_sheetFault 15 = .ok (.iload_n 1, 1) := chkD_at okX6_sheetFault_0 8 rfl
theorem dX6_sheetFault_16 : decode cX6_sheetFault 16 = .ok (.aaload, 1) := chkD_at okX6_sheetFault_0 9 rfl
theorem dX6_sheetFault_17 : decode cX6_sheetFault 17 = .ok (.invokevirtual 264, 3) := chkD_at okX6_sheetFault_0 10 rfl
theorem dX6_sheetFault_20 : decode cX6_sheetFault 20 = .ok (.ifCond .eq 9, 3) := chkD_at okX6_sheetFault_0 11 rfl
theorem dX6_sheetFault_23 : decode cX6_sheetFault 23 = .ok (.ldc_w 267, 3) := chkD_at okX6_sheetFault_0 12 rfl
theorem dX6_sheetFault_26 : decode cX6_sheetFault 26 = .ok (.goto 4, 3) := chkD_at okX6_sheetFault_0 13 rfl
theorem dX6_sheetFault_29 : decode cX6_sheetFault 29 = .ok (.iconst 0, 1) := chkD_at okX6_sheetFault_0 14 rfl
theorem dX6_sheetFault_30 : decode cX6_sheetFault 30 = .ok (.ireturn, 1) := chkD_at okX6_sheetFault_0 15 rfl
theorem okX6_menuFault_0 : chkD cX6_menuFault [(0, .aload_n 0, 1), (1, .iload_n 1, 1), (2, .invokevirtual 254, 3), (5, .istore_n 3, 1), (6, .iload_n 3, 1), (7, .ifCond .ne 17, 3), (10, .iload_n 2, 1), (11, .bipush 6, 2), (13, .invokestatic 58, 3), (16, .ifCond .ne 8, 3), (19, .ldc 62, 2), (21, .goto 4, 3), (24, .iload_n 3, 1), (25, .ireturn, 1)] = true := by decide +kernel
theorem dX6_menuFault_0 : decode cX6_menuFault 0 = .ok (.aload_n 0, 1) := chkD_at okX6_menuFault_0 0 rfl
theorem dX6_menuFault_1 : decode cX6_menuFault 1 = .ok (.iload_n 1, 1) := chkD_at okX6_menuFault_0 1 rfl
theorem dX6_menuFault_2 : decode cX6_menuFault 2 = .ok (.invokevirtual 254, 3) := chkD_at okX6_menuFault_0 2 rfl
theorem dX6_menuFault_5 : decode cX6_menuFault 5 = .ok (.istore_n 3, 1) := chkD_at okX6_menuFault_0 3 rfl
theorem dX6_menuFault_6 : decode cX6_menuFault 6 = .ok (.iload_n 3, 1) := chkD_at okX6_menuFault_0 4 rfl
theorem dX6_menuFault_7 : decode cX6_menuFault 7 = .ok (.ifCond .ne 17, 3) := chkD_at okX6_menuFault_0 5 rfl
theorem dX6_menuFault_10 : decode cX6_menuFault 10 = .ok (.iload_n 2, 1) := chkD_at okX6_menuFault_0 6 rfl
theorem dX6_menuFault_11 : decode cX6_menuFault 11 = .ok (.bipush 6, 2) := chkD_at okX6_menuFault_0 7 rfl
theorem dX6_menuFault_13 : decode cX6_menuFault 13 = .ok (.invokestatic 58, 3) := chkD_at okX6_menuFault_0 8 rfl
theorem dX6_menuFault_16 : decode cX6_menuFault 16 = .ok (.ifCond .ne 8, 3) := chkD_at okX6_menuFault_0 9 rfl
theorem dX6_menuFault_19 : decode cX6_menuFault 19 = .ok (.ldc 62, 2) := chkD_at okX6_menuFault_0 10 rfl
theorem dX6_menuFault_21 : decode cX6_menuFault 21 = .ok (.goto 4, 3) := chkD_at okX6_menuFault_0 11 rfl
theorem dX6_menuFault_24 : decode cX6_menuFault 24 = .ok (.iload_n 3, 1) := chkD_at okX6_menuFault_0 12 rfl
theorem dX6_menuFault_25 : decode cX6_menuFault 25 = .ok (.ireturn, 1) := chkD_at okX6_menuFault_0 13 rfl
theorem okX6_isBelow_0 : chkD cX6_isBelow [(0, .iload_n 0, 1), (1, .ifCond .lt 12, 3), (4, .iload_n 0, 1), (5, .iload_n 1, 1), (6, .if_icmp .ge 7, 3), (9, .iconst 1, 1), (10, .goto 4, 3), (13, .iconst 0, 1), (14, .ireturn, 1)] = true := by decide +kernel
theorem dX6_isBelow_0 : decode cX6_isBelow 0 = .ok (.iload_n 0, 1) := chkD_at okX6_isBelow_0 0 rfl
theorem dX6_isBelow_1 : decode cX6_isBelow 1 = .ok (.ifCond .lt 12, 3) := chkD_at okX6_isBelow_0 1 rfl
theorem dX6_isBelow_4 : decode cX6_isBelow 4 = .ok (.iload_n 0, 1) := chkD_at okX6_isBelow_0 2 rfl
theorem dX6_isBelow_5 : decode cX6_isBelow 5 = .ok (.iload_n 1, 1) := chkD_at okX6_isBelow_0 3 rfl
theorem dX6_isBelow_6 : decode cX6_isBelow 6 = .ok (.if_icmp .ge 7, 3) := chkD_at okX6_isBelow_0 4 rfl
theorem dX6_isBelow_9 : decode cX6_isBelow 9 = .ok (.iconst 1, 1) := chkD_at okX6_isBelow_0 5 rfl
theorem dX6_isBelow_10 : decode cX6_isBelow 10 = .ok (.goto 4, 3) := chkD_at okX6_isBelow_0 6 rfl
theorem dX6_isBelow_13 : decode cX6_isBelow 13 = .ok (.iconst 0, 1) := chkD_at okX6_isBelow_0 7 rfl
theorem dX6_isBelow_14 : decode cX6_isBelow 14 = .ok (.ireturn, 1) := chkD_at okX6_isBelow_0 8 rfl
theorem okX6_isSet_0 : chkD cX6_isSet [(0, .iload_n 0, 1), (1, .ifCond .le 22, 3), (4, .iload_n 0, 1), (5, .sipush 256, 3), (8, .if_icmp .ge 15, 3), (11, .iload_n 0, 1), (12, .invokestatic 293, 3), (15, .iconst 3, 1), (16, .if_icmp .gt 7, 3), (19, .iconst 1, 1), (20, .goto 4, 3), (23, .iconst 0, 1), (24, .ireturn, 1)] = true := by decide +kernel
theorem dX6_isSet_0 : decode cX6_isSet 0 = .ok (.iload_n 0, 1) := chkD_at okX6_isSet_0 0 rfl
theorem dX6_isSet_1 : decode cX6_isSet 1 = .ok (.ifCond .le 22, 3) := chkD_at okX6_isSet_0 1 rfl
theorem dX6_isSet_4 : decode cX6_isSet 4 = .ok (.iload_n 0, 1) := chkD_at okX6_isSet_0 2 rfl
theorem dX6_isSet_5 : decode cX6_isSet 5 = .ok (.sipush 256, 3) := chkD_at okX6_isSet_0 3 rfl
theorem dX6_isSet_8 : decode cX6_isSet 8 = .ok (.if_icmp .ge 15, 3) := chkD_at okX6_isSet_0 4 rfl
theorem dX6_isSet_11 : decode cX6_isSet 11 = .ok (.iload_n 0, 1) := chkD_at okX6_isSet_0 5 rfl
theorem dX6_isSet_12 : decode cX6_isSet 12 = .ok (.invokestatic 293, 3) := chkD_at okX6_isSet_0 6 rfl
theorem dX6_isSet_15 : decode cX6_isSet 15 = .ok (.iconst 3, 1) := chkD_at okX6_isSet_0 7 rfl
theorem dX6_isSet_16 : decode cX6_isSet 16 = .ok (.if_icmp .gt 7, 3) := chkD_at okX6_isSet_0 8 rfl
theorem dX6_isSet_19 : decode cX6_isSet 19 = .ok (.iconst 1, 1) := chkD_at okX6_isSet_0 9 rfl
theorem dX6_isSet_20 : decode cX6_isSet 20 = .ok (.goto 4, 3) := chkD_at okX6_isSet_0 10 rfl
theorem dX6_isSet_23 : decode cX6_isSet 23 = .ok (.iconst 0, 1) := chkD_at okX6_isSet_0 11 rfl
theorem dX6_isSet_24 : decode cX6_isSet 24 = .ok (.ireturn, 1) := chkD_at okX6_isSet_0 12 rfl
theorem okX6_isDish_0 : chkD cX6_isDish [(0, .iload_n 0, 1), (1, .ifCond .lt 17, 3), (4, .iload_n 0, 1), (5, .invokestatic 89, 3), (8, .invokestatic 78, 3), (11, .ifCond .eq 7, 3), (14, .iconst 1, 1), (15, .goto 4, 3), (18, .iconst 0, 1), (19, .ireturn, 1)] = true := by decide +kernel
theorem dX6_isDish_0 : decode cX6_isDish 0 = .ok (.iload_n 0, 1) := chkD_at okX6_isDish_0 0 rfl
theorem dX6_isDish_1 : decode cX6_isDish 1 = .ok (.ifCond .lt 17, 3) := chkD_at okX6_isDish_0 1 rfl
theorem dX6_isDish_4 : decode cX6_isDish 4 = .ok (.iload_n 0, 1) := chkD_at okX6_isDish_0 2 rfl
theorem dX6_isDish_5 : decode cX6_isDish 5 = .ok (.invokestatic 89, 3) := chkD_at okX6_isDish_0 3 rfl
theorem dX6_isDish_8 : decode cX6_isDish 8 = .ok (.invokestatic 78, 3) := chkD_at okX6_isDish_0 4 rfl
theorem dX6_isDish_11 : decode cX6_isDish 11 = .ok (.ifCond .eq 7, 3) := chkD_at okX6_isDish_0 5 rfl
theorem dX6_isDish_14 : decode cX6_isDish 14 = .ok (.iconst 1, 1) := chkD_at okX6_isDish_0 6 rfl
theorem dX6_isDish_15 : decode cX6_isDish 15 = .ok (.goto 4, 3) := chkD_at okX6_isDish_0 7 rfl
theorem dX6_isDish_18 : decode cX6_isDish 18 = .ok (.iconst 0, 1) := chkD_at okX6_isDish_0 8 rfl
theorem dX6_isDish_19 : decode cX6_isDish 19 = .ok (.ireturn, 1) := chkD_at okX6_isDish_0 9 rfl
theorem okX6_dishNumber_0 : chkD cX6_dishNumber [(0, .bipush 20, 2), (2, .iload_n 0, 1), (3, .imul, 1), (4, .iconst 4, 1), (5, .iload_n 1, 1), (6, .imul, 1), (7, .iadd, 1), (8, .iload_n 2, 1), (9, .iadd, 1), (10, .ireturn, 1)] = true := by decide +kernel
theorem dX6_dishNumber_0 : decode cX6_dishNumber 0 = .ok (.bipush 20, 2) := chkD_at okX6_dishNumber_0 0 rfl
theorem dX6_dishNumber_2 : decode cX6_dishNumber 2 = .ok (.iload_n 0, 1) := chkD_at okX6_dishNumber_0 1 rfl
theorem dX6_dishNumber_3 : decode cX6_dishNumber 3 = .ok (.imul, 1) := chkD_at okX6_dishNumber_0 2 rfl
theorem dX6_dishNumber_4 : decode cX6_dishNumber 4 = .ok (.iconst 4, 1) := chkD_at okX6_dishNumber_0 3 rfl
theorem dX6_dishNumber_5 : decode cX6_dishNumber 5 = .ok (.iload_n 1, 1) := chkD_at okX6_dishNumber_0 4 rfl
theorem dX6_dishNumber_6 : decode cX6_dishNumber 6 = .ok (.imul, 1) := chkD_at okX6_dishNumber_0 5 rfl
theorem dX6_dishNumber_7 : decode cX6_dishNumber 7 = .ok (.iadd, 1) := chkD_at okX6_dishNumber_0 6 rfl
theorem dX6_dishNumber_8 : decode cX6_dishNumber 8 = .ok (.iload_n 2, 1) := chkD_at okX6_dishNumber_0 7 rfl
theorem dX6_dishNumber_9 : decode cX6_dishNumber 9 = .ok (.iadd, 1) := chkD_at okX6_dishNumber_0 8 rfl
theorem dX6_dishNumber_10 : decode cX6_dishNumber 10 = .ok (.ireturn, 1) := chkD_at okX6_dishNumber_0 9 rfl
theorem okX6_setOf_0 : chkD cX6_setOf [(0, .iload_n 0, 1), (1, .bipush 20, 2), (3, .idiv, 1), (4, .ireturn, 1)] = true := by decide +kernel
theorem dX6_setOf_0 : decode cX6_setOf 0 = .ok (.iload_n 0, 1) := chkD_at okX6_setOf_0 0 rfl
theorem dX6_setOf_1 : decode cX6_setOf 1 = .ok (.bipush 20, 2) := chkD_at okX6_setOf_0 1 rfl
theorem dX6_setOf_3 : decode cX6_setOf 3 = .ok (.idiv, 1) := chkD_at okX6_setOf_0 2 rfl
theorem dX6_setOf_4 : decode cX6_setOf 4 = .ok (.ireturn, 1) := chkD_at okX6_setOf_0 3 rfl
theorem okX6_mannerOf_0 : chkD cX6_mannerOf [(0, .iload_n 0, 1), (1, .bipush 20, 2), (3, .irem, 1), (4, .ireturn, 1)] = true := by decide +kernel
theorem dX6_mannerOf_0 : decode cX6_mannerOf 0 = .ok (.iload_n 0, 1) := chkD_at okX6_mannerOf_0 0 rfl
theorem dX6_mannerOf_1 : decode cX6_mannerOf 1 = .ok (.bipush 20, 2) := chkD_at okX6_mannerOf_0 1 rfl
theorem dX6_mannerOf_3 : decode cX6_mannerOf 3 = .ok (.irem, 1) := chkD_at okX6_mannerOf_0 2 rfl
theorem dX6_mannerOf_4 : decode cX6_mannerOf 4 = .ok (.ireturn, 1) := chkD_at okX6_mannerOf_0 3 rfl
theorem okX6_wayOf_0 : chkD cX6_wayOf [(0, .iload_n 0, 1), (1, .bipush 20, 2), (3, .irem, 1), (4, .iconst 4, 1), (5, .idiv, 1), (6, .ireturn, 1)] = true := by decide +kernel
theorem dX6_wayOf_0 : decode cX6_wayOf 0 = .ok (.iload_n 0, 1) := chkD_at okX6_wayOf_0 0 rfl
theorem dX6_wayOf_1 : decode cX6_wayOf 1 = .ok (.bipush 20, 2) := chkD_at okX6_wayOf_0 1 rfl
theorem dX6_wayOf_3 : decode cX6_wayOf 3 = .ok (.irem, 1) := chkD_at okX6_wayOf_0 2 rfl
theorem dX6_wayOf_4 : decode cX6_wayOf 4 = .ok (.iconst 4, 1) := chkD_at okX6_wayOf_0 3 rfl
theorem dX6_wayOf_5 : decode cX6_wayOf 5 = .ok (.idiv, 1) := chkD_at okX6_wayOf_0 4 rfl
theorem dX6_wayOf_6 : decode cX6_wayOf 6 = .ok (.ireturn, 1) := chkD_at okX6_wayOf_0 5 rfl
theorem okX6_sauceOf_0 : chkD cX6_sauceOf [(0, .iload_n 0, 1), (1, .iconst 4, 1), (2, .irem, 1), (3, .ireturn, 1)] = true := by decide +kernel
theorem dX6_sauceOf_0 : decode cX6_sauceOf 0 = .ok (.iload_n 0, 1) := chkD_at okX6_sauceOf_0 0 rfl
theorem dX6_sauceOf_1 : decode cX6_sauceOf 1 = .ok (.iconst 4, 1) := chkD_at okX6_sauceOf_0 1 rfl
theorem dX6_sauceOf_2 : decode cX6_sauceOf 2 = .ok (.irem, 1) := chkD_at okX6_sauceOf_0 2 rfl
theorem dX6_sauceOf_3 : decode cX6_sauceOf 3 = .ok (.ireturn, 1) := chkD_at okX6_sauceOf_0 3 rfl
theorem okX6_nearness_0 : chkD cX6_nearness [(0, .iload_n 0, 1), (1, .invokestatic 89, 3), (4, .iload_n 1, 1), (5, .invokestatic 89, 3), (8, .ixor, 1), (9, .invokestatic 293, 3), (12, .iload_n 0, 1), (13, .invokestatic 92, 3), (16, .iload_n 1, 1), (17, .invokestatic 92, 3), (20, .if_icmp .ne 7, 3), (23, .iconst 0, 1), (24, .goto 4, 3), (27, .iconst 1, 1), (28, .iadd, 1), (29, .iload_n 0, 1), (30, .invokestatic 95, 3), (33, .iload_n 1, 1), (34, .invokestatic 95, 3), (37, .if_icmp .ne 7, 3), (40, .iconst 0, 1), (41, .goto 4, 3), (44, .iconst 1, 1), (45, .iadd, 1), (46, .ireturn, 1)] = true := by decide +kernel
theorem dX6_nearness_0 : decode cX6_nearness 0 = .ok (.iload_n 0, 1) := chkD_at okX6_nearness_0 0 rfl
theorem dX6_nearness_1 : decode cX6_nearness 1 = .ok (.invokestatic 89, 3) := chkD_at okX6_nearness_0 1 rfl
theorem dX6_nearness_4 : decode cX6_nearness 4 = .ok (.iload_n 1, 1) := chkD_at okX6_nearness_0 2 rfl
theorem dX6_nearness_5 : decode cX6_nearness 5 = .ok (.invokestatic 89, 3) := chkD_at okX6_nearness_0 3 rfl
theorem dX6_nearness_8 : decode cX6_nearness 8 = .ok (.ixor, 1) := chkD_at okX6_nearness_0 4 rfl
theorem dX6_nearness_9 : decode cX6_nearness 9 = .ok (.invokestatic 293, 3) := chkD_at okX6_nearness_0 5 rfl
theorem dX6_nearness_12 : decode cX6_nearness 12 = .ok (.iload_n 0, 1) := chkD_at okX6_nearness_0 6 rfl
theorem dX6_nearness_13 : decode cX6_nearness 13 = .ok (.invokestatic 92, 3) := chkD_at okX6_nearness_0 7 rfl
theorem dX6_nearness_16 : decode cX6_nearness 16 = .ok (.iload_n 1, 1) := chkD_at okX6_nearness_0 8 rfl
theorem dX6_nearness_17 : decode cX6_nearness 17 = .ok (.invokestatic 92, 3) := chkD_at okX6_nearness_0 9 rfl
theorem dX6_nearness_20 : decode cX6_nearness 20 = .ok (.if_icmp .ne 7, 3) := chkD_at okX6_nearness_0 10 rfl
theorem dX6_nearness_23 : decode cX6_nearness 23 = .ok (.iconst 0, 1) := chkD_at okX6_nearness_0 11 rfl
theorem dX6_nearness_24 : decode cX6_nearness 24 = .ok (.goto 4, 3) := chkD_at okX6_nearness_0 12 rfl
theorem dX6_nearness_27 : decode cX6_nearness 27 = .ok (.iconst 1, 1) := chkD_at okX6_nearness_0 13 rfl
theorem dX6_nearness_28 : decode cX6_nearness 28 = .ok (.iadd, 1) := chkD_at okX6_nearness_0 14 rfl
theorem dX6_nearness_29 : decode cX6_nearness 29 = .ok (.iload_n 0, 1) := chkD_at okX6_nearness_0 15 rfl
theorem dX6_nearness_30 : decode cX6_nearness 30 = .ok (.invokestatic 95, 3) := chkD_at okX6_nearness_0 16 rfl
theorem dX6_nearness_33 : decode cX6_nearness 33 = .ok (.iload_n 1, 1) := chkD_at okX6_nearness_0 17 rfl
theorem dX6_nearness_34 : decode cX6_nearness 34 = .ok (.invokestatic 95, 3) := chkD_at okX6_nearness_0 18 rfl
theorem dX6_nearness_37 : decode cX6_nearness 37 = .ok (.if_icmp .ne 7, 3) := chkD_at okX6_nearness_0 19 rfl
theorem dX6_nearness_40 : decode cX6_nearness 40 = .ok (.iconst 0, 1) := chkD_at okX6_nearness_0 20 rfl
theorem dX6_nearness_41 : decode cX6_nearness 41 = .ok (.goto 4, 3) := chkD_at okX6_nearness_0 21 rfl
theorem dX6_nearness_44 : decode cX6_nearness 44 = .ok (.iconst 1, 1) := chkD_at okX6_nearness_0 22 rfl
theorem dX6_nearness_45 : decode cX6_nearness 45 = .ok (.iadd, 1) := chkD_at okX6_nearness_0 23 rfl
theorem dX6_nearness_46 : decode cX6_nearness 46 = .ok (.ireturn, 1) := chkD_at okX6_nearness_0 24 rfl
theorem okX6_hasBit_0 : chkD cX6_hasBit [(0, .iload_n 0, 1), (1, .iload_n 1, 1), (2, .ishr, 1), (3, .iconst 1, 1), (4, .iand, 1), (5, .ifCond .eq 7, 3), (8, .iconst 1, 1), (9, .goto 4, 3), (12, .iconst 0, 1), (13, .ireturn, 1)] = true := by decide +kernel
theorem dX6_hasBit_0 : decode cX6_hasBit 0 = .ok (.iload_n 0, 1) := chkD_at okX6_hasBit_0 0 rfl
theorem dX6_hasBit_1 : decode cX6_hasBit 1 = .ok (.iload_n 1, 1) := chkD_at okX6_hasBit_0 1 rfl
theorem dX6_hasBit_2 : decode cX6_hasBit 2 = .ok (.ishr, 1) := chkD_at okX6_hasBit_0 2 rfl
theorem dX6_hasBit_3 : decode cX6_hasBit 3 = .ok (.iconst 1, 1) := chkD_at okX6_hasBit_0 3 rfl
theorem dX6_hasBit_4 : decode cX6_hasBit 4 = .ok (.iand, 1) := chkD_at okX6_hasBit_0 4 rfl
theorem dX6_hasBit_5 : decode cX6_hasBit 5 = .ok (.ifCond .eq 7, 3) := chkD_at okX6_hasBit_0 5 rfl
theorem dX6_hasBit_8 : decode cX6_hasBit 8 = .ok (.iconst 1, 1) := chkD_at okX6_hasBit_0 6 rfl
theorem dX6_hasBit_9 : decode cX6_hasBit 9 = .ok (.goto 4, 3) := chkD_at okX6_hasBit_0 7 rfl
theorem dX6_hasBit_12 : decode cX6_hasBit 12 = .ok (.iconst 0, 1) := chkD_at okX6_hasBit_0 8 rfl
theorem dX6_hasBit_13 : decode cX6_hasBit 13 = .ok (.ireturn, 1) := chkD_at okX6_hasBit_0 9 rfl
theorem okX6_countOf_0 : chkD cX6_countOf [(0, .iconst 0, 1), (1, .istore_n 1, 1), (2, .iconst 0, 1), (3, .istore_n 2, 1), (4, .iload_n 2, 1), (5, .aload_n 0, 1), (6, .arraylength, 1), (7, .if_icmp .ge 18, 3), (10, .iload_n 1, 1), (11, .aload_n 0, 1), (12, .iload_n 2, 1), (13, .iaload, 1), (14, .invokestatic 293, 3), (17, .iadd, 1), (18, .istore_n 1, 1), (19, .iinc 2 1, 3), (22, .goto (-18), 3), (25, .iload_n 1, 1), (26, .ireturn, 1)] = true := by decide +kernel
theorem dX6_countOf_0 : decode cX6_countOf 0 = .ok (.iconst 0, 1) := chkD_at okX6_countOf_0 0 rfl
theorem dX6_countOf_1 : decode cX6_countOf 1 = .ok (.istore_n 1, 1) := chkD_at okX6_countOf_0 1 rfl
theorem dX6_countOf_2 : decode cX6_countOf 2 = .ok (.iconst 0, 1) := chkD_at okX6_countOf_0 2 rfl
theorem dX6_countOf_3 : decode cX6_countOf 3 = .ok (.istore_n 2, 1) := chkD_at okX6_countOf_0 3 rfl
theorem dX6_countOf_4 : decode cX6_countOf 4 = .ok (.iload_n 2, 1) := chkD_at okX6_countOf_0 4 rfl
theorem dX6_countOf_5 : decode cX6_countOf 5 = .ok (.aload_n 0, 1) := chkD_at okX6_countOf_0 5 rfl
theorem dX6_countOf_6 : decode cX6_countOf 6 = .ok (.arraylength, 1) := chkD_at okX6_countOf_0 6 rfl
theorem dX6_countOf_7 : decode cX6_countOf 7 = .ok (.if_icmp .ge 18, 3) := chkD_at okX6_countOf_0 7 rfl
theorem dX6_countOf_10 : decode cX6_countOf 10 = .ok (.iload_n 1, 1) := chkD_at okX6_countOf_0 8 rfl
theorem dX6_countOf_11 : decode cX6_countOf 11 = .ok (.aload_n 0, 1) := chkD_at okX6_countOf_0 9 rfl
theorem dX6_countOf_12 : decode cX6_countOf 12 = .ok (.iload_n 2, 1) := chkD_at okX6_countOf_0 10 rfl
theorem dX6_countOf_13 : decode cX6_countOf 13 = .ok (.iaload, 1) := chkD_at okX6_countOf_0 11 rfl
theorem dX6_countOf_14 : decode cX6_countOf 14 = .ok (.invokestatic 293, 3) := chkD_at okX6_countOf_0 12 rfl
theorem dX6_countOf_17 : decode cX6_countOf 17 = .ok (.iadd, 1) := chkD_at okX6_countOf_0 13 rfl
theorem dX6_countOf_18 : decode cX6_countOf 18 = .ok (.istore_n 1, 1) := chkD_at okX6_countOf_0 14 rfl
theorem dX6_countOf_19 : decode cX6_countOf 19 = .ok (.iinc 2 1, 3) := chkD_at okX6_countOf_0 15 rfl
theorem dX6_countOf_22 : decode cX6_countOf 22 = .ok (.goto (-18), 3) := chkD_at okX6_countOf_0 16 rfl
theorem dX6_countOf_25 : decode cX6_countOf 25 = .ok (.iload_n 1, 1) := chkD_at okX6_countOf_0 17 rfl
theorem dX6_countOf_26 : decode cX6_countOf 26 = .ok (.ireturn, 1) := chkD_at okX6_countOf_0 18 rfl
theorem okX6_isOfKind_0 : chkD cX6_isOfKind [(0, .iload_n 0, 1), (1, .istore_n 2, 1), (2, .iconst 0, 1), (3, .istore_n 3, 1), (4, .iload_n 3, 1), (5, .bipush 6, 2), (7, .if_icmp .ge 31, 3), (10, .iload_n 2, 1), (11, .bipush 6, 2), (13, .invokestatic 58, 3), (16, .ifCond .eq 22, 3), (19, .iload_n 2, 1), (20, .iload_n 1, 1), (21, .if_icmp .ne 5, 3), (24, .iconst 1, 1), (25, .ireturn, 1), (26, .getstatic 298, 3), (29, .iload_n 2, 1), (30, .iaload, 1), (31, .istore_n 2, 1), (32, .iinc 3 1, 3), (35, .goto (-31), 3), (38, .iconst 0, 1), (39, .ireturn, 1)] = true := by decide +kernel
theorem dX6_isOfKind_0 : decode cX6_isOfKind 0 = .ok (.iload_n 0, 1) := chkD_at okX6_isOfKind_0 0 rfl
theorem dX6_isOfKind_1 : decode cX6_isOfKind 1 = .ok (.istore_n 2, 1) := chkD_at okX6_isOfKind_0 1 rfl
theorem dX6_isOfKind_2 : decode cX6_isOfKind 2 = .ok (.iconst 0, 1) := chkD_at okX6_isOfKind_0 2 rfl
theorem dX6_isOfKind_3 : decode cX6_isOfKind 3 = .ok (.istore_n 3, 1) := chkD_at okX6_isOfKind_0 3 rfl
theorem dX6_isOfKind_4 : decode cX6_isOfKind 4 = .ok (.iload_n 3, 1) := chkD_at okX6_isOfKind_0 4 rfl
theorem dX6_isOfKind_5 : decode cX6_isOfKind 5 = .ok (.bipush 6, 2) := chkD_at okX6_isOfKind_0 5 rfl
theorem dX6_isOfKind_7 : decode cX6_isOfKind 7 = .ok (.if_icmp .ge 31, 3) := chkD_at okX6_isOfKind_0 6 rfl
theorem dX6_isOfKind_10 : decode cX6_isOfKind 10 = .ok (.iload_n 2, 1) := chkD_at okX6_isOfKind_0 7 rfl
theorem dX6_isOfKind_11 : decode cX6_isOfKind 11 = .ok (.bipush 6, 2) := chkD_at okX6_isOfKind_0 8 rfl
theorem dX6_isOfKind_13 : decode cX6_isOfKind 13 = .ok (.invokestatic 58, 3) := chkD_at okX6_isOfKind_0 9 rfl
theorem dX6_isOfKind_16 : decode cX6_isOfKind 16 = .ok (.ifCond .eq 22, 3) := chkD_at okX6_isOfKind_0 10 rfl
theorem dX6_isOfKind_19 : decode cX6_isOfKind 19 = .ok (.iload_n 2, 1) := chkD_at okX6_isOfKind_0 11 rfl
theorem dX6_isOfKind_20 : decode cX6_isOfKind 20 = .ok (.iload_n 1, 1) := chkD_at okX6_isOfKind_0 12 rfl
theorem dX6_isOfKind_21 : decode cX6_isOfKind 21 = .ok (.if_icmp .ne 5, 3) := chkD_at okX6_isOfKind_0 13 rfl
theorem dX6_isOfKind_24 : decode cX6_isOfKind 24 = .ok (.iconst 1, 1) := chkD_at okX6_isOfKind_0 14 rfl
theorem dX6_isOfKind_25 : decode cX6_isOfKind 25 = .ok (.ireturn, 1) := chkD_at okX6_isOfKind_0 15 rfl
theorem dX6_isOfKind_26 : decode cX6_isOfKind 26 = .ok (.getstatic 298, 3) := chkD_at okX6_isOfKind_0 16 rfl
theorem dX6_isOfKind_29 : decode cX6_isOfKind 29 = .ok (.iload_n 2, 1) := chkD_at okX6_isOfKind_0 17 rfl
theorem dX6_isOfKind_30 : decode cX6_isOfKind 30 = .ok (.iaload, 1) := chkD_at okX6_isOfKind_0 18 rfl
theorem dX6_isOfKind_31 : decode cX6_isOfKind 31 = .ok (.istore_n 2, 1) := chkD_at okX6_isOfKind_0 19 rfl
theorem dX6_isOfKind_32 : decode cX6_isOfKind 32 = .ok (.iinc 3 1, 3) := chkD_at okX6_isOfKind_0 20 rfl
theorem dX6_isOfKind_35 : decode cX6_isOfKind 35 = .ok (.goto (-31), 3) := chkD_at okX6_isOfKind_0 21 rfl
theorem dX6_isOfKind_38 : decode cX6_isOfKind 38 = .ok (.iconst 0, 1) := chkD_at okX6_isOfKind_0 22 rfl
theorem dX6_isOfKind_39 : decode cX6_isOfKind 39 = .ok (.ireturn, 1) := chkD_at okX6_isOfKind_0 23 rfl
theorem okX6_mannersBarred_0 : chkD cX6_mannersBarred [(0, .iload_n 0, 1), (1, .iconst 2, 1), (2, .if_icmp .ne 5, 3), (5, .iconst 0, 1), (6, .ireturn, 1), (7, .iload_n 0, 1), (8, .ifCond .eq 8, 3), (11, .iload_n 0, 1), (12, .iconst 1, 1), (13, .if_icmp .ne 7, 3), (16, .iconst 1, 1), (17, .goto 4, 3), (20, .iconst 0, 1), (21, .istore_n 3, 1), (22, .iload_n 0, 1), (23, .iconst 3, 1), (24, .if_icmp .eq 18, 3), (27, .iload_n 0, 1), (28, .iconst 5, 1), (29, .if_icmp .eq 13, 3), (32, .iload_n 3, 1), (33, .ifCond .eq 13, 3), (36, .iload_n 2, 1), (37, .iconst 2, 1), (38, .iand, 1), (39, .ifCond .eq 7, 3), (42, .iconst 1, 1), (43, .goto 4, 3), (46, .iconst 0, 1), (47, .istore 4, 2), (49, .iload_n 0, 1), (50, .iconst 3, 1), (51, .if_icmp .eq 13, 3), (54, .iload_n 3, 1), (55, .ifCond .eq 13, 3), (58, .iload_n 2, 1), (59, .iconst 1, 1), (60, .iand, 1), (61, .ifCond .eq 7, 3), (64, .iconst 1, 1), (65, .goto 4, 3), (68, .iconst 0, 1), (69, .istore 5, 2), (71, .ldc_w 301, 3), (74, .istore 6, 2), (76, .iload 4, 2), (78, .ifCond .eq 16, 3), (81, .iload 6, 2), (83, .bipush 15, 2), (85, .iload_n 1, 1), (86, .iload_n 1, 1), (87, .iconst 4, 1), (88, .irem, 1), (89, .isub, 1), (90, .ishl, 1), (91, .iand, 1), (92, .istore 6, 2), (94, .iload 5, 2), (96, .ifCond .eq 15, 3), (99, .iload 6, 2), (101, .ldc_w 302, 3), (104, .iload_n 1, 1), (105, .iconst 4, 1), (106, .irem, 1), (107, .ishl, 1), (108, .iand, 1), (109, .istore 6, 2), (111, .iload 6, 2), (113, .ireturn, 1)] = true := by decide +kernel
theorem dX6_mannersBarred_0 : decode cX6_mannersBarred 0 = .ok (.iload_n 0, 1) := chkD_at okX6_mannersBarred_0 0 rfl
theorem dX6_mannersBarred_1 : decode cX6_mannersBarred 1 = .ok (.iconst 2, 1) := chkD_at okX6_mannersBarred_0 1 rfl
theorem dX6_mannersBarred_2 : decode cX6_mannersBarred 2 = .ok (.if_icmp .ne 5, 3) := chkD_at okX6_mannersBarred_0 2 rfl
theorem dX6_mannersBarred_5 : decode cX6_mannersBarred 5 = .ok (.iconst 0, 1) := chkD_at okX6_mannersBarred_0 3 rfl
theorem dX6_mannersBarred_6 : decode cX6_mannersBarred 6 = .ok (.ireturn, 1) := chkD_at okX6_mannersBarred_0 4 rfl
theorem dX6_mannersBarred_7 : decode cX6_mannersBarred 7 = .ok (.iload_n 0, 1) := chkD_at okX6_mannersBarred_0 5 rfl
theorem dX6_mannersBarred_8 : decode cX6_mannersBarred 8 = .ok (.ifCond .eq 8, 3) := chkD_at okX6_mannersBarred_0 6 rfl
theorem dX6_mannersBarred_11 : decode cX6_mannersBarred 11 = .ok (.iload_n 0, 1) := chkD_at okX6_mannersBarred_0 7 rfl
theorem dX6_mannersBarred_12 : decode cX6_mannersBarred 12 = .ok (.iconst 1, 1) := chkD_at okX6_mannersBarred_0 8 rfl
theorem dX6_mannersBarred_13 : decode cX6_mannersBarred 13 = .ok (.if_icmp .ne 7, 3) := chkD_at okX6_mannersBarred_0 9 rfl
theorem dX6_mannersBarred_16 : decode cX6_mannersBarred 16 = .ok (.iconst 1, 1) := chkD_at okX6_mannersBarred_0 10 rfl
theorem dX6_mannersBarred_17 : decode cX6_mannersBarred 17 = .ok (.goto 4, 3) := chkD_at okX6_mannersBarred_0 11 rfl
theorem dX6_mannersBarred_20 : decode cX6_mannersBarred 20 = .ok (.iconst 0, 1) := chkD_at okX6_mannersBarred_0 12 rfl
theorem dX6_mannersBarred_21 : decode cX6_mannersBarred 21 = .ok (.istore_n 3, 1) := chkD_at okX6_mannersBarred_0 13 rfl
theorem dX6_mannersBarred_22 : decode cX6_mannersBarred 22 = .ok (.iload_n 0, 1) := chkD_at okX6_mannersBarred_0 14 rfl
theorem dX6_mannersBarred_23 : decode cX6_mannersBarred 23 = .ok (.iconst 3, 1) := chkD_at okX6_mannersBarred_0 15 rfl
theorem dX6_mannersBarred_24 : decode cX6_mannersBarred 24 = .ok (.if_icmp .eq 18, 3) := chkD_at okX6_mannersBarred_0 16 rfl
theorem dX6_mannersBarred_27 : decode cX6_mannersBarred 27 = .ok (.iload_n 0, 1) := chkD_at okX6_mannersBarred_0 17 rfl
theorem dX6_mannersBarred_28 : decode cX6_mannersBarred 28 = .ok (.iconst 5, 1) := chkD_at okX6_mannersBarred_0 18 rfl
theorem dX6_mannersBarred_29 : decode cX6_mannersBarred 29 = .ok (.if_icmp .eq 13, 3) := chkD_at okX6_mannersBarred_0 19 rfl
theorem dX6_mannersBarred_32 : decode cX6_mannersBarred 32 = .ok (.iload_n 3, 1) := chkD_at okX6_mannersBarred_0 20 rfl
theorem dX6_mannersBarred_33 : decode cX6_mannersBarred 33 = .ok (.ifCond .eq 13, 3) := chkD_at okX6_mannersBarred_0 21 rfl
theorem dX6_mannersBarred_36 : decode cX6_mannersBarred 36 = .ok (.iload_n 2, 1) := chkD_at okX6_mannersBarred_0 22 rfl
theorem dX6_mannersBarred_37 : decode cX6_mannersBarred 37 = .ok (.iconst 2, 1) := chkD_at okX6_mannersBarred_0 23 rfl
theorem dX6_mannersBarred_38 : decode cX6_mannersBarred 38 = .ok (.iand, 1) := chkD_at okX6_mannersBarred_0 24 rfl
theorem dX6_mannersBarred_39 : decode cX6_mannersBarred 39 = .ok (.ifCond .eq 7, 3) := chkD_at okX6_mannersBarred_0 25 rfl
theorem dX6_mannersBarred_42 : decode cX6_mannersBarred 42 = .ok (.iconst 1, 1) := chkD_at okX6_mannersBarred_0 26 rfl
theorem dX6_mannersBarred_43 : decode cX6_mannersBarred 43 = .ok (.goto 4, 3) := chkD_at okX6_mannersBarred_0 27 rfl
theorem dX6_mannersBarred_46 : decode cX6_mannersBarred 46 = .ok (.iconst 0, 1) := chkD_at okX6_mannersBarred_0 28 rfl
theorem dX6_mannersBarred_47 : decode cX6_mannersBarred 47 = .ok (.istore 4, 2) := chkD_at okX6_mannersBarred_0 29 rfl
theorem dX6_mannersBarred_49 : decode cX6_mannersBarred 49 = .ok (.iload_n 0, 1) := chkD_at okX6_mannersBarred_0 30 rfl
theorem dX6_mannersBarred_50 : decode cX6_mannersBarred 50 = .ok (.iconst 3, 1) := chkD_at okX6_mannersBarred_0 31 rfl
theorem dX6_mannersBarred_51 : decode cX6_mannersBarred 51 = .ok (.if_icmp .eq 13, 3) := chkD_at okX6_mannersBarred_0 32 rfl
theorem dX6_mannersBarred_54 : decode cX6_mannersBarred 54 = .ok (.iload_n 3, 1) := chkD_at okX6_mannersBarred_0 33 rfl
theorem dX6_mannersBarred_55 : decode cX6_mannersBarred 55 = .ok (.ifCond .eq 13, 3) := chkD_at okX6_mannersBarred_0 34 rfl
theorem dX6_mannersBarred_58 : decode cX6_mannersBarred 58 = .ok (.iload_n 2, 1) := chkD_at okX6_mannersBarred_0 35 rfl
theorem dX6_mannersBarred_59 : decode cX6_mannersBarred 59 = .ok (.iconst 1, 1) := chkD_at okX6_mannersBarred_0 36 rfl
theorem dX6_mannersBarred_60 : decode cX6_mannersBarred 60 = .ok (.iand, 1) := chkD_at okX6_mannersBarred_0 37 rfl
theorem dX6_mannersBarred_61 : decode cX6_mannersBarred 61 = .ok (.ifCond .eq 7, 3) := chkD_at okX6_mannersBarred_0 38 rfl
theorem dX6_mannersBarred_64 : decode cX6_mannersBarred 64 = .ok (.iconst 1, 1) := chkD_at okX6_mannersBarred_0 39 rfl
theorem dX6_mannersBarred_65 : decode cX6_mannersBarred 65 = .ok (.goto 4, 3) := chkD_at okX6_mannersBarred_0 40 rfl
theorem dX6_mannersBarred_68 : decode cX6_mannersBarred 68 = .ok (.iconst 0, 1) := chkD_at okX6_mannersBarred_0 41 rfl
theorem dX6_mannersBarred_69 : decode cX6_mannersBarred 69 = .ok (.istore 5, 2) := chkD_at okX6_mannersBarred_0 42 rfl
theorem dX6_mannersBarred_71 : decode cX6_mannersBarred 71 = .ok (.ldc_w 301, 3) := chkD_at okX6_mannersBarred_0 43 rfl
theorem dX6_mannersBarred_74 : decode cX6_mannersBarred 74 = .ok (.istore 6, 2) := chkD_at okX6_mannersBarred_0 44 rfl
theorem dX6_mannersBarred_76 : decode cX6_mannersBarred 76 = .ok (.iload 4, 2) := chkD_at okX6_mannersBarred_0 45 rfl
theorem dX6_mannersBarred_78 : decode cX6_mannersBarred 78 = .ok (.ifCond .eq 16, 3) := chkD_at okX6_mannersBarred_0 46 rfl
theorem dX6_mannersBarred_81 : decode cX6_mannersBarred 81 = .ok (.iload 6, 2) := chkD_at okX6_mannersBarred_0 47 rfl
theorem dX6_mannersBarred_83 : decode cX6_mannersBarred 83 = .ok (.bipush 15, 2) := chkD_at okX6_mannersBarred_0 48 rfl
theorem dX6_mannersBarred_85 : decode cX6_mannersBarred 85 = .ok (.iload_n 1, 1) := chkD_at okX6_mannersBarred_0 49 rfl
theorem dX6_mannersBarred_86 : decode cX6_mannersBarred 86 = .ok (.iload_n 1, 1) := chkD_at okX6_mannersBarred_0 50 rfl
theorem dX6_mannersBarred_87 : decode cX6_mannersBarred 87 = .ok (.iconst 4, 1) := chkD_at okX6_mannersBarred_0 51 rfl
theorem dX6_mannersBarred_88 : decode cX6_mannersBarred 88 = .ok (.irem, 1) := chkD_at okX6_mannersBarred_0 52 rfl
theorem dX6_mannersBarred_89 : decode cX6_mannersBarred 89 = .ok (.isub, 1) := chkD_at okX6_mannersBarred_0 53 rfl
theorem dX6_mannersBarred_90 : decode cX6_mannersBarred 90 = .ok (.ishl, 1) := chkD_at okX6_mannersBarred_0 54 rfl
theorem dX6_mannersBarred_91 : decode cX6_mannersBarred 91 = .ok (.iand, 1) := chkD_at okX6_mannersBarred_0 55 rfl
theorem dX6_mannersBarred_92 : decode cX6_mannersBarred 92 = .ok (.istore 6, 2) := chkD_at okX6_mannersBarred_0 56 rfl
theorem dX6_mannersBarred_94 : decode cX6_mannersBarred 94 = .ok (.iload 5, 2) := chkD_at okX6_mannersBarred_0 57 rfl
theorem dX6_mannersBarred_96 : decode cX6_mannersBarred 96 = .ok (.ifCond .eq 15, 3) := chkD_at okX6_mannersBarred_0 58 rfl
theorem dX6_mannersBarred_99 : decode cX6_mannersBarred 99 = .ok (.iload 6, 2) := chkD_at okX6_mannersBarred_0 59 rfl
theorem dX6_mannersBarred_101 : decode cX6_mannersBarred 101 = .ok (.ldc_w 302, 3) := chkD_at okX6_mannersBarred_0 60 rfl
theorem dX6_mannersBarred_104 : decode cX6_mannersBarred 104 = .ok (.iload_n 1, 1) := chkD_at okX6_mannersBarred_0 61 rfl
theorem dX6_mannersBarred_105 : decode cX6_mannersBarred 105 = .ok (.iconst 4, 1) := chkD_at okX6_mannersBarred_0 62 rfl
theorem dX6_mannersBarred_106 : decode cX6_mannersBarred 106 = .ok (.irem, 1) := chkD_at okX6_mannersBarred_0 63 rfl
theorem dX6_mannersBarred_107 : decode cX6_mannersBarred 107 = .ok (.ishl, 1) := chkD_at okX6_mannersBarred_0 64 rfl
theorem dX6_mannersBarred_108 : decode cX6_mannersBarred 108 = .ok (.iand, 1) := chkD_at okX6_mannersBarred_0 65 rfl
theorem dX6_mannersBarred_109 : decode cX6_mannersBarred 109 = .ok (.istore 6, 2) := chkD_at okX6_mannersBarred_0 66 rfl
theorem dX6_mannersBarred_111 : decode cX6_mannersBarred 111 = .ok (.iload 6, 2) := chkD_at okX6_mannersBarred_0 67 rfl
theorem dX6_mannersBarred_113 : decode cX6_mannersBarred 113 = .ok (.ireturn, 1) := chkD_at okX6_mannersBarred_0 68 rfl
theorem okX6_barsParts_0 : chkD cX6_barsParts [(0, .iload_n 0, 1), (1, .iconst 1, 1), (2, .if_icmp .eq 8, 3), (5, .iload_n 0, 1), (6, .iconst 4, 1), (7, .if_icmp .ne 7, 3), (10, .iconst 1, 1), (11, .goto 4, 3), (14, .iconst 0, 1), (15, .ireturn, 1)] = true := by decide +kernel
theorem dX6_barsParts_0 : decode cX6_barsParts 0 = .ok (.iload_n 0, 1) := chkD_at okX6_barsParts_0 0 rfl
theorem dX6_barsParts_1 : decode cX6_barsParts 1 = .ok (.iconst 1, 1) := chkD_at okX6_barsParts_0 1 rfl
theorem dX6_barsParts_2 : decode cX6_barsParts 2 = .ok (.if_icmp .eq 8, 3) := chkD_at okX6_barsParts_0 2 rfl
theorem dX6_barsParts_5 : decode cX6_barsParts 5 = .ok (.iload_n 0, 1) := chkD_at okX6_barsParts_0 3 rfl
theorem dX6_barsParts_6 : decode cX6_barsParts 6 = .ok (.iconst 4, 1) := chkD_at okX6_barsParts_0 4 rfl
theorem dX6_barsParts_7 : decode cX6_barsParts 7 = .ok (.if_icmp .ne 7, 3) := chkD_at okX6_barsParts_0 5 rfl
theorem dX6_barsParts_10 : decode cX6_barsParts 10 = .ok (.iconst 1, 1) := chkD_at okX6_barsParts_0 6 rfl
theorem dX6_barsParts_11 : decode cX6_barsParts 11 = .ok (.goto 4, 3) := chkD_at okX6_barsParts_0 7 rfl
theorem dX6_barsParts_14 : decode cX6_barsParts 14 = .ok (.iconst 0, 1) := chkD_at okX6_barsParts_0 8 rfl
theorem dX6_barsParts_15 : decode cX6_barsParts 15 = .ok (.ireturn, 1) := chkD_at okX6_barsParts_0 9 rfl
theorem okX6_isPartEitherWay_0 : chkD cX6_isPartEitherWay [(0, .iload_n 0, 1), (1, .iload_n 1, 1), (2, .iand, 1), (3, .istore_n 2, 1), (4, .iload_n 2, 1), (5, .iload_n 0, 1), (6, .if_icmp .eq 8, 3), (9, .iload_n 2, 1), (10, .iload_n 1, 1), (11, .if_icmp .ne 7, 3), (14, .iconst 1, 1), (15, .goto 4, 3), (18, .iconst 0, 1), (19, .ireturn, 1)] = true := by decide +kernel
theorem dX6_isPartEitherWay_0 : decode cX6_isPartEitherWay 0 = .ok (.iload_n 0, 1) := chkD_at okX6_isPartEitherWay_0 0 rfl
theorem dX6_isPartEitherWay_1 : decode cX6_isPartEitherWay 1 = .ok (.iload_n 1, 1) := chkD_at okX6_isPartEitherWay_0 1 rfl
theorem dX6_isPartEitherWay_2 : decode cX6_isPartEitherWay 2 = .ok (.iand, 1) := chkD_at okX6_isPartEitherWay_0 2 rfl
theorem dX6_isPartEitherWay_3 : decode cX6_isPartEitherWay 3 = .ok (.istore_n 2, 1) := chkD_at okX6_isPartEitherWay_0 3 rfl
theorem dX6_isPartEitherWay_4 : decode cX6_isPartEitherWay 4 = .ok (.iload_n 2, 1) := chkD_at okX6_isPartEitherWay_0 4 rfl
theorem dX6_isPartEitherWay_5 : decode cX6_isPartEitherWay 5 = .ok (.iload_n 0, 1) := chkD_at okX6_isPartEitherWay_0 5 rfl
theorem dX6_isPartEitherWay_6 : decode cX6_isPartEitherWay 6 = .ok (.if_icmp .eq 8, 3) := chkD_at okX6_isPartEitherWay_0 6 rfl
theorem dX6_isPartEitherWay_9 : decode cX6_isPartEitherWay 9 = .ok (.iload_n 2, 1) := chkD_at okX6_isPartEitherWay_0 7 rfl
theorem dX6_isPartEitherWay_10 : decode cX6_isPartEitherWay 10 = .ok (.iload_n 1, 1) := chkD_at okX6_isPartEitherWay_0 8 rfl
theorem dX6_isPartEitherWay_11 : decode cX6_isPartEitherWay 11 = .ok (.if_icmp .ne 7, 3) := chkD_at okX6_isPartEitherWay_0 9 rfl
theorem dX6_isPartEitherWay_14 : decode cX6_isPartEitherWay 14 = .ok (.iconst 1, 1) := chkD_at okX6_isPartEitherWay_0 10 rfl
theorem dX6_isPartEitherWay_15 : decode cX6_isPartEitherWay 15 = .ok (.goto 4, 3) := chkD_at okX6_isPartEitherWay_0 11 rfl
theorem dX6_isPartEitherWay_18 : decode cX6_isPartEitherWay 18 = .ok (.iconst 0, 1) := chkD_at okX6_isPartEitherWay_0 12 rfl
theorem dX6_isPartEitherWay_19 : decode cX6_isPartEitherWay 19 = .ok (.ireturn, 1) := chkD_at okX6_isPartEitherWay_0 13 rfl
theorem okX6_barsSet_0 : chkD cX6_barsSet [(0, .iload_n 0, 1), (1, .invokestatic 303, 3), (4, .ifCond .eq 11, 3), (7, .iload_n 1, 1), (8, .iload_n 2, 1), (9, .invokestatic 306, 3), (12, .goto 13, 3), (15, .iload_n 1, 1), (16, .iload_n 2, 1), (17, .if_icmp .ne 7, 3), (20, .iconst 1, 1), (21, .goto 4, 3), (24, .iconst 0, 1), (25, .ireturn, 1)] = true := by decide +kernel
theorem dX6_barsSet_0 : decode cX6_barsSet 0 = .ok (.iload_n 0, 1) := chkD_at okX6_barsSet_0 0 rfl
theorem dX6_barsSet_1 : decode cX6_barsSet 1 = .ok (.invokestatic 303, 3) := chkD_at okX6_barsSet_0 1 rfl
theorem dX6_barsSet_4 : decode cX6_barsSet 4 = .ok (.ifCond .eq 11, 3) := chkD_at okX6_barsSet_0 2 rfl
theorem dX6_barsSet_7 : decode cX6_barsSet 7 = .ok (.iload_n 1, 1) := chkD_at okX6_barsSet_0 3 rfl
theorem dX6_barsSet_8 : decode cX6_barsSet 8 = .ok (.iload_n 2, 1) := chkD_at okX6_barsSet_0 4 rfl
theorem dX6_barsSet_9 : decode cX6_barsSet 9 = .ok (.invokestatic 306, 3) := chkD_at okX6_barsSet_0 5 rfl
theorem dX6_barsSet_12 : decode cX6_barsSet 12 = .ok (.goto 13, 3) := chkD_at okX6_barsSet_0 6 rfl
theorem dX6_barsSet_15 : decode cX6_barsSet 15 = .ok (.iload_n 1, 1) := chkD_at okX6_barsSet_0 7 rfl
theorem dX6_barsSet_16 : decode cX6_barsSet 16 = .ok (.iload_n 2, 1) := chkD_at okX6_barsSet_0 8 rfl
theorem dX6_barsSet_17 : decode cX6_barsSet 17 = .ok (.if_icmp .ne 7, 3) := chkD_at okX6_barsSet_0 9 rfl
theorem dX6_barsSet_20 : decode cX6_barsSet 20 = .ok (.iconst 1, 1) := chkD_at okX6_barsSet_0 10 rfl
theorem dX6_barsSet_21 : decode cX6_barsSet 21 = .ok (.goto 4, 3) := chkD_at okX6_barsSet_0 11 rfl
theorem dX6_barsSet_24 : decode cX6_barsSet 24 = .ok (.iconst 0, 1) := chkD_at okX6_barsSet_0 12 rfl
theorem dX6_barsSet_25 : decode cX6_barsSet 25 = .ok (.ireturn, 1) := chkD_at okX6_barsSet_0 13 rfl
theorem okX6_barsDish_0 : chkD cX6_barsDish [(0, .iload_n 0, 1), (1, .iload_n 1, 1), (2, .invokestatic 89, 3), (5, .iload_n 2, 1), (6, .invokestatic 89, 3), (9, .invokestatic 309, 3), (12, .ifCond .eq 26, 3), (15, .iload_n 0, 1), (16, .iload_n 1, 1), (17, .invokestatic 313, 3), (20, .iload_n 3, 1), (21, .invokestatic 316, 3), (24, .iload_n 2, 1), (25, .invokestatic 313, 3), (28, .invokestatic 319, 3), (31, .ifCond .eq 7, 3), (34, .iconst 1, 1), (35, .goto 4, 3), (38, .iconst 0, 1), (39, .ireturn, 1)] = true := by decide +kernel
theorem dX6_barsDish_0 : decode cX6_barsDish 0 = .ok (.iload_n 0, 1) := chkD_at okX6_barsDish_0 0 rfl
theorem dX6_barsDish_1 : decode cX6_barsDish 1 = .ok (.iload_n 1, 1) := chkD_at okX6_barsDish_0 1 rfl
theorem dX6_barsDish_2 : decode cX6_barsDish 2 = .ok (.invokestatic 89, 3) := chkD_at okX6_barsDish_0 2 rfl
theorem dX6_barsDish_5 : decode cX6_barsDish 5 = .ok (.iload_n 2, 1) := chkD_at okX6_barsDish_0 3 rfl
theorem dX6_barsDish_6 : decode cX6_barsDish 6 = .ok (.invokestatic 89, 3) := chkD_at okX6_barsDish_0 4 rfl
theorem dX6_barsDish_9 : decode cX6_barsDish 9 = .ok (.invokestatic 309, 3) := chkD_at okX6_barsDish_0 5 rfl
theorem dX6_barsDish_12 : decode cX6_barsDish 12 = .ok (.ifCond .eq 26, 3) := chkD_at okX6_barsDish_0 6 rfl
theorem dX6_barsDish_15 : decode cX6_barsDish 15 = .ok (.iload_n 0, 1) := chkD_at okX6_barsDish_0 7 rfl
theorem dX6_barsDish_16 : decode cX6_barsDish 16 = .ok (.iload_n 1, 1) := chkD_at okX6_barsDish_0 8 rfl
theorem dX6_barsDish_17 : decode cX6_barsDish 17 = .ok (.invokestatic 313, 3) := chkD_at okX6_barsDish_0 9 rfl
theorem dX6_barsDish_20 : decode cX6_barsDish 20 = .ok (.iload_n 3, 1) := chkD_at okX6_barsDish_0 10 rfl
theorem dX6_barsDish_21 : decode cX6_barsDish 21 = .ok (.invokestatic 316, 3) := chkD_at okX6_barsDish_0 11 rfl
theorem dX6_barsDish_24 : decode cX6_barsDish 24 = .ok (.iload_n 2, 1) := chkD_at okX6_barsDish_0 12 rfl
theorem dX6_barsDish_25 : decode cX6_barsDish 25 = .ok (.invokestatic 313, 3) := chkD_at okX6_barsDish_0 13 rfl
theorem dX6_barsDish_28 : decode cX6_barsDish 28 = .ok (.invokestatic 319, 3) := chkD_at okX6_barsDish_0 14 rfl
theorem dX6_barsDish_31 : decode cX6_barsDish 31 = .ok (.ifCond .eq 7, 3) := chkD_at okX6_barsDish_0 15 rfl
theorem dX6_barsDish_34 : decode cX6_barsDish 34 = .ok (.iconst 1, 1) := chkD_at okX6_barsDish_0 16 rfl
theorem dX6_barsDish_35 : decode cX6_barsDish 35 = .ok (.goto 4, 3) := chkD_at okX6_barsDish_0 17 rfl
theorem dX6_barsDish_38 : decode cX6_barsDish 38 = .ok (.iconst 0, 1) := chkD_at okX6_barsDish_0 18 rfl
theorem dX6_barsDish_39 : decode cX6_barsDish 39 = .ok (.ireturn, 1) := chkD_at okX6_barsDish_0 19 rfl
theorem okX6_howManyBars_0 : chkD cX6_howManyBars [(0, .iconst 0, 1), (1, .istore_n 3, 1), (2, .iconst 0, 1), (3, .istore 4, 2), (5, .iload 4, 2), (7, .getstatic 322, 3), (10, .arraylength, 1), (11, .if_icmp .ge 29, 3), (14, .iload_n 0, 1), (15, .iload_n 1, 1), (16, .invokestatic 89, 3), (19, .getstatic 322, 3), (22, .iload 4, 2), (24, .iaload, 1), (25, .invokestatic 309, 3), (28, .ifCond .eq 6, 3), (31, .iinc 3 1, 3), (34, .iinc 4 1, 3), (37, .goto (-32), 3), (40, .iload_n 3, 1), (41, .iload_n 0, 1), (42, .iload_n 1, 1), (43, .invokestatic 313, 3), (46, .iload_n 2, 1), (47, .invokestatic 316, 3), (50, .invokestatic 293, 3), (53, .imul, 1), (54, .ireturn, 1)] = true := by decide +kernel
theorem dX6_howManyBars_0 : decode cX6_howManyBars 0 = .ok (.iconst 0, 1) := chkD_at okX6_howManyBars_0 0 rfl
theorem dX6_howManyBars_1 : decode cX6_howManyBars 1 = .ok (.istore_n 3, 1) := chkD_at okX6_howManyBars_0 1 rfl
theorem dX6_howManyBars_2 : decode cX6_howManyBars 2 = .ok (.iconst 0, 1) := chkD_at okX6_howManyBars_0 2 rfl
theorem dX6_howManyBars_3 : decode cX6_howManyBars 3 = .ok (.istore 4, 2) := chkD_at okX6_howManyBars_0 3 rfl
theorem dX6_howManyBars_5 : decode cX6_howManyBars 5 = .ok (.iload 4, 2) := chkD_at okX6_howManyBars_0 4 rfl
theorem dX6_howManyBars_7 : decode cX6_howManyBars 7 = .ok (.getstatic 322, 3) := chkD_at okX6_howManyBars_0 5 rfl
theorem dX6_howManyBars_10 : decode cX6_howManyBars 10 = .ok (.arraylength, 1) := chkD_at okX6_howManyBars_0 6 rfl
theorem dX6_howManyBars_11 : decode cX6_howManyBars 11 = .ok (.if_icmp .ge 29, 3) := chkD_at okX6_howManyBars_0 7 rfl
theorem dX6_howManyBars_14 : decode cX6_howManyBars 14 = .ok (.iload_n 0, 1) := chkD_at okX6_howManyBars_0 8 rfl
theorem dX6_howManyBars_15 : decode cX6_howManyBars 15 = .ok (.iload_n 1, 1) := chkD_at okX6_howManyBars_0 9 rfl
theorem dX6_howManyBars_16 : decode cX6_howManyBars 16 = .ok (.invokestatic 89, 3) := chkD_at okX6_howManyBars_0 10 rfl
theorem dX6_howManyBars_19 : decode cX6_howManyBars 19 = .ok (.getstatic 322, 3) := chkD_at okX6_howManyBars_0 11 rfl
theorem dX6_howManyBars_22 : decode cX6_howManyBars 22 = .ok (.iload 4, 2) := chkD_at okX6_howManyBars_0 12 rfl
theorem dX6_howManyBars_24 : decode cX6_howManyBars 24 = .ok (.iaload, 1) := chkD_at okX6_howManyBars_0 13 rfl
theorem dX6_howManyBars_25 : decode cX6_howManyBars 25 = .ok (.invokestatic 309, 3) := chkD_at okX6_howManyBars_0 14 rfl
theorem dX6_howManyBars_28 : decode cX6_howManyBars 28 = .ok (.ifCond .eq 6, 3) := chkD_at okX6_howManyBars_0 15 rfl
theorem dX6_howManyBars_31 : decode cX6_howManyBars 31 = .ok (.iinc 3 1, 3) := chkD_at okX6_howManyBars_0 16 rfl
theorem dX6_howManyBars_34 : decode cX6_howManyBars 34 = .ok (.iinc 4 1, 3) := chkD_at okX6_howManyBars_0 17 rfl
theorem dX6_howManyBars_37 : decode cX6_howManyBars 37 = .ok (.goto (-32), 3) := chkD_at okX6_howManyBars_0 18 rfl
theorem dX6_howManyBars_40 : decode cX6_howManyBars 40 = .ok (.iload_n 3, 1) := chkD_at okX6_howManyBars_0 19 rfl
theorem dX6_howManyBars_41 : decode cX6_howManyBars 41 = .ok (.iload_n 0, 1) := chkD_at okX6_howManyBars_0 20 rfl
theorem dX6_howManyBars_42 : decode cX6_howManyBars 42 = .ok (.iload_n 1, 1) := chkD_at okX6_howManyBars_0 21 rfl
theorem dX6_howManyBars_43 : decode cX6_howManyBars 43 = .ok (.invokestatic 313, 3) := chkD_at okX6_howManyBars_0 22 rfl
theorem dX6_howManyBars_46 : decode cX6_howManyBars 46 = .ok (.iload_n 2, 1) := chkD_at okX6_howManyBars_0 23 rfl
theorem dX6_howManyBars_47 : decode cX6_howManyBars 47 = .ok (.invokestatic 316, 3) := chkD_at okX6_howManyBars_0 24 rfl
theorem dX6_howManyBars_50 : decode cX6_howManyBars 50 = .ok (.invokestatic 293, 3) := chkD_at okX6_howManyBars_0 25 rfl
theorem dX6_howManyBars_53 : decode cX6_howManyBars 53 = .ok (.imul, 1) := chkD_at okX6_howManyBars_0 26 rfl
theorem dX6_howManyBars_54 : decode cX6_howManyBars 54 = .ok (.ireturn, 1) := chkD_at okX6_howManyBars_0 27 rfl
theorem okX6_inStore_0 : chkD cX6_inStore [(0, .iconst 0, 1), (1, .istore_n 1, 1), (2, .iconst 0, 1), (3, .istore_n 2, 1), (4, .iload_n 2, 1), (5, .aload_n 0, 1), (6, .arraylength, 1), (7, .if_icmp .ge 21, 3), (10, .aload_n 0, 1), (11, .iload_n 2, 1), (12, .iaload, 1), (13, .ifCond .le 9, 3), (16, .iload_n 1, 1), (17, .iconst 1, 1), (18, .iload_n 2, 1), (19, .ishl, 1), (20, .ior, 1), (21, .istore_n 1, 1), (22, .iinc 2 1, 3), (25, .goto (-21), 3), (28, .iload_n 1, 1), (29, .ireturn, 1)] = true := by decide +kernel
theorem dX6_inStore_0 : decode cX6_inStore 0 = .ok (.iconst 0, 1) := chkD_at okX6_inStore_0 0 rfl
theorem dX6_inStore_1 : decode cX6_inStore 1 = .ok (.istore_n 1, 1) := chkD_at okX6_inStore_0 1 rfl
theorem dX6_inStore_2 : decode cX6_inStore 2 = .ok (.iconst 0, 1) := chkD_at okX6_inStore_0 2 rfl
theorem dX6_inStore_3 : decode cX6_inStore 3 = .ok (.istore_n 2, 1) := chkD_at okX6_inStore_0 3 rfl
theorem dX6_inStore_4 : decode cX6_inStore 4 = .ok (.iload_n 2, 1) := chkD_at okX6_inStore_0 4 rfl
theorem dX6_inStore_5 : decode cX6_inStore 5 = .ok (.aload_n 0, 1) := chkD_at okX6_inStore_0 5 rfl
theorem dX6_inStore_6 : decode cX6_inStore 6 = .ok (.arraylength, 1) := chkD_at okX6_inStore_0 6 rfl
theorem dX6_inStore_7 : decode cX6_inStore 7 = .ok (.if_icmp .ge 21, 3) := chkD_at okX6_inStore_0 7 rfl
theorem dX6_inStore_10 : decode cX6_inStore 10 = .ok (.aload_n 0, 1) := chkD_at okX6_inStore_0 8 rfl
theorem dX6_inStore_11 : decode cX6_inStore 11 = .ok (.iload_n 2, 1) := chkD_at okX6_inStore_0 9 rfl
theorem dX6_inStore_12 : decode cX6_inStore 12 = .ok (.iaload, 1) := chkD_at okX6_inStore_0 10 rfl
theorem dX6_inStore_13 : decode cX6_inStore 13 = .ok (.ifCond .le 9, 3) := chkD_at okX6_inStore_0 11 rfl
theorem dX6_inStore_16 : decode cX6_inStore 16 = .ok (.iload_n 1, 1) := chkD_at okX6_inStore_0 12 rfl
theorem dX6_inStore_17 : decode cX6_inStore 17 = .ok (.iconst 1, 1) := chkD_at okX6_inStore_0 13 rfl
theorem dX6_inStore_18 : decode cX6_inStore 18 = .ok (.iload_n 2, 1) := chkD_at okX6_inStore_0 14 rfl
theorem dX6_inStore_19 : decode cX6_inStore 19 = .ok (.ishl, 1) := chkD_at okX6_inStore_0 15 rfl
theorem dX6_inStore_20 : decode cX6_inStore 20 = .ok (.ior, 1) := chkD_at okX6_inStore_0 16 rfl
theorem dX6_inStore_21 : decode cX6_inStore 21 = .ok (.istore_n 1, 1) := chkD_at okX6_inStore_0 17 rfl
theorem dX6_inStore_22 : decode cX6_inStore 22 = .ok (.iinc 2 1, 3) := chkD_at okX6_inStore_0 18 rfl
theorem dX6_inStore_25 : decode cX6_inStore 25 = .ok (.goto (-21), 3) := chkD_at okX6_inStore_0 19 rfl
theorem dX6_inStore_28 : decode cX6_inStore 28 = .ok (.iload_n 1, 1) := chkD_at okX6_inStore_0 20 rfl
theorem dX6_inStore_29 : decode cX6_inStore 29 = .ok (.ireturn, 1) := chkD_at okX6_inStore_0 21 rfl
theorem okX6_takeFrom_0 : chkD cX6_takeFrom [(0, .iconst 0, 1), (1, .istore_n 2, 1), (2, .iload_n 2, 1), (3, .aload_n 0, 1), (4, .arraylength, 1), (5, .if_icmp .ge 27, 3), (8, .iload_n 1, 1), (9, .invokestatic 89, 3), (12, .iload_n 2, 1), (13, .invokestatic 319, 3), (16, .ifCond .eq 10, 3), (19, .aload_n 0, 1), (20, .iload_n 2, 1), (21, .dup2, 1), (22, .iaload, 1), (23, .iconst 1, 1), (24, .isub, 1), (25, .iastore, 1), (26, .iinc 2 1, 3), (29, .goto (-27), 3), (32, .return_, 1)] = true := by decide +kernel
theorem dX6_takeFrom_0 : decode cX6_takeFrom 0 = .ok (.iconst 0, 1) := chkD_at okX6_takeFrom_0 0 rfl
theorem dX6_takeFrom_1 : decode cX6_takeFrom 1 = .ok (.istore_n 2, 1) := chkD_at okX6_takeFrom_0 1 rfl
theorem dX6_takeFrom_2 : decode cX6_takeFrom 2 = .ok (.iload_n 2, 1) := chkD_at okX6_takeFrom_0 2 rfl
theorem dX6_takeFrom_3 : decode cX6_takeFrom 3 = .ok (.aload_n 0, 1) := chkD_at okX6_takeFrom_0 3 rfl
theorem dX6_takeFrom_4 : decode cX6_takeFrom 4 = .ok (.arraylength, 1) := chkD_at okX6_takeFrom_0 4 rfl
theorem dX6_takeFrom_5 : decode cX6_takeFrom 5 = .ok (.if_icmp .ge 27, 3) := chkD_at okX6_takeFrom_0 5 rfl
theorem dX6_takeFrom_8 : decode cX6_takeFrom 8 = .ok (.iload_n 1, 1) := chkD_at okX6_takeFrom_0 6 rfl
theorem dX6_takeFrom_9 : decode cX6_takeFrom 9 = .ok (.invokestatic 89, 3) := chkD_at okX6_takeFrom_0 7 rfl
theorem dX6_takeFrom_12 : decode cX6_takeFrom 12 = .ok (.iload_n 2, 1) := chkD_at okX6_takeFrom_0 8 rfl
theorem dX6_takeFrom_13 : decode cX6_takeFrom 13 = .ok (.invokestatic 319, 3) := chkD_at okX6_takeFrom_0 9 rfl
theorem dX6_takeFrom_16 : decode cX6_takeFrom 16 = .ok (.ifCond .eq 10, 3) := chkD_at okX6_takeFrom_0 10 rfl
theorem dX6_takeFrom_19 : decode cX6_takeFrom 19 = .ok (.aload_n 0, 1) := chkD_at okX6_takeFrom_0 11 rfl
theorem dX6_takeFrom_20 : decode cX6_takeFrom 20 = .ok (.iload_n 2, 1) := chkD_at okX6_takeFrom_0 12 rfl
theorem dX6_takeFrom_21 : decode cX6_takeFrom 21 = .ok (.dup2, 1) := chkD_at okX6_takeFrom_0 13 rfl
theorem dX6_takeFrom_22 : decode cX6_takeFrom 22 = .ok (.iaload, 1) := chkD_at okX6_takeFrom_0 14 rfl
theorem dX6_takeFrom_23 : decode cX6_takeFrom 23 = .ok (.iconst 1, 1) := chkD_at okX6_takeFrom_0 15 rfl
theorem dX6_takeFrom_24 : decode cX6_takeFrom 24 = .ok (.isub, 1) := chkD_at okX6_takeFrom_0 16 rfl
theorem dX6_takeFrom_25 : decode cX6_takeFrom 25 = .ok (.iastore, 1) := chkD_at okX6_takeFrom_0 17 rfl
theorem dX6_takeFrom_26 : decode cX6_takeFrom 26 = .ok (.iinc 2 1, 3) := chkD_at okX6_takeFrom_0 18 rfl
theorem dX6_takeFrom_29 : decode cX6_takeFrom 29 = .ok (.goto (-27), 3) := chkD_at okX6_takeFrom_0 19 rfl
theorem dX6_takeFrom_32 : decode cX6_takeFrom 32 = .ok (.return_, 1) := chkD_at okX6_takeFrom_0 20 rfl
theorem okJ6_bitCount_0f7a4_0 : chkD cJ6_bitCount_0f7a4 [(0, .iload_n 0, 1), (1, .iload_n 0, 1), (2, .iconst 1, 1), (3, .iushr, 1), (4, .ldc_w 265, 3), (7, .iand, 1), (8, .isub, 1), (9, .istore_n 0, 1), (10, .iload_n 0, 1), (11, .ldc_w 266, 3), (14, .iand, 1), (15, .iload_n 0, 1), (16, .iconst 2, 1), (17, .iushr, 1), (18, .ldc_w 266, 3), (21, .iand, 1), (22, .iadd, 1), (23, .istore_n 0, 1), (24, .iload_n 0, 1), (25, .iload_n 0, 1), (26, .iconst 4, 1), (27, .iushr, 1), (28, .iadd, 1), (29, .ldc_w 267, 3), (32, .iand, 1), (33, .istore_n 0, 1), (34, .iload_n 0, 1), (35, .iload_n 0, 1), (36, .bipush 8, 2), (38, .iushr, 1), (39, .iadd, 1), (40, .istore_n 0, 1), (41, .iload_n 0, 1), (42, .iload_n 0, 1), (43, .bipush 16, 2), (45, .iushr, 1), (46, .iadd, 1), (47, .istore_n 0, 1), (48, .iload_n 0, 1), (49, .bipush 63, 2), (51, .iand, 1), (52, .ireturn, 1)] = true := by decide +kernel
theorem dJ6_bitCount_0f7a4_0 : decode cJ6_bitCount_0f7a4 0 = .ok (.iload_n 0, 1) := chkD_at okJ6_bitCount_0f7a4_0 0 rfl
theorem dJ6_bitCount_0f7a4_1 : decode cJ6_bitCount_0f7a4 1 = .ok (.iload_n 0, 1) := chkD_at okJ6_bitCount_0f7a4_0 1 rfl
theorem dJ6_bitCount_0f7a4_2 : decode cJ6_bitCount_0f7a4 2 = .ok (.iconst 1, 1) := chkD_at okJ6_bitCount_0f7a4_0 2 rfl
theorem dJ6_bitCount_0f7a4_3 : decode cJ6_bitCount_0f7a4 3 = .ok (.iushr, 1) := chkD_at okJ6_bitCount_0f7a4_0 3 rfl
theorem dJ6_bitCount_0f7a4_4 : decode cJ6_bitCount_0f7a4 4 = .ok (.ldc_w 265, 3) := chkD_at okJ6_bitCount_0f7a4_0 4 rfl
theorem dJ6_bitCount_0f7a4_7 : decode cJ6_bitCount_0f7a4 7 = .ok (.iand, 1) := chkD_at okJ6_bitCount_0f7a4_0 5 rfl
theorem dJ6_bitCount_0f7a4_8 : decode cJ6_bitCount_0f7a4 8 = .ok (.isub, 1) := chkD_at okJ6_bitCount_0f7a4_0 6 rfl
theorem dJ6_bitCount_0f7a4_9 : decode cJ6_bitCount_0f7a4 9 = .ok (.istore_n 0, 1) := chkD_at okJ6_bitCount_0f7a4_0 7 rfl
theorem dJ6_bitCount_0f7a4_10 : decode cJ6_bitCount_0f7a4 10 = .ok (.iload_n 0, 1) := chkD_at okJ6_bitCount_0f7a4_0 8 rfl
theorem dJ6_bitCount_0f7a4_11 : decode cJ6_bitCount_0f7a4 11 = .ok (.ldc_w 266, 3) := chkD_at okJ6_bitCount_0f7a4_0 9 rfl
theorem dJ6_bitCount_0f7a4_14 : decode cJ6_bitCount_0f7a4 14 = .ok (.iand, 1) := chkD_at okJ6_bitCount_0f7a4_0 10 rfl
theorem dJ6_bitCount_0f7a4_15 : decode cJ6_bitCount_0f7a4 15 = .ok (.iload_n 0, 1) := chkD_at okJ6_bitCount_0f7a4_0 11 rfl
theorem dJ6_bitCount_0f7a4_16 : decode cJ6_bitCount_0f7a4 16 = .ok (.iconst 2, 1) := chkD_at okJ6_bitCount_0f7a4_0 12 rfl
theorem dJ6_bitCount_0f7a4_17 : decode cJ6_bitCount_0f7a4 17 = .ok (.iushr, 1) := chkD_at okJ6_bitCount_0f7a4_0 13 rfl
theorem dJ6_bitCount_0f7a4_18 : decode cJ6_bitCount_0f7a4 18 = .ok (.ldc_w 266, 3) := chkD_at okJ6_bitCount_0f7a4_0 14 rfl
theorem dJ6_bitCount_0f7a4_21 : decode cJ6_bitCount_0f7a4 21 = .ok (.iand, 1) := chkD_at okJ6_bitCount_0f7a4_0 15 rfl
theorem dJ6_bitCount_0f7a4_22 : decode cJ6_bitCount_0f7a4 22 = .ok (.iadd, 1) := chkD_at okJ6_bitCount_0f7a4_0 16 rfl
theorem dJ6_bitCount_0f7a4_23 : decode cJ6_bitCount_0f7a4 23 = .ok (.istore_n 0, 1) := chkD_at okJ6_bitCount_0f7a4_0 17 rfl
theorem dJ6_bitCount_0f7a4_24 : decode cJ6_bitCount_0f7a4 24 = .ok (.iload_n 0, 1) := chkD_at okJ6_bitCount_0f7a4_0 18 rfl
theorem dJ6_bitCount_0f7a4_25 : decode cJ6_bitCount_0f7a4 25 = .ok (.iload_n 0, 1) := chkD_at okJ6_bitCount_0f7a4_0 19 rfl
theorem dJ6_bitCount_0f7a4_26 : decode cJ6_bitCount_0f7a4 26 = .ok (.iconst 4, 1) := chkD_at okJ6_bitCount_0f7a4_0 20 rfl
theorem dJ6_bitCount_0f7a4_27 : decode cJ6_bitCount_0f7a4 27 = .ok (.iushr, 1) := chkD_at okJ6_bitCount_0f7a4_0 21 rfl
theorem dJ6_bitCount_0f7a4_28 : decode cJ6_bitCount_0f7a4 28 = .ok (.iadd, 1) := chkD_at okJ6_bitCount_0f7a4_0 22 rfl
theorem dJ6_bitCount_0f7a4_29 : decode cJ6_bitCount_0f7a4 29 = .ok (.ldc_w 267, 3) := chkD_at okJ6_bitCount_0f7a4_0 23 rfl
theorem dJ6_bitCount_0f7a4_32 : decode cJ6_bitCount_0f7a4 32 = .ok (.iand, 1) := chkD_at okJ6_bitCount_0f7a4_0 24 rfl
theorem dJ6_bitCount_0f7a4_33 : decode cJ6_bitCount_0f7a4 33 = .ok (.istore_n 0, 1) := chkD_at okJ6_bitCount_0f7a4_0 25 rfl
theorem dJ6_bitCount_0f7a4_34 : decode cJ6_bitCount_0f7a4 34 = .ok (.iload_n 0, 1) := chkD_at okJ6_bitCount_0f7a4_0 26 rfl
theorem dJ6_bitCount_0f7a4_35 : decode cJ6_bitCount_0f7a4 35 = .ok (.iload_n 0, 1) := chkD_at okJ6_bitCount_0f7a4_0 27 rfl
theorem dJ6_bitCount_0f7a4_36 : decode cJ6_bitCount_0f7a4 36 = .ok (.bipush 8, 2) := chkD_at okJ6_bitCount_0f7a4_0 28 rfl
theorem dJ6_bitCount_0f7a4_38 : decode cJ6_bitCount_0f7a4 38 = .ok (.iushr, 1) := chkD_at okJ6_bitCount_0f7a4_0 29 rfl
theorem dJ6_bitCount_0f7a4_39 : decode cJ6_bitCount_0f7a4 39 = .ok (.iadd, 1) := chkD_at okJ6_bitCount_0f7a4_0 30 rfl
theorem dJ6_bitCount_0f7a4_40 : decode cJ6_bitCount_0f7a4 40 = .ok (.istore_n 0, 1) := chkD_at okJ6_bitCount_0f7a4_0 31 rfl
theorem dJ6_bitCount_0f7a4_41 : decode cJ6_bitCount_0f7a4 41 = .ok (.iload_n 0, 1) := chkD_at okJ6_bitCount_0f7a4_0 32 rfl
theorem dJ6_bitCount_0f7a4_42 : decode cJ6_bitCount_0f7a4 42 = .ok (.iload_n 0, 1) := chkD_at okJ6_bitCount_0f7a4_0 33 rfl
theorem dJ6_bitCount_0f7a4_43 : decode cJ6_bitCount_0f7a4 43 = .ok (.bipush 16, 2) := chkD_at okJ6_bitCount_0f7a4_0 34 rfl
theorem dJ6_bitCount_0f7a4_45 : decode cJ6_bitCount_0f7a4 45 = .ok (.iushr, 1) := chkD_at okJ6_bitCount_0f7a4_0 35 rfl
theorem dJ6_bitCount_0f7a4_46 : decode cJ6_bitCount_0f7a4 46 = .ok (.iadd, 1) := chkD_at okJ6_bitCount_0f7a4_0 36 rfl
theorem dJ6_bitCount_0f7a4_47 : decode cJ6_bitCount_0f7a4 47 = .ok (.istore_n 0, 1) := chkD_at okJ6_bitCount_0f7a4_0 37 rfl
theorem dJ6_bitCount_0f7a4_48 : decode cJ6_bitCount_0f7a4 48 = .ok (.iload_n 0, 1) := chkD_at okJ6_bitCount_0f7a4_0 38 rfl
theorem dJ6_bitCount_0f7a4_49 : decode cJ6_bitCount_0f7a4 49 = .ok (.bipush 63, 2) := chkD_at okJ6_bitCount_0f7a4_0 39 rfl
theorem dJ6_bitCount_0f7a4_51 : decode cJ6_bitCount_0f7a4 51 = .ok (.iand, 1) := chkD_at okJ6_bitCount_0f7a4_0 40 rfl
theorem dJ6_bitCount_0f7a4_52 : decode cJ6_bitCount_0f7a4 52 = .ok (.ireturn, 1) := chkD_at okJ6_bitCount_0f7a4_0 41 rfl
theorem okJ9_min_7cf53_0 : chkD cJ9_min_7cf53 [(0, .iload_n 0, 1), (1, .iload_n 1, 1), (2, .if_icmp .gt 7, 3), (5, .iload_n 0, 1), (6, .goto 4, 3), (9, .iload_n 1, 1), (10, .ireturn, 1)] = true := by decide +kernel
theorem dJ9_min_7cf53_0 : decode cJ9_min_7cf53 0 = .ok (.iload_n 0, 1) := chkD_at okJ9_min_7cf53_0 0 rfl
theorem dJ9_min_7cf53_1 : decode cJ9_min_7cf53 1 = .ok (.iload_n 1, 1) := chkD_at okJ9_min_7cf53_0 1 rfl
theorem dJ9_min_7cf53_2 : decode cJ9_min_7cf53 2 = .ok (.if_icmp .gt 7, 3) := chkD_at okJ9_min_7cf53_0 2 rfl
theorem dJ9_min_7cf53_5 : decode cJ9_min_7cf53 5 = .ok (.iload_n 0, 1) := chkD_at okJ9_min_7cf53_0 3 rfl
theorem dJ9_min_7cf53_6 : decode cJ9_min_7cf53 6 = .ok (.goto 4, 3) := chkD_at okJ9_min_7cf53_0 4 rfl
theorem dJ9_min_7cf53_9 : decode cJ9_min_7cf53 9 = .ok (.iload_n 1, 1) := chkD_at okJ9_min_7cf53_0 5 rfl
theorem dJ9_min_7cf53_10 : decode cJ9_min_7cf53 10 = .ok (.ireturn, 1) := chkD_at okJ9_min_7cf53_0 6 rfl
theorem okJ0_length_8abf5_0 : chkD cJ0_length_8abf5 [(0, .aload_n 0, 1), (1, .getfield 9, 3), (4, .arraylength, 1), (5, .aload_n 0, 1), (6, .invokevirtual 335, 3), (9, .ishr, 1), (10, .ireturn, 1)] = true := by decide +kernel
theorem dJ0_length_8abf5_0 : decode cJ0_length_8abf5 0 = .ok (.aload_n 0, 1) := chkD_at okJ0_length_8abf5_0 0 rfl
theorem dJ0_length_8abf5_1 : decode cJ0_length_8abf5 1 = .ok (.getfield 9, 3) := chkD_at okJ0_length_8abf5_0 1 rfl
theorem dJ0_length_8abf5_4 : decode cJ0_length_8abf5 4 = .ok (.arraylength, 1) := chkD_at okJ0_length_8abf5_0 2 rfl
theorem dJ0_length_8abf5_5 : decode cJ0_length_8abf5 5 = .ok (.aload_n 0, 1) := chkD_at okJ0_length_8abf5_0 3 rfl
theorem dJ0_length_8abf5_6 : decode cJ0_length_8abf5 6 = .ok (.invokevirtual 335, 3) := chkD_at okJ0_length_8abf5_0 4 rfl
theorem dJ0_length_8abf5_9 : decode cJ0_length_8abf5 9 = .ok (.ishr, 1) := chkD_at okJ0_length_8abf5_0 5 rfl
theorem dJ0_length_8abf5_10 : decode cJ0_length_8abf5 10 = .ok (.ireturn, 1) := chkD_at okJ0_length_8abf5_0 6 rfl
theorem okJ0_charAt_5068e_0 : chkD cJ0_charAt_5068e [(0, .aload_n 0, 1), (1, .invokevirtual 492, 3), (4, .ifCond .eq 12, 3), (7, .aload_n 0, 1), (8, .getfield 9, 3), (11, .iload_n 1, 1), (12, .invokestatic 495, 3), (15, .ireturn, 1), (16, .aload_n 0, 1), (17, .getfield 9, 3), (20, .iload_n 1, 1), (21, .invokestatic 498, 3), (24, .ireturn, 1)] = true := by decide +kernel
theorem dJ0_charAt_5068e_0 : decode cJ0_charAt_5068e 0 = .ok (.aload_n 0, 1) := chkD_at okJ0_charAt_5068e_0 0 rfl
theorem dJ0_charAt_5068e_1 : decode cJ0_charAt_5068e 1 = .ok (.invokevirtual 492, 3) := chkD_at okJ0_charAt_5068e_0 1 rfl
theorem dJ0_charAt_5068e_4 : decode cJ0_charAt_5068e 4 = .ok (.ifCond .eq 12, 3) := chkD_at okJ0_charAt_5068e_0 2 rfl
theorem dJ0_charAt_5068e_7 : decode cJ0_charAt_5068e 7 = .ok (.aload_n 0, 1) := chkD_at okJ0_charAt_5068e_0 3 rfl
theorem dJ0_charAt_5068e_8 : decode cJ0_charAt_5068e 8 = .ok (.getfield 9, 3) := chkD_at okJ0_charAt_5068e_0 4 rfl
theorem dJ0_charAt_5068e_11 : decode cJ0_charAt_5068e 11 = .ok (.iload_n 1, 1) := chkD_at okJ0_charAt_5068e_0 5 rfl
theorem dJ0_charAt_5068e_12 : decode cJ0_charAt_5068e 12 = .ok (.invokestatic 495, 3) := chkD_at okJ0_charAt_5068e_0 6 rfl
theorem dJ0_charAt_5068e_15 : decode cJ0_charAt_5068e 15 = .ok (.ireturn, 1) := chkD_at okJ0_charAt_5068e_0 7 rfl
theorem dJ0_charAt_5068e_16 : decode cJ0_charAt_5068e 16 = .ok (.aload_n 0, 1) := chkD_at okJ0_charAt_5068e_0 8 rfl
theorem dJ0_charAt_5068e_17 : decode cJ0_charAt_5068e 17 = .ok (.getfield 9, 3) := chkD_at okJ0_charAt_5068e_0 9 rfl
theorem dJ0_charAt_5068e_20 : decode cJ0_charAt_5068e 20 = .ok (.iload_n 1, 1) := chkD_at okJ0_charAt_5068e_0 10 rfl
theorem dJ0_charAt_5068e_21 : decode cJ0_charAt_5068e 21 = .ok (.invokestatic 498, 3) := chkD_at okJ0_charAt_5068e_0 11 rfl
theorem dJ0_charAt_5068e_24 : decode cJ0_charAt_5068e 24 = .ok (.ireturn, 1) := chkD_at okJ0_charAt_5068e_0 12 rfl
theorem okJ0_coder_7d493_0 : chkD cJ0_coder_7d493 [(0, .getstatic 38, 3), (3, .ifCond .eq 10, 3), (6, .aload_n 0, 1), (7, .getfield 15, 3), (10, .goto 4, 3), (13, .iconst 1, 1), (14, .ireturn, 1)] = true := by decide +kernel
theorem dJ0_coder_7d493_0 : decode cJ0_coder_7d493 0 = .ok (.getstatic 38, 3) := chkD_at okJ0_coder_7d493_0 0 rfl
theorem dJ0_coder_7d493_3 : decode cJ0_coder_7d493 3 = .ok (.ifCond .eq 10, 3) := chkD_at okJ0_coder_7d493_0 1 rfl
theorem dJ0_coder_7d493_6 : decode cJ0_coder_7d493 6 = .ok (.aload_n 0, 1) := chkD_at okJ0_coder_7d493_0 2 rfl
theorem dJ0_coder_7d493_7 : decode cJ0_coder_7d493 7 = .ok (.getfield 15, 3) := chkD_at okJ0_coder_7d493_0 3 rfl
theorem dJ0_coder_7d493_10 : decode cJ0_coder_7d493 10 = .ok (.goto 4, 3) := chkD_at okJ0_coder_7d493_0 4 rfl
theorem dJ0_coder_7d493_13 : decode cJ0_coder_7d493 13 = .ok (.iconst 1, 1) := chkD_at okJ0_coder_7d493_0 5 rfl
theorem dJ0_coder_7d493_14 : decode cJ0_coder_7d493 14 = .ok (.ireturn, 1) := chkD_at okJ0_coder_7d493_0 6 rfl
theorem okJ0_isLatin1_aae02_0 : chkD cJ0_isLatin1_aae02 [(0, .getstatic 38, 3), (3, .ifCond .eq 14, 3), (6, .aload_n 0, 1), (7, .getfield 15, 3), (10, .ifCond .ne 7, 3), (13, .iconst 1, 1), (14, .goto 4, 3), (17, .iconst 0, 1), (18, .ireturn, 1)] = true := by decide +kernel
theorem dJ0_isLatin1_aae02_0 : decode cJ0_isLatin1_aae02 0 = .ok (.getstatic 38, 3) := chkD_at okJ0_isLatin1_aae02_0 0 rfl
theorem dJ0_isLatin1_aae02_3 : decode cJ0_isLatin1_aae02 3 = .ok (.ifCond .eq 14, 3) := chkD_at okJ0_isLatin1_aae02_0 1 rfl
theorem dJ0_isLatin1_aae02_6 : decode cJ0_isLatin1_aae02 6 = .ok (.aload_n 0, 1) := chkD_at okJ0_isLatin1_aae02_0 2 rfl
theorem dJ0_isLatin1_aae02_7 : decode cJ0_isLatin1_aae02 7 = .ok (.getfield 15, 3) := chkD_at okJ0_isLatin1_aae02_0 3 rfl
theorem dJ0_isLatin1_aae02_10 : decode cJ0_isLatin1_aae02 10 = .ok (.ifCond .ne 7, 3) := chkD_at okJ0_isLatin1_aae02_0 4 rfl
theorem dJ0_isLatin1_aae02_13 : decode cJ0_isLatin1_aae02 13 = .ok (.iconst 1, 1) := chkD_at okJ0_isLatin1_aae02_0 5 rfl
theorem dJ0_isLatin1_aae02_14 : decode cJ0_isLatin1_aae02 14 = .ok (.goto 4, 3) := chkD_at okJ0_isLatin1_aae02_0 6 rfl
theorem dJ0_isLatin1_aae02_17 : decode cJ0_isLatin1_aae02 17 = .ok (.iconst 0, 1) := chkD_at okJ0_isLatin1_aae02_0 7 rfl
theorem dJ0_isLatin1_aae02_18 : decode cJ0_isLatin1_aae02 18 = .ok (.ireturn, 1) := chkD_at okJ0_isLatin1_aae02_0 8 rfl
theorem okJ0_checkIndex_df160_0 : chkD cJ0_checkIndex_df160 [(0, .iload_n 0, 1), (1, .iload_n 1, 1), (2, .getstatic 1053, 3), (5, .invokestatic 1059, 3), (8, .pop, 1), (9, .return_, 1)] = true := by decide +kernel
theorem dJ0_checkIndex_df160_0 : decode cJ0_checkIndex_df160 0 = .ok (.iload_n 0, 1) := chkD_at okJ0_checkIndex_df160_0 0 rfl
theorem dJ0_checkIndex_df160_1 : decode cJ0_checkIndex_df160 1 = .ok (.iload_n 1, 1) := chkD_at okJ0_checkIndex_df160_0 1 rfl
theorem dJ0_checkIndex_df160_2 : decode cJ0_checkIndex_df160 2 = .ok (.getstatic 1053, 3) := chkD_at okJ0_checkIndex_df160_0 2 rfl
theorem dJ0_checkIndex_df160_5 : decode cJ0_checkIndex_df160 5 = .ok (.invokestatic 1059, 3) := chkD_at okJ0_checkIndex_df160_0 3 rfl
theorem dJ0_checkIndex_df160_8 : decode cJ0_checkIndex_df160 8 = .ok (.pop, 1) := chkD_at okJ0_checkIndex_df160_0 4 rfl
theorem dJ0_checkIndex_df160_9 : decode cJ0_checkIndex_df160 9 = .ok (.return_, 1) := chkD_at okJ0_checkIndex_df160_0 5 rfl
theorem okJ1_charAt_3b067_0 : chkD cJ1_charAt_3b067 [(0, .iload_n 1, 1), (1, .aload_n 0, 1), (2, .arraylength, 1), (3, .invokestatic 9, 3), (6, .aload_n 0, 1), (7, .iload_n 1, 1), (8, .baload, 1), (9, .sipush 255, 3), (12, .iand, 1), (13, .i2c, 1), (14, .ireturn, 1)] = true := by decide +kernel
theorem dJ1_charAt_3b067_0 : decode cJ1_charAt_3b067 0 = .ok (.iload_n 1, 1) := chkD_at okJ1_charAt_3b067_0 0 rfl
theorem dJ1_charAt_3b067_1 : decode cJ1_charAt_3b067 1 = .ok (.aload_n 0, 1) := chkD_at okJ1_charAt_3b067_0 1 rfl
theorem dJ1_charAt_3b067_2 : decode cJ1_charAt_3b067 2 = .ok (.arraylength, 1) := chkD_at okJ1_charAt_3b067_0 2 rfl
theorem dJ1_charAt_3b067_3 : decode cJ1_charAt_3b067 3 = .ok (.invokestatic 9, 3) := chkD_at okJ1_charAt_3b067_0 3 rfl
theorem dJ1_charAt_3b067_6 : decode cJ1_charAt_3b067 6 = .ok (.aload_n 0, 1) := chkD_at okJ1_charAt_3b067_0 4 rfl
theorem dJ1_charAt_3b067_7 : decode cJ1_charAt_3b067 7 = .ok (.iload_n 1, 1) := chkD_at okJ1_charAt_3b067_0 5 rfl
theorem dJ1_charAt_3b067_8 : decode cJ1_charAt_3b067 8 = .ok (.baload, 1) := chkD_at okJ1_charAt_3b067_0 6 rfl
theorem dJ1_charAt_3b067_9 : decode cJ1_charAt_3b067 9 = .ok (.sipush 255, 3) := chkD_at okJ1_charAt_3b067_0 7 rfl
theorem dJ1_charAt_3b067_12 : decode cJ1_charAt_3b067 12 = .ok (.iand, 1) := chkD_at okJ1_charAt_3b067_0 8 rfl
theorem dJ1_charAt_3b067_13 : decode cJ1_charAt_3b067 13 = .ok (.i2c, 1) := chkD_at okJ1_charAt_3b067_0 9 rfl
theorem dJ1_charAt_3b067_14 : decode cJ1_charAt_3b067 14 = .ok (.ireturn, 1) := chkD_at okJ1_charAt_3b067_0 10 rfl
theorem okJ2_getChar_3b067_0 : chkD cJ2_getChar_3b067 [(0, .getstatic 44, 3), (3, .ifCond .ne 25, 3), (6, .iload_n 1, 1), (7, .ifCond .lt 11, 3), (10, .iload_n 1, 1), (11, .aload_n 0, 1), (12, .invokestatic 48, 3), (15, .if_icmp .lt 13, 3), (18, .new 52, 3), (21, .dup, 1), (22, .ldc 54, 2), (24, .invokespecial 56, 3), (27, .athrow, 1), (28, .iload_n 1, 1), (29, .iconst 1, 1), (30, .ishl, 1), (31, .istore_n 1, 1), (32, .aload_n 0, 1), (33, .iload_n 1, 1), (34, .iinc 1 1, 3), (37, .baload, 1), (38, .sipush 255, 3), (41, .iand, 1), (42, .getstatic 59, 3), (45, .ishl, 1), (46, .aload_n 0, 1), (47, .iload_n 1, 1), (48, .baload, 1), (49, .sipush 255, 3), (52, .iand, 1), (53, .getstatic 63, 3), (56, .ishl, 1), (57, .ior, 1), (58, .i2c, 1), (59, .ireturn, 1)] = true := by decide +kernel
theorem dJ2_getChar_3b067_0 : decode cJ2_getChar_3b067 0 = .ok (.getstatic 44, 3) := chkD_at okJ2_getChar_3b067_0 0 rfl
theorem dJ2_getChar_3b067_3 : decode cJ2_getChar_3b067 3 = .ok (.ifCond .ne 25, 3) := chkD_at okJ2_getChar_3b067_0 1 rfl
theorem dJ2_getChar_3b067_6 : decode cJ2_getChar_3b067 6 = .ok (.iload_n 1, 1) := chkD_at okJ2_getChar_3b067_0 2 rfl
theorem dJ2_getChar_3b067_7 : decode cJ2_getChar_3b067 7 = .ok (.ifCond .lt 11, 3) := chkD_at okJ2_getChar_3b067_0 3 rfl
theorem dJ2_getChar_3b067_10 : decode cJ2_getChar_3b067 10 = .ok (.iload_n 1, 1) := chkD_at okJ2_getChar_3b067_0 4 rfl
theorem dJ2_getChar_3b067_11 : decode cJ2_getChar_3b067 11 = .ok (.aload_n 0, 1) := chkD_at okJ2_getChar_3b067_0 5 rfl
theorem dJ2_getChar_3b067_12 : decode cJ2_getChar_3b067 12 = .ok (.invokestatic 48, 3) := chkD_at okJ2_getChar_3b067_0 6 rfl
theorem dJ2_getChar_3b067_15 : decode cJ2_getChar_3b067 15 = .ok (.if_icmp .lt 13, 3) := chkD_at okJ2_getChar_3b067_0 7 rfl
theorem dJ2_getChar_3b067_18 : decode cJ2_getChar_3b067 18 = .ok (.new 52, 3) := chkD_at okJ2_getChar_3b067_0 8 rfl
theorem dJ2_getChar_3b067_21 : decode cJ2_getChar_3b067 21 = .ok (.dup, 1) := chkD_at okJ2_getChar_3b067_0 9 rfl
theorem dJ2_getChar_3b067_22 : decode cJ2_getChar_3b067 22 = .ok (.ldc 54, 2) := chkD_at okJ2_getChar_3b067_0 10 rfl
theorem dJ2_getChar_3b067_24 : decode cJ2_getChar_3b067 24 = .ok (.invokespecial 56, 3) := chkD_at okJ2_getChar_3b067_0 11 rfl
theorem dJ2_getChar_3b067_27 : decode cJ2_getChar_3b067 27 = .ok (.athrow, 1) := chkD_at okJ2_getChar_3b067_0 12 rfl
theorem dJ2_getChar_3b067_28 : decode cJ2_getChar_3b067 28 = .ok (.iload_n 1, 1) := chkD_at okJ2_getChar_3b067_0 13 rfl
theorem dJ2_getChar_3b067_29 : decode cJ2_getChar_3b067 29 = .ok (.iconst 1, 1) := chkD_at okJ2_getChar_3b067_0 14 rfl
theorem dJ2_getChar_3b067_30 : decode cJ2_getChar_3b067 30 = .ok (.ishl, 1) := chkD_at okJ2_getChar_3b067_0 15 rfl
theorem dJ2_getChar_3b067_31 : decode cJ2_getChar_3b067 31 = .ok (.istore_n 1, 1) := chkD_at okJ2_getChar_3b067_0 16 rfl
theorem dJ2_getChar_3b067_32 : decode cJ2_getChar_3b067 32 = .ok (.aload_n 0, 1) := chkD_at okJ2_getChar_3b067_0 17 rfl
theorem dJ2_getChar_3b067_33 : decode cJ2_getChar_3b067 33 = .ok (.iload_n 1, 1) := chkD_at okJ2_getChar_3b067_0 18 rfl
theorem dJ2_getChar_3b067_34 : decode cJ2_getChar_3b067 34 = .ok (.iinc 1 1, 3) := chkD_at okJ2_getChar_3b067_0 19 rfl
theorem dJ2_getChar_3b067_37 : decode cJ2_getChar_3b067 37 = .ok (.baload, 1) := chkD_at okJ2_getChar_3b067_0 20 rfl
theorem dJ2_getChar_3b067_38 : decode cJ2_getChar_3b067 38 = .ok (.sipush 255, 3) := chkD_at okJ2_getChar_3b067_0 21 rfl
theorem dJ2_getChar_3b067_41 : decode cJ2_getChar_3b067 41 = .ok (.iand, 1) := chkD_at okJ2_getChar_3b067_0 22 rfl
theorem dJ2_getChar_3b067_42 : decode cJ2_getChar_3b067 42 = .ok (.getstatic 59, 3) := chkD_at okJ2_getChar_3b067_0 23 rfl
theorem dJ2_getChar_3b067_45 : decode cJ2_getChar_3b067 45 = .ok (.ishl, 1) := chkD_at okJ2_getChar_3b067_0 24 rfl
theorem dJ2_getChar_3b067_46 : decode cJ2_getChar_3b067 46 = .ok (.aload_n 0, 1) := chkD_at okJ2_getChar_3b067_0 25 rfl
theorem dJ2_getChar_3b067_47 : decode cJ2_getChar_3b067 47 = .ok (.iload_n 1, 1) := chkD_at okJ2_getChar_3b067_0 26 rfl
theorem dJ2_getChar_3b067_48 : decode cJ2_getChar_3b067 48 = .ok (.baload, 1) := chkD_at okJ2_getChar_3b067_0 27 rfl
theorem dJ2_getChar_3b067_49 : decode cJ2_getChar_3b067 49 = .ok (.sipush 255, 3) := chkD_at okJ2_getChar_3b067_0 28 rfl
theorem dJ2_getChar_3b067_52 : decode cJ2_getChar_3b067 52 = .ok (.iand, 1) := chkD_at okJ2_getChar_3b067_0 29 rfl
theorem dJ2_getChar_3b067_53 : decode cJ2_getChar_3b067 53 = .ok (.getstatic 63, 3) := chkD_at okJ2_getChar_3b067_0 30 rfl
theorem dJ2_getChar_3b067_56 : decode cJ2_getChar_3b067 56 = .ok (.ishl, 1) := chkD_at okJ2_getChar_3b067_0 31 rfl
theorem dJ2_getChar_3b067_57 : decode cJ2_getChar_3b067 57 = .ok (.ior, 1) := chkD_at okJ2_getChar_3b067_0 32 rfl
theorem dJ2_getChar_3b067_58 : decode cJ2_getChar_3b067 58 = .ok (.i2c, 1) := chkD_at okJ2_getChar_3b067_0 33 rfl
theorem dJ2_getChar_3b067_59 : decode cJ2_getChar_3b067 59 = .ok (.ireturn, 1) := chkD_at okJ2_getChar_3b067_0 34 rfl
theorem okJ2_length_9d52b_0 : chkD cJ2_length_9d52b [(0, .aload_n 0, 1), (1, .arraylength, 1), (2, .iconst 1, 1), (3, .ishr, 1), (4, .ireturn, 1)] = true := by decide +kernel
theorem dJ2_length_9d52b_0 : decode cJ2_length_9d52b 0 = .ok (.aload_n 0, 1) := chkD_at okJ2_length_9d52b_0 0 rfl
theorem dJ2_length_9d52b_1 : decode cJ2_length_9d52b 1 = .ok (.arraylength, 1) := chkD_at okJ2_length_9d52b_0 1 rfl
theorem dJ2_length_9d52b_2 : decode cJ2_length_9d52b 2 = .ok (.iconst 1, 1) := chkD_at okJ2_length_9d52b_0 2 rfl
theorem dJ2_length_9d52b_3 : decode cJ2_length_9d52b 3 = .ok (.ishr, 1) := chkD_at okJ2_length_9d52b_0 3 rfl
theorem dJ2_length_9d52b_4 : decode cJ2_length_9d52b 4 = .ok (.ireturn, 1) := chkD_at okJ2_length_9d52b_0 4 rfl
theorem okJ2_charAt_3b067_0 : chkD cJ2_charAt_3b067 [(0, .iload_n 1, 1), (1, .aload_n 0, 1), (2, .invokestatic 67, 3), (5, .aload_n 0, 1), (6, .iload_n 1, 1), (7, .invokestatic 71, 3), (10, .ireturn, 1)] = true := by decide +kernel
theorem dJ2_charAt_3b067_0 : decode cJ2_charAt_3b067 0 = .ok (.iload_n 1, 1) := chkD_at okJ2_charAt_3b067_0 0 rfl
theorem dJ2_charAt_3b067_1 : decode cJ2_charAt_3b067 1 = .ok (.aload_n 0, 1) := chkD_at okJ2_charAt_3b067_0 1 rfl
theorem dJ2_charAt_3b067_2 : decode cJ2_charAt_3b067 2 = .ok (.invokestatic 67, 3) := chkD_at okJ2_charAt_3b067_0 2 rfl
theorem dJ2_charAt_3b067_5 : decode cJ2_charAt_3b067 5 = .ok (.aload_n 0, 1) := chkD_at okJ2_charAt_3b067_0 3 rfl
theorem dJ2_charAt_3b067_6 : decode cJ2_charAt_3b067 6 = .ok (.iload_n 1, 1) := chkD_at okJ2_charAt_3b067_0 4 rfl
theorem dJ2_charAt_3b067_7 : decode cJ2_charAt_3b067 7 = .ok (.invokestatic 71, 3) := chkD_at okJ2_charAt_3b067_0 5 rfl
theorem dJ2_charAt_3b067_10 : decode cJ2_charAt_3b067 10 = .ok (.ireturn, 1) := chkD_at okJ2_charAt_3b067_0 6 rfl
theorem okJ2_checkIndex_2214a_0 : chkD cJ2_checkIndex_2214a [(0, .iload_n 0, 1), (1, .aload_n 1, 1), (2, .invokestatic 48, 3), (5, .invokestatic 414, 3), (8, .return_, 1)] = true := by decide +kernel
theorem dJ2_checkIndex_2214a_0 : decode cJ2_checkIndex_2214a 0 = .ok (.iload_n 0, 1) := chkD_at okJ2_checkIndex_2214a_0 0 rfl
theorem dJ2_checkIndex_2214a_1 : decode cJ2_checkIndex_2214a 1 = .ok (.aload_n 1, 1) := chkD_at okJ2_checkIndex_2214a_0 1 rfl
theorem dJ2_checkIndex_2214a_2 : decode cJ2_checkIndex_2214a 2 = .ok (.invokestatic 48, 3) := chkD_at okJ2_checkIndex_2214a_0 2 rfl
theorem dJ2_checkIndex_2214a_5 : decode cJ2_checkIndex_2214a 5 = .ok (.invokestatic 414, 3) := chkD_at okJ2_checkIndex_2214a_0 3 rfl
theorem dJ2_checkIndex_2214a_8 : decode cJ2_checkIndex_2214a 8 = .ok (.return_, 1) := chkD_at okJ2_checkIndex_2214a_0 4 rfl
theorem okJ7_fill_d0a16_0 : chkD cJ7_fill_d0a16 [(0, .iconst 0, 1), (1, .istore_n 3, 1), (2, .aload_n 0, 1), (3, .arraylength, 1), (4, .istore 4, 2), (6, .iload_n 3, 1), (7, .iload 4, 2), (9, .if_icmp .ge 13, 3), (12, .aload_n 0, 1), (13, .iload_n 3, 1), (14, .lload_n 1, 1), (15, .lastore, 1), (16, .iinc 3 1, 3), (19, .goto (-13), 3), (22, .return_, 1)] = true := by decide +kernel
theorem dJ7_fill_d0a16_0 : decode cJ7_fill_d0a16 0 = .ok (.iconst 0, 1) := chkD_at okJ7_fill_d0a16_0 0 rfl
theorem dJ7_fill_d0a16_1 : decode cJ7_fill_d0a16 1 = .ok (.istore_n 3, 1) := chkD_at okJ7_fill_d0a16_0 1 rfl
theorem dJ7_fill_d0a16_2 : decode cJ7_fill_d0a16 2 = .ok (.aload_n 0, 1) := chkD_at okJ7_fill_d0a16_0 2 rfl
theorem dJ7_fill_d0a16_3 : decode cJ7_fill_d0a16 3 = .ok (.arraylength, 1) := chkD_at okJ7_fill_d0a16_0 3 rfl
theorem dJ7_fill_d0a16_4 : decode cJ7_fill_d0a16 4 = .ok (.istore 4, 2) := chkD_at okJ7_fill_d0a16_0 4 rfl
theorem dJ7_fill_d0a16_6 : decode cJ7_fill_d0a16 6 = .ok (.iload_n 3, 1) := chkD_at okJ7_fill_d0a16_0 5 rfl
theorem dJ7_fill_d0a16_7 : decode cJ7_fill_d0a16 7 = .ok (.iload 4, 2) := chkD_at okJ7_fill_d0a16_0 6 rfl
theorem dJ7_fill_d0a16_9 : decode cJ7_fill_d0a16 9 = .ok (.if_icmp .ge 13, 3) := chkD_at okJ7_fill_d0a16_0 7 rfl
theorem dJ7_fill_d0a16_12 : decode cJ7_fill_d0a16 12 = .ok (.aload_n 0, 1) := chkD_at okJ7_fill_d0a16_0 8 rfl
theorem dJ7_fill_d0a16_13 : decode cJ7_fill_d0a16 13 = .ok (.iload_n 3, 1) := chkD_at okJ7_fill_d0a16_0 9 rfl
theorem dJ7_fill_d0a16_14 : decode cJ7_fill_d0a16 14 = .ok (.lload_n 1, 1) := chkD_at okJ7_fill_d0a16_0 10 rfl
theorem dJ7_fill_d0a16_15 : decode cJ7_fill_d0a16 15 = .ok (.lastore, 1) := chkD_at okJ7_fill_d0a16_0 11 rfl
theorem dJ7_fill_d0a16_16 : decode cJ7_fill_d0a16 16 = .ok (.iinc 3 1, 3) := chkD_at okJ7_fill_d0a16_0 12 rfl
theorem dJ7_fill_d0a16_19 : decode cJ7_fill_d0a16 19 = .ok (.goto (-13), 3) := chkD_at okJ7_fill_d0a16_0 13 rfl
theorem dJ7_fill_d0a16_22 : decode cJ7_fill_d0a16 22 = .ok (.return_, 1) := chkD_at okJ7_fill_d0a16_0 14 rfl
theorem okJ7_fill_53178_0 : chkD cJ7_fill_53178 [(0, .iconst 0, 1), (1, .istore_n 2, 1), (2, .aload_n 0, 1), (3, .arraylength, 1), (4, .istore_n 3, 1), (5, .iload_n 2, 1), (6, .iload_n 3, 1), (7, .if_icmp .ge 13, 3), (10, .aload_n 0, 1), (11, .iload_n 2, 1), (12, .iload_n 1, 1), (13, .iastore, 1), (14, .iinc 2 1, 3), (17, .goto (-12), 3), (20, .return_, 1)] = true := by decide +kernel
theorem dJ7_fill_53178_0 : decode cJ7_fill_53178 0 = .ok (.iconst 0, 1) := chkD_at okJ7_fill_53178_0 0 rfl
theorem dJ7_fill_53178_1 : decode cJ7_fill_53178 1 = .ok (.istore_n 2, 1) := chkD_at okJ7_fill_53178_0 1 rfl
theorem dJ7_fill_53178_2 : decode cJ7_fill_53178 2 = .ok (.aload_n 0, 1) := chkD_at okJ7_fill_53178_0 2 rfl
theorem dJ7_fill_53178_3 : decode cJ7_fill_53178 3 = .ok (.arraylength, 1) := chkD_at okJ7_fill_53178_0 3 rfl
theorem dJ7_fill_53178_4 : decode cJ7_fill_53178 4 = .ok (.istore_n 3, 1) := chkD_at okJ7_fill_53178_0 4 rfl
theorem dJ7_fill_53178_5 : decode cJ7_fill_53178 5 = .ok (.iload_n 2, 1) := chkD_at okJ7_fill_53178_0 5 rfl
theorem dJ7_fill_53178_6 : decode cJ7_fill_53178 6 = .ok (.iload_n 3, 1) := chkD_at okJ7_fill_53178_0 6 rfl
theorem dJ7_fill_53178_7 : decode cJ7_fill_53178 7 = .ok (.if_icmp .ge 13, 3) := chkD_at okJ7_fill_53178_0 7 rfl
theorem dJ7_fill_53178_10 : decode cJ7_fill_53178 10 = .ok (.aload_n 0, 1) := chkD_at okJ7_fill_53178_0 8 rfl
theorem dJ7_fill_53178_11 : decode cJ7_fill_53178 11 = .ok (.iload_n 2, 1) := chkD_at okJ7_fill_53178_0 9 rfl
theorem dJ7_fill_53178_12 : decode cJ7_fill_53178 12 = .ok (.iload_n 1, 1) := chkD_at okJ7_fill_53178_0 10 rfl
theorem dJ7_fill_53178_13 : decode cJ7_fill_53178 13 = .ok (.iastore, 1) := chkD_at okJ7_fill_53178_0 11 rfl
theorem dJ7_fill_53178_14 : decode cJ7_fill_53178 14 = .ok (.iinc 2 1, 3) := chkD_at okJ7_fill_53178_0 12 rfl
theorem dJ7_fill_53178_17 : decode cJ7_fill_53178 17 = .ok (.goto (-12), 3) := chkD_at okJ7_fill_53178_0 13 rfl
theorem dJ7_fill_53178_20 : decode cJ7_fill_53178 20 = .ok (.return_, 1) := chkD_at okJ7_fill_53178_0 14 rfl
theorem okJ3_checkIndex_8e157_0 : chkD cJ3_checkIndex_8e157 [(0, .iload_n 0, 1), (1, .ifCond .lt 8, 3), (4, .iload_n 0, 1), (5, .iload_n 1, 1), (6, .if_icmp .lt 10, 3), (9, .aload_n 2, 1), (10, .iload_n 0, 1), (11, .iload_n 1, 1), (12, .invokestatic 95, 3), (15, .athrow, 1), (16, .iload_n 0, 1), (17, .ireturn, 1)] = true := by decide +kernel
theorem dJ3_checkIndex_8e157_0 : decode cJ3_checkIndex_8e157 0 = .ok (.iload_n 0, 1) := chkD_at okJ3_checkIndex_8e157_0 0 rfl
theorem dJ3_checkIndex_8e157_1 : decode cJ3_checkIndex_8e157 1 = .ok (.ifCond .lt 8, 3) := chkD_at okJ3_checkIndex_8e157_0 1 rfl
theorem dJ3_checkIndex_8e157_4 : decode cJ3_checkIndex_8e157 4 = .ok (.iload_n 0, 1) := chkD_at okJ3_checkIndex_8e157_0 2 rfl
theorem dJ3_checkIndex_8e157_5 : decode cJ3_checkIndex_8e157 5 = .ok (.iload_n 1, 1) := chkD_at okJ3_checkIndex_8e157_0 3 rfl
theorem dJ3_checkIndex_8e157_6 : decode cJ3_checkIndex_8e157 6 = .ok (.if_icmp .lt 10, 3) := chkD_at okJ3_checkIndex_8e157_0 4 rfl
theorem dJ3_checkIndex_8e157_9 : decode cJ3_checkIndex_8e157 9 = .ok (.aload_n 2, 1) := chkD_at okJ3_checkIndex_8e157_0 5 rfl
theorem dJ3_checkIndex_8e157_10 : decode cJ3_checkIndex_8e157 10 = .ok (.iload_n 0, 1) := chkD_at okJ3_checkIndex_8e157_0 6 rfl
theorem dJ3_checkIndex_8e157_11 : decode cJ3_checkIndex_8e157 11 = .ok (.iload_n 1, 1) := chkD_at okJ3_checkIndex_8e157_0 7 rfl
theorem dJ3_checkIndex_8e157_12 : decode cJ3_checkIndex_8e157 12 = .ok (.invokestatic 95, 3) := chkD_at okJ3_checkIndex_8e157_0 8 rfl
theorem dJ3_checkIndex_8e157_15 : decode cJ3_checkIndex_8e157 15 = .ok (.athrow, 1) := chkD_at okJ3_checkIndex_8e157_0 9 rfl
theorem dJ3_checkIndex_8e157_16 : decode cJ3_checkIndex_8e157 16 = .ok (.iload_n 0, 1) := chkD_at okJ3_checkIndex_8e157_0 10 rfl
theorem dJ3_checkIndex_8e157_17 : decode cJ3_checkIndex_8e157 17 = .ok (.ireturn, 1) := chkD_at okJ3_checkIndex_8e157_0 11 rfl
