theorem dX0_init_0 : decode cX0_init 0 = .ok (.aload_n 0, 1) := by decide +kernel
theorem dX0_init_1 : decode cX0_init 1 = .ok (.invokespecial 3, 3) := by decide +kernel
theorem dX0_init_4 : decode cX0_init 4 = .ok (.aload_n 0, 1) := by decide +kernel
theorem dX0_init_5 : decode cX0_init 5 = .ok (.sipush 256, 3) := by decide +kernel
theorem dX0_init_8 : decode cX0_init 8 = .ok (.newarray .int, 2) := by decide +kernel
theorem dX0_init_10 : decode cX0_init 10 = .ok (.putfield 9, 3) := by decide +kernel
theorem dX0_init_13 : decode cX0_init 13 = .ok (.aload_n 0, 1) := by decide +kernel
theorem dX0_init_14 : decode cX0_init 14 = .ok (.sipush 256, 3) := by decide +kernel
theorem dX0_init_17 : decode cX0_init 17 = .ok (.newarray .int, 2) := by decide +kernel
theorem dX0_init_19 : decode cX0_init 19 = .ok (.putfield 15, 3) := by decide +kernel
theorem dX0_init_22 : decode cX0_init 22 = .ok (.return_, 1) := by decide +kernel
theorem dX0_barAll_0 : decode cX0_barAll 0 = .ok (.aload_n 0, 1) := by decide +kernel
theorem dX0_barAll_1 : decode cX0_barAll 1 = .ok (.getfield 9, 3) := by decide +kernel
theorem dX0_barAll_4 : decode cX0_barAll 4 = .ok (.iconst 0, 1) := by decide +kernel
theorem dX0_barAll_5 : decode cX0_barAll 5 = .ok (.invokestatic 18, 3) := by decide +kernel
theorem dX0_barAll_8 : decode cX0_barAll 8 = .ok (.aload_n 0, 1) := by decide +kernel
theorem dX0_barAll_9 : decode cX0_barAll 9 = .ok (.getfield 15, 3) := by decide +kernel
theorem dX0_barAll_12 : decode cX0_barAll 12 = .ok (.iconst 0, 1) := by decide +kernel
theorem dX0_barAll_13 : decode cX0_barAll 13 = .ok (.invokestatic 18, 3) := by decide +kernel
theorem dX0_barAll_16 : decode cX0_barAll 16 = .ok (.iconst 0, 1) := by decide +kernel
theorem dX0_barAll_17 : decode cX0_barAll 17 = .ok (.istore_n 3, 1) := by decide +kernel
theorem dX0_barAll_18 : decode cX0_barAll 18 = .ok (.iload_n 3, 1) := by decide +kernel
theorem dX0_barAll_19 : decode cX0_barAll 19 = .ok (.aload_n 1, 1) := by decide +kernel
theorem dX0_barAll_20 : decode cX0_barAll 20 = .ok (.getfield 24, 3) := by decide +kernel
theorem dX0_barAll_23 : decode cX0_barAll 23 = .ok (.if_icmp .ge 26, 3) := by decide +kernel
theorem dX0_barAll_26 : decode cX0_barAll 26 = .ok (.aload_n 0, 1) := by decide +kernel
theorem dX0_barAll_27 : decode cX0_barAll 27 = .ok (.aload_n 1, 1) := by decide +kernel
theorem dX0_barAll_28 : decode cX0_barAll 28 = .ok (.getfield 30, 3) := by decide +kernel
theorem dX0_barAll_31 : decode cX0_barAll 31 = .ok (.iload_n 3, 1) := by decide +kernel
theorem dX0_barAll_32 : decode cX0_barAll 32 = .ok (.iaload, 1) := by decide +kernel
theorem dX0_barAll_33 : decode cX0_barAll 33 = .ok (.aload_n 1, 1) := by decide +kernel
theorem dX0_barAll_34 : decode cX0_barAll 34 = .ok (.getfield 33, 3) := by decide +kernel
theorem dX0_barAll_37 : decode cX0_barAll 37 = .ok (.iload_n 3, 1) := by decide +kernel
theorem dX0_barAll_38 : decode cX0_barAll 38 = .ok (.iaload, 1) := by decide +kernel
theorem dX0_barAll_39 : decode cX0_barAll 39 = .ok (.iload_n 2, 1) := by decide +kernel
theorem dX0_barAll_40 : decode cX0_barAll 40 = .ok (.invokevirtual 36, 3) := by decide +kernel
theorem dX0_barAll_43 : decode cX0_barAll 43 = .ok (.iinc 3 1, 3) := by decide +kernel
theorem dX0_barAll_46 : decode cX0_barAll 46 = .ok (.goto (-28), 3) := by decide +kernel
theorem dX0_barAll_49 : decode cX0_barAll 49 = .ok (.return_, 1) := by decide +kernel
theorem dX0_bar_0 : decode cX0_bar 0 = .ok (.iload_n 1, 1) := by decide +kernel
theorem dX0_bar_1 : decode cX0_bar 1 = .ok (.iload_n 2, 1) := by decide +kernel
theorem dX0_bar_2 : decode cX0_bar 2 = .ok (.invokestatic 40, 3) := by decide +kernel
theorem dX0_bar_5 : decode cX0_bar 5 = .ok (.iload_n 3, 1) := by decide +kernel
theorem dX0_bar_6 : decode cX0_bar 6 = .ok (.invokestatic 44, 3) := by decide +kernel
theorem dX0_bar_9 : decode cX0_bar 9 = .ok (.istore 4, 2) := by decide +kernel
theorem dX0_bar_11 : decode cX0_bar 11 = .ok (.iload_n 2, 1) := by decide +kernel
theorem dX0_bar_12 : decode cX0_bar 12 = .ok (.invokestatic 48, 3) := by decide +kernel
theorem dX0_bar_15 : decode cX0_bar 15 = .ok (.istore 5, 2) := by decide +kernel
theorem dX0_bar_17 : decode cX0_bar 17 = .ok (.iload_n 1, 1) := by decide +kernel
theorem dX0_bar_18 : decode cX0_bar 18 = .ok (.invokestatic 51, 3) := by decide +kernel
theorem dX0_bar_21 : decode cX0_bar 21 = .ok (.ifCond .ne 12, 3) := by decide +kernel
theorem dX0_bar_24 : decode cX0_bar 24 = .ok (.aload_n 0, 1) := by decide +kernel
theorem dX0_bar_25 : decode cX0_bar 25 = .ok (.iload 5, 2) := by decide +kernel
theorem dX0_bar_27 : decode cX0_bar 27 = .ok (.iload 4, 2) := by decide +kernel
theorem dX0_bar_29 : decode cX0_bar 29 = .ok (.invokevirtual 55, 3) := by decide +kernel
theorem dX0_bar_32 : decode cX0_bar 32 = .ok (.return_, 1) := by decide +kernel
theorem dX0_bar_33 : decode cX0_bar 33 = .ok (.iconst 0, 1) := by decide +kernel
theorem dX0_bar_34 : decode cX0_bar 34 = .ok (.istore 6, 2) := by decide +kernel
theorem dX0_bar_36 : decode cX0_bar 36 = .ok (.iload 6, 2) := by decide +kernel
theorem dX0_bar_38 : decode cX0_bar 38 = .ok (.getstatic 59, 3) := by decide +kernel
theorem dX0_bar_41 : decode cX0_bar 41 = .ok (.arraylength, 1) := by decide +kernel
theorem dX0_bar_42 : decode cX0_bar 42 = .ok (.if_icmp .ge 35, 3) := by decide +kernel
theorem dX0_bar_45 : decode cX0_bar 45 = .ok (.iload 5, 2) := by decide +kernel
theorem dX0_bar_47 : decode cX0_bar 47 = .ok (.getstatic 59, 3) := by decide +kernel
theorem dX0_bar_50 : decode cX0_bar 50 = .ok (.iload 6, 2) := by decide +kernel
theorem dX0_bar_52 : decode cX0_bar 52 = .ok (.iaload, 1) := by decide +kernel
theorem dX0_bar_53 : decode cX0_bar 53 = .ok (.invokestatic 62, 3) := by decide +kernel
theorem dX0_bar_56 : decode cX0_bar 56 = .ok (.ifCond .eq 15, 3) := by decide +kernel
theorem dX0_bar_59 : decode cX0_bar 59 = .ok (.aload_n 0, 1) := by decide +kernel
theorem dX0_bar_60 : decode cX0_bar 60 = .ok (.getstatic 59, 3) := by decide +kernel
theorem dX0_bar_63 : decode cX0_bar 63 = .ok (.iload 6, 2) := by decide +kernel
theorem dX0_bar_65 : decode cX0_bar 65 = .ok (.iaload, 1) := by decide +kernel
theorem dX0_bar_66 : decode cX0_bar 66 = .ok (.iload 4, 2) := by decide +kernel
theorem dX0_bar_68 : decode cX0_bar 68 = .ok (.invokevirtual 55, 3) := by decide +kernel
theorem dX0_bar_71 : decode cX0_bar 71 = .ok (.iinc 6 1, 3) := by decide +kernel
theorem dX0_bar_74 : decode cX0_bar 74 = .ok (.goto (-38), 3) := by decide +kernel
theorem dX0_bar_77 : decode cX0_bar 77 = .ok (.return_, 1) := by decide +kernel
theorem dX0_barIn_0 : decode cX0_barIn 0 = .ok (.aload_n 0, 1) := by decide +kernel
theorem dX0_barIn_1 : decode cX0_barIn 1 = .ok (.getfield 15, 3) := by decide +kernel
theorem dX0_barIn_4 : decode cX0_barIn 4 = .ok (.iload_n 1, 1) := by decide +kernel
theorem dX0_barIn_5 : decode cX0_barIn 5 = .ok (.dup2, 1) := by decide +kernel
theorem dX0_barIn_6 : decode cX0_barIn 6 = .ok (.iaload, 1) := by decide +kernel
theorem dX0_barIn_7 : decode cX0_barIn 7 = .ok (.aload_n 0, 1) := by decide +kernel
theorem dX0_barIn_8 : decode cX0_barIn 8 = .ok (.getfield 9, 3) := by decide +kernel
theorem dX0_barIn_11 : decode cX0_barIn 11 = .ok (.iload_n 1, 1) := by decide +kernel
theorem dX0_barIn_12 : decode cX0_barIn 12 = .ok (.iaload, 1) := by decide +kernel
theorem dX0_barIn_13 : decode cX0_barIn 13 = .ok (.iload_n 2, 1) := by decide +kernel
theorem dX0_barIn_14 : decode cX0_barIn 14 = .ok (.iand, 1) := by decide +kernel
theorem dX0_barIn_15 : decode cX0_barIn 15 = .ok (.ior, 1) := by decide +kernel
theorem dX0_barIn_16 : decode cX0_barIn 16 = .ok (.iastore, 1) := by decide +kernel
theorem dX0_barIn_17 : decode cX0_barIn 17 = .ok (.aload_n 0, 1) := by decide +kernel
theorem dX0_barIn_18 : decode cX0_barIn 18 = .ok (.getfield 9, 3) := by decide +kernel
theorem dX0_barIn_21 : decode cX0_barIn 21 = .ok (.iload_n 1, 1) := by decide +kernel
theorem dX0_barIn_22 : decode cX0_barIn 22 = .ok (.dup2, 1) := by decide +kernel
theorem dX0_barIn_23 : decode cX0_barIn 23 = .ok (.iaload, 1) := by decide +kernel
theorem dX0_barIn_24 : decode cX0_barIn 24 = .ok (.iload_n 2, 1) := by decide +kernel
theorem dX0_barIn_25 : decode cX0_barIn 25 = .ok (.ior, 1) := by decide +kernel
theorem dX0_barIn_26 : decode cX0_barIn 26 = .ok (.iastore, 1) := by decide +kernel
theorem dX0_barIn_27 : decode cX0_barIn 27 = .ok (.return_, 1) := by decide +kernel
theorem dX0_unbarred_0 : decode cX0_unbarred 0 = .ok (.sipush 1840, 3) := by decide +kernel
theorem dX0_unbarred_3 : decode cX0_unbarred 3 = .ok (.aload_n 0, 1) := by decide +kernel
theorem dX0_unbarred_4 : decode cX0_unbarred 4 = .ok (.getfield 9, 3) := by decide +kernel
theorem dX0_unbarred_7 : decode cX0_unbarred 7 = .ok (.invokestatic 66, 3) := by decide +kernel
theorem dX0_unbarred_10 : decode cX0_unbarred 10 = .ok (.isub, 1) := by decide +kernel
theorem dX0_unbarred_11 : decode cX0_unbarred 11 = .ok (.ireturn, 1) := by decide +kernel
theorem dX0_barredAloneBy_0 : decode cX0_barredAloneBy 0 = .ok (.iload_n 1, 1) := by decide +kernel
theorem dX0_barredAloneBy_1 : decode cX0_barredAloneBy 1 = .ok (.iload_n 2, 1) := by decide +kernel
theorem dX0_barredAloneBy_2 : decode cX0_barredAloneBy 2 = .ok (.invokestatic 40, 3) := by decide +kernel
theorem dX0_barredAloneBy_5 : decode cX0_barredAloneBy 5 = .ok (.iload_n 3, 1) := by decide +kernel
theorem dX0_barredAloneBy_6 : decode cX0_barredAloneBy 6 = .ok (.invokestatic 44, 3) := by decide +kernel
theorem dX0_barredAloneBy_9 : decode cX0_barredAloneBy 9 = .ok (.istore 4, 2) := by decide +kernel
theorem dX0_barredAloneBy_11 : decode cX0_barredAloneBy 11 = .ok (.iconst 0, 1) := by decide +kernel
theorem dX0_barredAloneBy_12 : decode cX0_barredAloneBy 12 = .ok (.istore 5, 2) := by decide +kernel
theorem dX0_barredAloneBy_14 : decode cX0_barredAloneBy 14 = .ok (.iconst 0, 1) := by decide +kernel
theorem dX0_barredAloneBy_15 : decode cX0_barredAloneBy 15 = .ok (.istore 6, 2) := by decide +kernel
theorem dX0_barredAloneBy_17 : decode cX0_barredAloneBy 17 = .ok (.iload 6, 2) := by decide +kernel
theorem dX0_barredAloneBy_19 : decode cX0_barredAloneBy 19 = .ok (.getstatic 59, 3) := by decide +kernel
theorem dX0_barredAloneBy_22 : decode cX0_barredAloneBy 22 = .ok (.arraylength, 1) := by decide +kernel
theorem dX0_barredAloneBy_23 : decode cX0_barredAloneBy 23 = .ok (.if_icmp .ge 50, 3) := by decide +kernel
theorem dX0_barredAloneBy_26 : decode cX0_barredAloneBy 26 = .ok (.getstatic 59, 3) := by decide +kernel
theorem dX0_barredAloneBy_29 : decode cX0_barredAloneBy 29 = .ok (.iload 6, 2) := by decide +kernel
theorem dX0_barredAloneBy_31 : decode cX0_barredAloneBy 31 = .ok (.iaload, 1) := by decide +kernel
theorem dX0_barredAloneBy_32 : decode cX0_barredAloneBy 32 = .ok (.istore 7, 2) := by decide +kernel
theorem dX0_barredAloneBy_34 : decode cX0_barredAloneBy 34 = .ok (.iload_n 1, 1) := by decide +kernel
theorem dX0_barredAloneBy_35 : decode cX0_barredAloneBy 35 = .ok (.iload_n 2, 1) := by decide +kernel
theorem dX0_barredAloneBy_36 : decode cX0_barredAloneBy 36 = .ok (.invokestatic 48, 3) := by decide +kernel
theorem dX0_barredAloneBy_39 : decode cX0_barredAloneBy 39 = .ok (.iload 7, 2) := by decide +kernel
theorem dX0_barredAloneBy_41 : decode cX0_barredAloneBy 41 = .ok (.invokestatic 70, 3) := by decide +kernel
theorem dX0_barredAloneBy_44 : decode cX0_barredAloneBy 44 = .ok (.ifCond .eq 23, 3) := by decide +kernel
theorem dX0_barredAloneBy_47 : decode cX0_barredAloneBy 47 = .ok (.iload 5, 2) := by decide +kernel
theorem dX0_barredAloneBy_49 : decode cX0_barredAloneBy 49 = .ok (.iload 4, 2) := by decide +kernel
theorem dX0_barredAloneBy_51 : decode cX0_barredAloneBy 51 = .ok (.aload_n 0, 1) := by decide +kernel
theorem dX0_barredAloneBy_52 : decode cX0_barredAloneBy 52 = .ok (.getfield 15, 3) := by decide +kernel
theorem dX0_barredAloneBy_55 : decode cX0_barredAloneBy 55 = .ok (.iload 7, 2) := by decide +kernel
theorem dX0_barredAloneBy_57 : decode cX0_barredAloneBy 57 = .ok (.iaload, 1) := by decide +kernel
theorem dX0_barredAloneBy_58 : decode cX0_barredAloneBy 58 = .ok (.iconst (-1), 1) := by decide +kernel
theorem dX0_barredAloneBy_59 : decode cX0_barredAloneBy 59 = .ok (.ixor, 1) := by decide +kernel
theorem dX0_barredAloneBy_60 : decode cX0_barredAloneBy 60 = .ok (.iand, 1) := by decide +kernel
theorem dX0_barredAloneBy_61 : decode cX0_barredAloneBy 61 = .ok (.invokestatic 74, 3) := by decide +kernel
theorem dX0_barredAloneBy_64 : decode cX0_barredAloneBy 64 = .ok (.iadd, 1) := by decide +kernel
theorem dX0_barredAloneBy_65 : decode cX0_barredAloneBy 65 = .ok (.istore 5, 2) := by decide +kernel
theorem dX0_barredAloneBy_67 : decode cX0_barredAloneBy 67 = .ok (.iinc 6 1, 3) := by decide +kernel
theorem dX0_barredAloneBy_70 : decode cX0_barredAloneBy 70 = .ok (.goto (-53), 3) := by decide +kernel
theorem dX0_barredAloneBy_73 : decode cX0_barredAloneBy 73 = .ok (.iload 5, 2) := by decide +kernel
theorem dX0_barredAloneBy_75 : decode cX0_barredAloneBy 75 = .ok (.ireturn, 1) := by decide +kernel
theorem dX1_init_0 : decode cX1_init 0 = .ok (.aload_n 0, 1) := by decide +kernel
theorem dX1_init_1 : decode cX1_init 1 = .ok (.invokespecial 3, 3) := by decide +kernel
theorem dX1_init_4 : decode cX1_init 4 = .ok (.aload_n 0, 1) := by decide +kernel
theorem dX1_init_5 : decode cX1_init 5 = .ok (.bipush 8, 2) := by decide +kernel
theorem dX1_init_7 : decode cX1_init 7 = .ok (.newarray .int, 2) := by decide +kernel
theorem dX1_init_9 : decode cX1_init 9 = .ok (.putfield 9, 3) := by decide +kernel
theorem dX1_init_12 : decode cX1_init 12 = .ok (.aload_n 0, 1) := by decide +kernel
theorem dX1_init_13 : decode cX1_init 13 = .ok (.bipush 8, 2) := by decide +kernel
theorem dX1_init_15 : decode cX1_init 15 = .ok (.newarray .int, 2) := by decide +kernel
theorem dX1_init_17 : decode cX1_init 17 = .ok (.putfield 15, 3) := by decide +kernel
theorem dX1_init_20 : decode cX1_init 20 = .ok (.aload_n 0, 1) := by decide +kernel
theorem dX1_init_21 : decode cX1_init 21 = .ok (.iconst 5, 1) := by decide +kernel
theorem dX1_init_22 : decode cX1_init 22 = .ok (.newarray .int, 2) := by decide +kernel
theorem dX1_init_24 : decode cX1_init 24 = .ok (.putfield 18, 3) := by decide +kernel
theorem dX1_init_27 : decode cX1_init 27 = .ok (.aload_n 0, 1) := by decide +kernel
theorem dX1_init_28 : decode cX1_init 28 = .ok (.iconst 4, 1) := by decide +kernel
theorem dX1_init_29 : decode cX1_init 29 = .ok (.newarray .int, 2) := by decide +kernel
theorem dX1_init_31 : decode cX1_init 31 = .ok (.putfield 21, 3) := by decide +kernel
theorem dX1_init_34 : decode cX1_init 34 = .ok (.aload_n 0, 1) := by decide +kernel
theorem dX1_init_35 : decode cX1_init 35 = .ok (.bipush 30, 2) := by decide +kernel
theorem dX1_init_37 : decode cX1_init 37 = .ok (.newarray .int, 2) := by decide +kernel
theorem dX1_init_39 : decode cX1_init 39 = .ok (.putfield 24, 3) := by decide +kernel
theorem dX1_init_42 : decode cX1_init 42 = .ok (.aload_n 0, 1) := by decide +kernel
theorem dX1_init_43 : decode cX1_init 43 = .ok (.bipush 30, 2) := by decide +kernel
theorem dX1_init_45 : decode cX1_init 45 = .ok (.newarray .int, 2) := by decide +kernel
theorem dX1_init_47 : decode cX1_init 47 = .ok (.putfield 27, 3) := by decide +kernel
theorem dX1_init_50 : decode cX1_init 50 = .ok (.aload_n 0, 1) := by decide +kernel
theorem dX1_init_51 : decode cX1_init 51 = .ok (.bipush 30, 2) := by decide +kernel
theorem dX1_init_53 : decode cX1_init 53 = .ok (.newarray .int, 2) := by decide +kernel
theorem dX1_init_55 : decode cX1_init 55 = .ok (.putfield 30, 3) := by decide +kernel
theorem dX1_init_58 : decode cX1_init 58 = .ok (.aload_n 0, 1) := by decide +kernel
theorem dX1_init_59 : decode cX1_init 59 = .ok (.iconst 0, 1) := by decide +kernel
theorem dX1_init_60 : decode cX1_init 60 = .ok (.putfield 33, 3) := by decide +kernel
theorem dX1_init_63 : decode cX1_init 63 = .ok (.aload_n 0, 1) := by decide +kernel
theorem dX1_init_64 : decode cX1_init 64 = .ok (.iconst 3, 1) := by decide +kernel
theorem dX1_init_65 : decode cX1_init 65 = .ok (.putfield 37, 3) := by decide +kernel
theorem dX1_init_68 : decode cX1_init 68 = .ok (.aload_n 0, 1) := by decide +kernel
theorem dX1_init_69 : decode cX1_init 69 = .ok (.iconst 0, 1) := by decide +kernel
theorem dX1_init_70 : decode cX1_init 70 = .ok (.putfield 40, 3) := by decide +kernel
theorem dX1_init_73 : decode cX1_init 73 = .ok (.aload_n 0, 1) := by decide +kernel
theorem dX1_init_74 : decode cX1_init 74 = .ok (.getfield 9, 3) := by decide +kernel
theorem dX1_init_77 : decode cX1_init 77 = .ok (.iconst 5, 1) := by decide +kernel
theorem dX1_init_78 : decode cX1_init 78 = .ok (.invokestatic 43, 3) := by decide +kernel
theorem dX1_init_81 : decode cX1_init 81 = .ok (.return_, 1) := by decide +kernel
theorem dX1_become_0 : decode cX1_become 0 = .ok (.aload_n 1, 1) := by decide +kernel
theorem dX1_become_1 : decode cX1_become 1 = .ok (.getfield 9, 3) := by decide +kernel
theorem dX1_become_4 : decode cX1_become 4 = .ok (.iconst 0, 1) := by decide +kernel
theorem dX1_become_5 : decode cX1_become 5 = .ok (.aload_n 0, 1) := by decide +kernel
theorem dX1_become_6 : decode cX1_become 6 = .ok (.getfield 9, 3) := by decide +kernel
theorem dX1_become_9 : decode cX1_become 9 = .ok (.iconst 0, 1) := by decide +kernel
theorem dX1_become_10 : decode cX1_become 10 = .ok (.bipush 8, 2) := by decide +kernel
theorem dX1_become_12 : decode cX1_become 12 = .ok (.invokestatic 49, 3) := by decide +kernel
theorem dX1_become_15 : decode cX1_become 15 = .ok (.aload_n 1, 1) := by decide +kernel
theorem dX1_become_16 : decode cX1_become 16 = .ok (.getfield 15, 3) := by decide +kernel
theorem dX1_become_19 : decode cX1_become 19 = .ok (.iconst 0, 1) := by decide +kernel
theorem dX1_become_20 : decode cX1_become 20 = .ok (.aload_n 0, 1) := by decide +kernel
theorem dX1_become_21 : decode cX1_become 21 = .ok (.getfield 15, 3) := by decide +kernel
theorem dX1_become_24 : decode cX1_become 24 = .ok (.iconst 0, 1) := by decide +kernel
theorem dX1_become_25 : decode cX1_become 25 = .ok (.bipush 8, 2) := by decide +kernel
theorem dX1_become_27 : decode cX1_become 27 = .ok (.invokestatic 49, 3) := by decide +kernel
theorem dX1_become_30 : decode cX1_become 30 = .ok (.aload_n 1, 1) := by decide +kernel
theorem dX1_become_31 : decode cX1_become 31 = .ok (.getfield 18, 3) := by decide +kernel
theorem dX1_become_34 : decode cX1_become 34 = .ok (.iconst 0, 1) := by decide +kernel
theorem dX1_become_35 : decode cX1_become 35 = .ok (.aload_n 0, 1) := by decide +kernel
theorem dX1_become_36 : decode cX1_become 36 = .ok (.getfield 18, 3) := by decide +kernel
theorem dX1_become_39 : decode cX1_become 39 = .ok (.iconst 0, 1) := by decide +kernel
theorem dX1_become_40 : decode cX1_become 40 = .ok (.iconst 5, 1) := by decide +kernel
theorem dX1_become_41 : decode cX1_become 41 = .ok (.invokestatic 49, 3) := by decide +kernel
theorem dX1_become_44 : decode cX1_become 44 = .ok (.aload_n 1, 1) := by decide +kernel
theorem dX1_become_45 : decode cX1_become 45 = .ok (.getfield 21, 3) := by decide +kernel
theorem dX1_become_48 : decode cX1_become 48 = .ok (.iconst 0, 1) := by decide +kernel
theorem dX1_become_49 : decode cX1_become 49 = .ok (.aload_n 0, 1) := by decide +kernel
theorem dX1_become_50 : decode cX1_become 50 = .ok (.getfield 21, 3) := by decide +kernel
theorem dX1_become_53 : decode cX1_become 53 = .ok (.iconst 0, 1) := by decide +kernel
theorem dX1_become_54 : decode cX1_become 54 = .ok (.iconst 4, 1) := by decide +kernel
theorem dX1_become_55 : decode cX1_become 55 = .ok (.invokestatic 49, 3) := by decide +kernel
theorem dX1_become_58 : decode cX1_become 58 = .ok (.aload_n 1, 1) := by decide +kernel
theorem dX1_become_59 : decode cX1_become 59 = .ok (.getfield 24, 3) := by decide +kernel
theorem dX1_become_62 : decode cX1_become 62 = .ok (.iconst 0, 1) := by decide +kernel
theorem dX1_become_63 : decode cX1_become 63 = .ok (.aload_n 0, 1) := by decide +kernel
theorem dX1_become_64 : decode cX1_become 64 = .ok (.getfield 24, 3) := by decide +kernel
theorem dX1_become_67 : decode cX1_become 67 = .ok (.iconst 0, 1) := by decide +kernel
theorem dX1_become_68 : decode cX1_become 68 = .ok (.bipush 30, 2) := by decide +kernel
theorem dX1_become_70 : decode cX1_become 70 = .ok (.invokestatic 49, 3) := by decide +kernel
theorem dX1_become_73 : decode cX1_become 73 = .ok (.aload_n 1, 1) := by decide +kernel
theorem dX1_become_74 : decode cX1_become 74 = .ok (.getfield 27, 3) := by decide +kernel
theorem dX1_become_77 : decode cX1_become 77 = .ok (.iconst 0, 1) := by decide +kernel
theorem dX1_become_78 : decode cX1_become 78 = .ok (.aload_n 0, 1) := by decide +kernel
theorem dX1_become_79 : decode cX1_become 79 = .ok (.getfield 27, 3) := by decide +kernel
theorem dX1_become_82 : decode cX1_become 82 = .ok (.iconst 0, 1) := by decide +kernel
theorem dX1_become_83 : decode cX1_become 83 = .ok (.bipush 30, 2) := by decide +kernel
theorem dX1_become_85 : decode cX1_become 85 = .ok (.invokestatic 49, 3) := by decide +kernel
theorem dX1_become_88 : decode cX1_become 88 = .ok (.aload_n 1, 1) := by decide +kernel
theorem dX1_become_89 : decode cX1_become 89 = .ok (.getfield 30, 3) := by decide +kernel
theorem dX1_become_92 : decode cX1_become 92 = .ok (.iconst 0, 1) := by decide +kernel
theorem dX1_become_93 : decode cX1_become 93 = .ok (.aload_n 0, 1) := by decide +kernel
theorem dX1_become_94 : decode cX1_become 94 = .ok (.getfield 30, 3) := by decide +kernel
theorem dX1_become_97 : decode cX1_become 97 = .ok (.iconst 0, 1) := by decide +kernel
theorem dX1_become_98 : decode cX1_become 98 = .ok (.bipush 30, 2) := by decide +kernel
theorem dX1_become_100 : decode cX1_become 100 = .ok (.invokestatic 49, 3) := by decide +kernel
theorem dX1_become_103 : decode cX1_become 103 = .ok (.aload_n 0, 1) := by decide +kernel
theorem dX1_become_104 : decode cX1_become 104 = .ok (.aload_n 1, 1) := by decide +kernel
theorem dX1_become_105 : decode cX1_become 105 = .ok (.getfield 33, 3) := by decide +kernel
theorem dX1_become_108 : decode cX1_become 108 = .ok (.putfield 33, 3) := by decide +kernel
theorem dX1_become_111 : decode cX1_become 111 = .ok (.aload_n 0, 1) := by decide +kernel
theorem dX1_become_112 : decode cX1_become 112 = .ok (.aload_n 1, 1) := by decide +kernel
theorem dX1_become_113 : decode cX1_become 113 = .ok (.getfield 37, 3) := by decide +kernel
theorem dX1_become_116 : decode cX1_become 116 = .ok (.putfield 37, 3) := by decide +kernel
theorem dX1_become_119 : decode cX1_become 119 = .ok (.aload_n 0, 1) := by decide +kernel
theorem dX1_become_120 : decode cX1_become 120 = .ok (.aload_n 1, 1) := by decide +kernel
theorem dX1_become_121 : decode cX1_become 121 = .ok (.getfield 40, 3) := by decide +kernel
theorem dX1_become_124 : decode cX1_become 124 = .ok (.putfield 40, 3) := by decide +kernel
theorem dX1_become_127 : decode cX1_become 127 = .ok (.return_, 1) := by decide +kernel
theorem dX1_likedOf_0 : decode cX1_likedOf 0 = .ok (.iload_n 1, 1) := by decide +kernel
theorem dX1_likedOf_1 : decode cX1_likedOf 1 = .ok (.ifCond .ne 8, 3) := by decide +kernel
theorem dX1_likedOf_4 : decode cX1_likedOf 4 = .ok (.aload_n 0, 1) := by decide +kernel
theorem dX1_likedOf_5 : decode cX1_likedOf 5 = .ok (.getfield 15, 3) := by decide +kernel
theorem dX1_likedOf_8 : decode cX1_likedOf 8 = .ok (.areturn, 1) := by decide +kernel
theorem dX1_likedOf_9 : decode cX1_likedOf 9 = .ok (.iload_n 1, 1) := by decide +kernel
theorem dX1_likedOf_10 : decode cX1_likedOf 10 = .ok (.iconst 1, 1) := by decide +kernel
theorem dX1_likedOf_11 : decode cX1_likedOf 11 = .ok (.if_icmp .ne 10, 3) := by decide +kernel
theorem dX1_likedOf_14 : decode cX1_likedOf 14 = .ok (.aload_n 0, 1) := by decide +kernel
theorem dX1_likedOf_15 : decode cX1_likedOf 15 = .ok (.getfield 18, 3) := by decide +kernel
theorem dX1_likedOf_18 : decode cX1_likedOf 18 = .ok (.goto 7, 3) := by decide +kernel
theorem dX1_likedOf_21 : decode cX1_likedOf 21 = .ok (.aload_n 0, 1) := by decide +kernel
theorem dX1_likedOf_22 : decode cX1_likedOf 22 = .ok (.getfield 21, 3) := by decide +kernel
theorem dX1_likedOf_25 : decode cX1_likedOf 25 = .ok (.areturn, 1) := by decide +kernel
theorem dX1_decree_0 : decode cX1_decree 0 = .ok (.aload_n 0, 1) := by decide +kernel
theorem dX1_decree_1 : decode cX1_decree 1 = .ok (.getfield 37, 3) := by decide +kernel
theorem dX1_decree_4 : decode cX1_decree 4 = .ok (.iload_n 1, 1) := by decide +kernel
theorem dX1_decree_5 : decode cX1_decree 5 = .ok (.invokestatic 55, 3) := by decide +kernel
theorem dX1_decree_8 : decode cX1_decree 8 = .ok (.istore_n 3, 1) := by decide +kernel
theorem dX1_decree_9 : decode cX1_decree 9 = .ok (.iload_n 2, 1) := by decide +kernel
theorem dX1_decree_10 : decode cX1_decree 10 = .ok (.iload_n 3, 1) := by decide +kernel
theorem dX1_decree_11 : decode cX1_decree 11 = .ok (.if_icmp .eq 15, 3) := by decide +kernel
theorem dX1_decree_14 : decode cX1_decree 14 = .ok (.aload_n 0, 1) := by decide +kernel
theorem dX1_decree_15 : decode cX1_decree 15 = .ok (.dup, 1) := by decide +kernel
theorem dX1_decree_16 : decode cX1_decree 16 = .ok (.getfield 37, 3) := by decide +kernel
theorem dX1_decree_19 : decode cX1_decree 19 = .ok (.iconst 1, 1) := by decide +kernel
theorem dX1_decree_20 : decode cX1_decree 20 = .ok (.iload_n 1, 1) := by decide +kernel
theorem dX1_decree_21 : decode cX1_decree 21 = .ok (.ishl, 1) := by decide +kernel
theorem dX1_decree_22 : decode cX1_decree 22 = .ok (.ixor, 1) := by decide +kernel
theorem dX1_decree_23 : decode cX1_decree 23 = .ok (.putfield 37, 3) := by decide +kernel
theorem dX1_decree_26 : decode cX1_decree 26 = .ok (.iload_n 2, 1) := by decide +kernel
theorem dX1_decree_27 : decode cX1_decree 27 = .ok (.iload_n 3, 1) := by decide +kernel
theorem dX1_decree_28 : decode cX1_decree 28 = .ok (.if_icmp .eq 7, 3) := by decide +kernel
theorem dX1_decree_31 : decode cX1_decree 31 = .ok (.iconst 1, 1) := by decide +kernel
theorem dX1_decree_32 : decode cX1_decree 32 = .ok (.goto 4, 3) := by decide +kernel
theorem dX1_decree_35 : decode cX1_decree 35 = .ok (.iconst 0, 1) := by decide +kernel
theorem dX1_decree_36 : decode cX1_decree 36 = .ok (.ireturn, 1) := by decide +kernel
theorem dX1_liking_0 : decode cX1_liking 0 = .ok (.aload_n 0, 1) := by decide +kernel
theorem dX1_liking_1 : decode cX1_liking 1 = .ok (.getfield 18, 3) := by decide +kernel
theorem dX1_liking_4 : decode cX1_liking 4 = .ok (.iload_n 1, 1) := by decide +kernel
theorem dX1_liking_5 : decode cX1_liking 5 = .ok (.invokestatic 59, 3) := by decide +kernel
theorem dX1_liking_8 : decode cX1_liking 8 = .ok (.iaload, 1) := by decide +kernel
theorem dX1_liking_9 : decode cX1_liking 9 = .ok (.aload_n 0, 1) := by decide +kernel
theorem dX1_liking_10 : decode cX1_liking 10 = .ok (.getfield 21, 3) := by decide +kernel
theorem dX1_liking_13 : decode cX1_liking 13 = .ok (.iload_n 1, 1) := by decide +kernel
theorem dX1_liking_14 : decode cX1_liking 14 = .ok (.invokestatic 63, 3) := by decide +kernel
theorem dX1_liking_17 : decode cX1_liking 17 = .ok (.iaload, 1) := by decide +kernel
theorem dX1_liking_18 : decode cX1_liking 18 = .ok (.iadd, 1) := by decide +kernel
theorem dX1_liking_19 : decode cX1_liking 19 = .ok (.istore_n 2, 1) := by decide +kernel
theorem dX1_liking_20 : decode cX1_liking 20 = .ok (.iconst 0, 1) := by decide +kernel
theorem dX1_liking_21 : decode cX1_liking 21 = .ok (.istore_n 3, 1) := by decide +kernel
theorem dX1_liking_22 : decode cX1_liking 22 = .ok (.iload_n 3, 1) := by decide +kernel
theorem dX1_liking_23 : decode cX1_liking 23 = .ok (.bipush 8, 2) := by decide +kernel
theorem dX1_liking_25 : decode cX1_liking 25 = .ok (.if_icmp .ge 29, 3) := by decide +kernel
theorem dX1_liking_28 : decode cX1_liking 28 = .ok (.iload_n 1, 1) := by decide +kernel
theorem dX1_liking_29 : decode cX1_liking 29 = .ok (.invokestatic 66, 3) := by decide +kernel
theorem dX1_liking_32 : decode cX1_liking 32 = .ok (.iload_n 3, 1) := by decide +kernel
theorem dX1_liking_33 : decode cX1_liking 33 = .ok (.invokestatic 55, 3) := by decide +kernel
theorem dX1_liking_36 : decode cX1_liking 36 = .ok (.ifCond .eq 12, 3) := by decide +kernel
theorem dX1_liking_39 : decode cX1_liking 39 = .ok (.iload_n 2, 1) := by decide +kernel
theorem dX1_liking_40 : decode cX1_liking 40 = .ok (.aload_n 0, 1) := by decide +kernel
theorem dX1_liking_41 : decode cX1_liking 41 = .ok (.getfield 15, 3) := by decide +kernel
theorem dX1_liking_44 : decode cX1_liking 44 = .ok (.iload_n 3, 1) := by decide +kernel
theorem dX1_liking_45 : decode cX1_liking 45 = .ok (.iaload, 1) := by decide +kernel
theorem dX1_liking_46 : decode cX1_liking 46 = .ok (.iadd, 1) := by decide +kernel
theorem dX1_liking_47 : decode cX1_liking 47 = .ok (.istore_n 2, 1) := by decide +kernel
theorem dX1_liking_48 : decode cX1_liking 48 = .ok (.iinc 3 1, 3) := by decide +kernel
theorem dX1_liking_51 : decode cX1_liking 51 = .ok (.goto (-29), 3) := by decide +kernel
theorem dX1_liking_54 : decode cX1_liking 54 = .ok (.iload_n 2, 1) := by decide +kernel
theorem dX1_liking_55 : decode cX1_liking 55 = .ok (.ireturn, 1) := by decide +kernel
theorem dX1_canBe_0 : decode cX1_canBe 0 = .ok (.iload_n 1, 1) := by decide +kernel
theorem dX1_canBe_1 : decode cX1_canBe 1 = .ok (.invokestatic 66, 3) := by decide +kernel
theorem dX1_canBe_4 : decode cX1_canBe 4 = .ok (.aload_n 0, 1) := by decide +kernel
theorem dX1_canBe_5 : decode cX1_canBe 5 = .ok (.getfield 9, 3) := by decide +kernel
theorem dX1_canBe_8 : decode cX1_canBe 8 = .ok (.invokestatic 69, 3) := by decide +kernel
theorem dX1_canBe_11 : decode cX1_canBe 11 = .ok (.iconst (-1), 1) := by decide +kernel
theorem dX1_canBe_12 : decode cX1_canBe 12 = .ok (.ixor, 1) := by decide +kernel
theorem dX1_canBe_13 : decode cX1_canBe 13 = .ok (.iand, 1) := by decide +kernel
theorem dX1_canBe_14 : decode cX1_canBe 14 = .ok (.ifCond .ne 7, 3) := by decide +kernel
theorem dX1_canBe_17 : decode cX1_canBe 17 = .ok (.iconst 1, 1) := by decide +kernel
theorem dX1_canBe_18 : decode cX1_canBe 18 = .ok (.goto 4, 3) := by decide +kernel
theorem dX1_canBe_21 : decode cX1_canBe 21 = .ok (.iconst 0, 1) := by decide +kernel
theorem dX1_canBe_22 : decode cX1_canBe 22 = .ok (.ireturn, 1) := by decide +kernel
theorem dX1_isNew_0 : decode cX1_isNew 0 = .ok (.aload_n 0, 1) := by decide +kernel
theorem dX1_isNew_1 : decode cX1_isNew 1 = .ok (.iload_n 1, 1) := by decide +kernel
theorem dX1_isNew_2 : decode cX1_isNew 2 = .ok (.aload_n 0, 1) := by decide +kernel
theorem dX1_isNew_3 : decode cX1_isNew 3 = .ok (.getfield 33, 3) := by decide +kernel
theorem dX1_isNew_6 : decode cX1_isNew 6 = .ok (.invokevirtual 73, 3) := by decide +kernel
theorem dX1_isNew_9 : decode cX1_isNew 9 = .ok (.ifCond .ge 7, 3) := by decide +kernel
theorem dX1_isNew_12 : decode cX1_isNew 12 = .ok (.iconst 1, 1) := by decide +kernel
theorem dX1_isNew_13 : decode cX1_isNew 13 = .ok (.goto 4, 3) := by decide +kernel
theorem dX1_isNew_16 : decode cX1_isNew 16 = .ok (.iconst 0, 1) := by decide +kernel
theorem dX1_isNew_17 : decode cX1_isNew 17 = .ok (.ireturn, 1) := by decide +kernel
theorem dX1_canServe_0 : decode cX1_canServe 0 = .ok (.aload_n 0, 1) := by decide +kernel
theorem dX1_canServe_1 : decode cX1_canServe 1 = .ok (.iload_n 2, 1) := by decide +kernel
theorem dX1_canServe_2 : decode cX1_canServe 2 = .ok (.invokevirtual 77, 3) := by decide +kernel
theorem dX1_canServe_5 : decode cX1_canServe 5 = .ok (.ifCond .eq 24, 3) := by decide +kernel
theorem dX1_canServe_8 : decode cX1_canServe 8 = .ok (.iload_n 1, 1) := by decide +kernel
theorem dX1_canServe_9 : decode cX1_canServe 9 = .ok (.iconst 2, 1) := by decide +kernel
theorem dX1_canServe_10 : decode cX1_canServe 10 = .ok (.if_icmp .eq 15, 3) := by decide +kernel
theorem dX1_canServe_13 : decode cX1_canServe 13 = .ok (.aload_n 0, 1) := by decide +kernel
theorem dX1_canServe_14 : decode cX1_canServe 14 = .ok (.iload_n 2, 1) := by decide +kernel
theorem dX1_canServe_15 : decode cX1_canServe 15 = .ok (.aload_n 0, 1) := by decide +kernel
theorem dX1_canServe_16 : decode cX1_canServe 16 = .ok (.getfield 33, 3) := by decide +kernel
theorem dX1_canServe_19 : decode cX1_canServe 19 = .ok (.invokevirtual 73, 3) := by decide +kernel
theorem dX1_canServe_22 : decode cX1_canServe 22 = .ok (.ifCond .ge 7, 3) := by decide +kernel
theorem dX1_canServe_25 : decode cX1_canServe 25 = .ok (.iconst 1, 1) := by decide +kernel
theorem dX1_canServe_26 : decode cX1_canServe 26 = .ok (.goto 4, 3) := by decide +kernel
theorem dX1_canServe_29 : decode cX1_canServe 29 = .ok (.iconst 0, 1) := by decide +kernel
theorem dX1_canServe_30 : decode cX1_canServe 30 = .ok (.ireturn, 1) := by decide +kernel
theorem dX1_isFull_0 : decode cX1_isFull 0 = .ok (.aload_n 0, 1) := by decide +kernel
theorem dX1_isFull_1 : decode cX1_isFull 1 = .ok (.getfield 33, 3) := by decide +kernel
theorem dX1_isFull_4 : decode cX1_isFull 4 = .ok (.bipush 30, 2) := by decide +kernel
theorem dX1_isFull_6 : decode cX1_isFull 6 = .ok (.if_icmp .lt 7, 3) := by decide +kernel
theorem dX1_isFull_9 : decode cX1_isFull 9 = .ok (.iconst 1, 1) := by decide +kernel
theorem dX1_isFull_10 : decode cX1_isFull 10 = .ok (.goto 4, 3) := by decide +kernel
theorem dX1_isFull_13 : decode cX1_isFull 13 = .ok (.iconst 0, 1) := by decide +kernel
theorem dX1_isFull_14 : decode cX1_isFull 14 = .ok (.ireturn, 1) := by decide +kernel
theorem dX1_note_0 : decode cX1_note 0 = .ok (.aload_n 0, 1) := by decide +kernel
theorem dX1_note_1 : decode cX1_note 1 = .ok (.invokevirtual 81, 3) := by decide +kernel
theorem dX1_note_4 : decode cX1_note 4 = .ok (.ifCond .eq 5, 3) := by decide +kernel
theorem dX1_note_7 : decode cX1_note 7 = .ok (.iconst (-1), 1) := by decide +kernel
theorem dX1_note_8 : decode cX1_note 8 = .ok (.ireturn, 1) := by decide +kernel
theorem dX1_note_9 : decode cX1_note 9 = .ok (.aload_n 0, 1) := by decide +kernel
theorem dX1_note_10 : decode cX1_note 10 = .ok (.getfield 24, 3) := by decide +kernel
theorem dX1_note_13 : decode cX1_note 13 = .ok (.aload_n 0, 1) := by decide +kernel
theorem dX1_note_14 : decode cX1_note 14 = .ok (.getfield 33, 3) := by decide +kernel
theorem dX1_note_17 : decode cX1_note 17 = .ok (.iload_n 1, 1) := by decide +kernel
theorem dX1_note_18 : decode cX1_note 18 = .ok (.iastore, 1) := by decide +kernel
theorem dX1_note_19 : decode cX1_note 19 = .ok (.aload_n 0, 1) := by decide +kernel
theorem dX1_note_20 : decode cX1_note 20 = .ok (.getfield 27, 3) := by decide +kernel
theorem dX1_note_23 : decode cX1_note 23 = .ok (.aload_n 0, 1) := by decide +kernel
theorem dX1_note_24 : decode cX1_note 24 = .ok (.getfield 33, 3) := by decide +kernel
theorem dX1_note_27 : decode cX1_note 27 = .ok (.iload_n 2, 1) := by decide +kernel
theorem dX1_note_28 : decode cX1_note 28 = .ok (.iastore, 1) := by decide +kernel
theorem dX1_note_29 : decode cX1_note 29 = .ok (.aload_n 0, 1) := by decide +kernel
theorem dX1_note_30 : decode cX1_note 30 = .ok (.getfield 30, 3) := by decide +kernel
theorem dX1_note_33 : decode cX1_note 33 = .ok (.aload_n 0, 1) := by decide +kernel
theorem dX1_note_34 : decode cX1_note 34 = .ok (.getfield 33, 3) := by decide +kernel
theorem dX1_note_37 : decode cX1_note 37 = .ok (.aload_n 0, 1) := by decide +kernel
theorem dX1_note_38 : decode cX1_note 38 = .ok (.getfield 40, 3) := by decide +kernel
theorem dX1_note_41 : decode cX1_note 41 = .ok (.iastore, 1) := by decide +kernel
theorem dX1_note_42 : decode cX1_note 42 = .ok (.aload_n 0, 1) := by decide +kernel
theorem dX1_note_43 : decode cX1_note 43 = .ok (.dup, 1) := by decide +kernel
theorem dX1_note_44 : decode cX1_note 44 = .ok (.getfield 33, 3) := by decide +kernel
theorem dX1_note_47 : decode cX1_note 47 = .ok (.iconst 1, 1) := by decide +kernel
theorem dX1_note_48 : decode cX1_note 48 = .ok (.iadd, 1) := by decide +kernel
theorem dX1_note_49 : decode cX1_note 49 = .ok (.putfield 33, 3) := by decide +kernel
theorem dX1_note_52 : decode cX1_note 52 = .ok (.aload_n 0, 1) := by decide +kernel
theorem dX1_note_53 : decode cX1_note 53 = .ok (.getfield 33, 3) := by decide +kernel
theorem dX1_note_56 : decode cX1_note 56 = .ok (.iconst 1, 1) := by decide +kernel
theorem dX1_note_57 : decode cX1_note 57 = .ok (.isub, 1) := by decide +kernel
theorem dX1_note_58 : decode cX1_note 58 = .ok (.ireturn, 1) := by decide +kernel
theorem dX1_haveMeal_0 : decode cX1_haveMeal 0 = .ok (.aload_n 0, 1) := by decide +kernel
theorem dX1_haveMeal_1 : decode cX1_haveMeal 1 = .ok (.iload_n 1, 1) := by decide +kernel
theorem dX1_haveMeal_2 : decode cX1_haveMeal 2 = .ok (.iload_n 2, 1) := by decide +kernel
theorem dX1_haveMeal_3 : decode cX1_haveMeal 3 = .ok (.invokevirtual 85, 3) := by decide +kernel
theorem dX1_haveMeal_6 : decode cX1_haveMeal 6 = .ok (.istore_n 3, 1) := by decide +kernel
theorem dX1_haveMeal_7 : decode cX1_haveMeal 7 = .ok (.aload_n 0, 1) := by decide +kernel
theorem dX1_haveMeal_8 : decode cX1_haveMeal 8 = .ok (.getfield 9, 3) := by decide +kernel
theorem dX1_haveMeal_11 : decode cX1_haveMeal 11 = .ok (.iload_n 2, 1) := by decide +kernel
theorem dX1_haveMeal_12 : decode cX1_haveMeal 12 = .ok (.invokestatic 88, 3) := by decide +kernel
theorem dX1_haveMeal_15 : decode cX1_haveMeal 15 = .ok (.aload_n 0, 1) := by decide +kernel
theorem dX1_haveMeal_16 : decode cX1_haveMeal 16 = .ok (.dup, 1) := by decide +kernel
theorem dX1_haveMeal_17 : decode cX1_haveMeal 17 = .ok (.getfield 40, 3) := by decide +kernel
theorem dX1_haveMeal_20 : decode cX1_haveMeal 20 = .ok (.iconst 1, 1) := by decide +kernel
theorem dX1_haveMeal_21 : decode cX1_haveMeal 21 = .ok (.iadd, 1) := by decide +kernel
theorem dX1_haveMeal_22 : decode cX1_haveMeal 22 = .ok (.putfield 40, 3) := by decide +kernel
theorem dX1_haveMeal_25 : decode cX1_haveMeal 25 = .ok (.iload_n 3, 1) := by decide +kernel
theorem dX1_haveMeal_26 : decode cX1_haveMeal 26 = .ok (.ireturn, 1) := by decide +kernel
theorem dX1_isBarredBy_0 : decode cX1_isBarredBy 0 = .ok (.aload_n 0, 1) := by decide +kernel
theorem dX1_isBarredBy_1 : decode cX1_isBarredBy 1 = .ok (.getfield 24, 3) := by decide +kernel
theorem dX1_isBarredBy_4 : decode cX1_isBarredBy 4 = .ok (.iload_n 1, 1) := by decide +kernel
theorem dX1_isBarredBy_5 : decode cX1_isBarredBy 5 = .ok (.iaload, 1) := by decide +kernel
theorem dX1_isBarredBy_6 : decode cX1_isBarredBy 6 = .ok (.aload_n 0, 1) := by decide +kernel
theorem dX1_isBarredBy_7 : decode cX1_isBarredBy 7 = .ok (.getfield 27, 3) := by decide +kernel
theorem dX1_isBarredBy_10 : decode cX1_isBarredBy 10 = .ok (.iload_n 1, 1) := by decide +kernel
theorem dX1_isBarredBy_11 : decode cX1_isBarredBy 11 = .ok (.iaload, 1) := by decide +kernel
theorem dX1_isBarredBy_12 : decode cX1_isBarredBy 12 = .ok (.iload_n 2, 1) := by decide +kernel
theorem dX1_isBarredBy_13 : decode cX1_isBarredBy 13 = .ok (.aload_n 0, 1) := by decide +kernel
theorem dX1_isBarredBy_14 : decode cX1_isBarredBy 14 = .ok (.getfield 37, 3) := by decide +kernel
theorem dX1_isBarredBy_17 : decode cX1_isBarredBy 17 = .ok (.invokestatic 91, 3) := by decide +kernel
theorem dX1_isBarredBy_20 : decode cX1_isBarredBy 20 = .ok (.ireturn, 1) := by decide +kernel
theorem dX1_firstBarring_0 : decode cX1_firstBarring 0 = .ok (.iconst 0, 1) := by decide +kernel
theorem dX1_firstBarring_1 : decode cX1_firstBarring 1 = .ok (.istore_n 3, 1) := by decide +kernel
theorem dX1_firstBarring_2 : decode cX1_firstBarring 2 = .ok (.iload_n 3, 1) := by decide +kernel
theorem dX1_firstBarring_3 : decode cX1_firstBarring 3 = .ok (.iload_n 2, 1) := by decide +kernel
theorem dX1_firstBarring_4 : decode cX1_firstBarring 4 = .ok (.if_icmp .ge 28, 3) := by decide +kernel
theorem dX1_firstBarring_7 : decode cX1_firstBarring 7 = .ok (.iload_n 3, 1) := by decide +kernel
theorem dX1_firstBarring_8 : decode cX1_firstBarring 8 = .ok (.aload_n 0, 1) := by decide +kernel
theorem dX1_firstBarring_9 : decode cX1_firstBarring 9 = .ok (.getfield 33, 3) := by decide +kernel
theorem dX1_firstBarring_12 : decode cX1_firstBarring 12 = .ok (.if_icmp .ge 20, 3) := by decide +kernel
theorem dX1_firstBarring_15 : decode cX1_firstBarring 15 = .ok (.aload_n 0, 1) := by decide +kernel
theorem dX1_firstBarring_16 : decode cX1_firstBarring 16 = .ok (.iload_n 3, 1) := by decide +kernel
theorem dX1_firstBarring_17 : decode cX1_firstBarring 17 = .ok (.iload_n 1, 1) := by decide +kernel
theorem dX1_firstBarring_18 : decode cX1_firstBarring 18 = .ok (.invokevirtual 95, 3) := by decide +kernel
theorem dX1_firstBarring_21 : decode cX1_firstBarring 21 = .ok (.ifCond .eq 5, 3) := by decide +kernel
theorem dX1_firstBarring_24 : decode cX1_firstBarring 24 = .ok (.iload_n 3, 1) := by decide +kernel
theorem dX1_firstBarring_25 : decode cX1_firstBarring 25 = .ok (.ireturn, 1) := by decide +kernel
theorem dX1_firstBarring_26 : decode cX1_firstBarring 26 = .ok (.iinc 3 1, 3) := by decide +kernel
theorem dX1_firstBarring_29 : decode cX1_firstBarring 29 = .ok (.goto (-27), 3) := by decide +kernel
theorem dX1_firstBarring_32 : decode cX1_firstBarring 32 = .ok (.iconst (-1), 1) := by decide +kernel
theorem dX1_firstBarring_33 : decode cX1_firstBarring 33 = .ok (.ireturn, 1) := by decide +kernel
theorem dX1_firstBreach_0 : decode cX1_firstBreach 0 = .ok (.iconst 0, 1) := by decide +kernel
theorem dX1_firstBreach_1 : decode cX1_firstBreach 1 = .ok (.istore_n 1, 1) := by decide +kernel
theorem dX1_firstBreach_2 : decode cX1_firstBreach 2 = .ok (.iload_n 1, 1) := by decide +kernel
theorem dX1_firstBreach_3 : decode cX1_firstBreach 3 = .ok (.aload_n 0, 1) := by decide +kernel
theorem dX1_firstBreach_4 : decode cX1_firstBreach 4 = .ok (.getfield 33, 3) := by decide +kernel
theorem dX1_firstBreach_7 : decode cX1_firstBreach 7 = .ok (.if_icmp .ge 35, 3) := by decide +kernel
theorem dX1_firstBreach_10 : decode cX1_firstBreach 10 = .ok (.aload_n 0, 1) := by decide +kernel
theorem dX1_firstBreach_11 : decode cX1_firstBreach 11 = .ok (.getfield 24, 3) := by decide +kernel
theorem dX1_firstBreach_14 : decode cX1_firstBreach 14 = .ok (.iload_n 1, 1) := by decide +kernel
theorem dX1_firstBreach_15 : decode cX1_firstBreach 15 = .ok (.iaload, 1) := by decide +kernel
theorem dX1_firstBreach_16 : decode cX1_firstBreach 16 = .ok (.iconst 2, 1) := by decide +kernel
theorem dX1_firstBreach_17 : decode cX1_firstBreach 17 = .ok (.if_icmp .eq 19, 3) := by decide +kernel
theorem dX1_firstBreach_20 : decode cX1_firstBreach 20 = .ok (.aload_n 0, 1) := by decide +kernel
theorem dX1_firstBreach_21 : decode cX1_firstBreach 21 = .ok (.aload_n 0, 1) := by decide +kernel
theorem dX1_firstBreach_22 : decode cX1_firstBreach 22 = .ok (.getfield 27, 3) := by decide +kernel
theorem dX1_firstBreach_25 : decode cX1_firstBreach 25 = .ok (.iload_n 1, 1) := by decide +kernel
theorem dX1_firstBreach_26 : decode cX1_firstBreach 26 = .ok (.iaload, 1) := by decide +kernel
theorem dX1_firstBreach_27 : decode cX1_firstBreach 27 = .ok (.iload_n 1, 1) := by decide +kernel
theorem dX1_firstBreach_28 : decode cX1_firstBreach 28 = .ok (.invokevirtual 73, 3) := by decide +kernel
theorem dX1_firstBreach_31 : decode cX1_firstBreach 31 = .ok (.ifCond .lt 5, 3) := by decide +kernel
theorem dX1_firstBreach_34 : decode cX1_firstBreach 34 = .ok (.iload_n 1, 1) := by decide +kernel
theorem dX1_firstBreach_35 : decode cX1_firstBreach 35 = .ok (.ireturn, 1) := by decide +kernel
theorem dX1_firstBreach_36 : decode cX1_firstBreach 36 = .ok (.iinc 1 1, 3) := by decide +kernel
theorem dX1_firstBreach_39 : decode cX1_firstBreach 39 = .ok (.goto (-37), 3) := by decide +kernel
theorem dX1_firstBreach_42 : decode cX1_firstBreach 42 = .ok (.iconst (-1), 1) := by decide +kernel
theorem dX1_firstBreach_43 : decode cX1_firstBreach 43 = .ok (.ireturn, 1) := by decide +kernel
theorem dX1_hadNear_0 : decode cX1_hadNear 0 = .ok (.iconst 0, 1) := by decide +kernel
theorem dX1_hadNear_1 : decode cX1_hadNear 1 = .ok (.istore_n 3, 1) := by decide +kernel
theorem dX1_hadNear_2 : decode cX1_hadNear 2 = .ok (.iconst 0, 1) := by decide +kernel
theorem dX1_hadNear_3 : decode cX1_hadNear 3 = .ok (.istore 4, 2) := by decide +kernel
theorem dX1_hadNear_5 : decode cX1_hadNear 5 = .ok (.iload 4, 2) := by decide +kernel
theorem dX1_hadNear_7 : decode cX1_hadNear 7 = .ok (.aload_n 0, 1) := by decide +kernel
theorem dX1_hadNear_8 : decode cX1_hadNear 8 = .ok (.getfield 33, 3) := by decide +kernel
theorem dX1_hadNear_11 : decode cX1_hadNear 11 = .ok (.if_icmp .ge 38, 3) := by decide +kernel
theorem dX1_hadNear_14 : decode cX1_hadNear 14 = .ok (.aload_n 0, 1) := by decide +kernel
theorem dX1_hadNear_15 : decode cX1_hadNear 15 = .ok (.getfield 24, 3) := by decide +kernel
theorem dX1_hadNear_18 : decode cX1_hadNear 18 = .ok (.iload 4, 2) := by decide +kernel
theorem dX1_hadNear_20 : decode cX1_hadNear 20 = .ok (.iaload, 1) := by decide +kernel
theorem dX1_hadNear_21 : decode cX1_hadNear 21 = .ok (.iconst 2, 1) := by decide +kernel
theorem dX1_hadNear_22 : decode cX1_hadNear 22 = .ok (.if_icmp .eq 21, 3) := by decide +kernel
theorem dX1_hadNear_25 : decode cX1_hadNear 25 = .ok (.aload_n 0, 1) := by decide +kernel
theorem dX1_hadNear_26 : decode cX1_hadNear 26 = .ok (.getfield 27, 3) := by decide +kernel
theorem dX1_hadNear_29 : decode cX1_hadNear 29 = .ok (.iload 4, 2) := by decide +kernel
theorem dX1_hadNear_31 : decode cX1_hadNear 31 = .ok (.iaload, 1) := by decide +kernel
theorem dX1_hadNear_32 : decode cX1_hadNear 32 = .ok (.iload_n 1, 1) := by decide +kernel
theorem dX1_hadNear_33 : decode cX1_hadNear 33 = .ok (.invokestatic 98, 3) := by decide +kernel
theorem dX1_hadNear_36 : decode cX1_hadNear 36 = .ok (.iload_n 2, 1) := by decide +kernel
theorem dX1_hadNear_37 : decode cX1_hadNear 37 = .ok (.if_icmp .gt 6, 3) := by decide +kernel
theorem dX1_hadNear_40 : decode cX1_hadNear 40 = .ok (.iinc 3 1, 3) := by decide +kernel
theorem dX1_hadNear_43 : decode cX1_hadNear 43 = .ok (.iinc 4 1, 3) := by decide +kernel
theorem dX1_hadNear_46 : decode cX1_hadNear 46 = .ok (.goto (-41), 3) := by decide +kernel
theorem dX1_hadNear_49 : decode cX1_hadNear 49 = .ok (.iload_n 3, 1) := by decide +kernel
theorem dX1_hadNear_50 : decode cX1_hadNear 50 = .ok (.ireturn, 1) := by decide +kernel
theorem dX1_guests_0 : decode cX1_guests 0 = .ok (.iconst 0, 1) := by decide +kernel
theorem dX1_guests_1 : decode cX1_guests 1 = .ok (.istore_n 1, 1) := by decide +kernel
theorem dX1_guests_2 : decode cX1_guests 2 = .ok (.iconst 0, 1) := by decide +kernel
theorem dX1_guests_3 : decode cX1_guests 3 = .ok (.istore_n 2, 1) := by decide +kernel
theorem dX1_guests_4 : decode cX1_guests 4 = .ok (.iload_n 2, 1) := by decide +kernel
theorem dX1_guests_5 : decode cX1_guests 5 = .ok (.aload_n 0, 1) := by decide +kernel
theorem dX1_guests_6 : decode cX1_guests 6 = .ok (.getfield 33, 3) := by decide +kernel
theorem dX1_guests_9 : decode cX1_guests 9 = .ok (.if_icmp .ge 22, 3) := by decide +kernel
theorem dX1_guests_12 : decode cX1_guests 12 = .ok (.aload_n 0, 1) := by decide +kernel
theorem dX1_guests_13 : decode cX1_guests 13 = .ok (.getfield 24, 3) := by decide +kernel
theorem dX1_guests_16 : decode cX1_guests 16 = .ok (.iload_n 2, 1) := by decide +kernel
theorem dX1_guests_17 : decode cX1_guests 17 = .ok (.iaload, 1) := by decide +kernel
theorem dX1_guests_18 : decode cX1_guests 18 = .ok (.iconst 2, 1) := by decide +kernel
theorem dX1_guests_19 : decode cX1_guests 19 = .ok (.if_icmp .ne 6, 3) := by decide +kernel
theorem dX1_guests_22 : decode cX1_guests 22 = .ok (.iinc 1 1, 3) := by decide +kernel
theorem dX1_guests_25 : decode cX1_guests 25 = .ok (.iinc 2 1, 3) := by decide +kernel
theorem dX1_guests_28 : decode cX1_guests 28 = .ok (.goto (-24), 3) := by decide +kernel
theorem dX1_guests_31 : decode cX1_guests 31 = .ok (.iload_n 1, 1) := by decide +kernel
theorem dX1_guests_32 : decode cX1_guests 32 = .ok (.ireturn, 1) := by decide +kernel
theorem dX1_allStores_0 : decode cX1_allStores 0 = .ok (.iconst 0, 1) := by decide +kernel
theorem dX1_allStores_1 : decode cX1_allStores 1 = .ok (.istore_n 1, 1) := by decide +kernel
theorem dX1_allStores_2 : decode cX1_allStores 2 = .ok (.iconst 0, 1) := by decide +kernel
theorem dX1_allStores_3 : decode cX1_allStores 3 = .ok (.istore_n 2, 1) := by decide +kernel
theorem dX1_allStores_4 : decode cX1_allStores 4 = .ok (.iload_n 2, 1) := by decide +kernel
theorem dX1_allStores_5 : decode cX1_allStores 5 = .ok (.bipush 8, 2) := by decide +kernel
theorem dX1_allStores_7 : decode cX1_allStores 7 = .ok (.if_icmp .ge 18, 3) := by decide +kernel
theorem dX1_allStores_10 : decode cX1_allStores 10 = .ok (.iload_n 1, 1) := by decide +kernel
theorem dX1_allStores_11 : decode cX1_allStores 11 = .ok (.aload_n 0, 1) := by decide +kernel
theorem dX1_allStores_12 : decode cX1_allStores 12 = .ok (.getfield 9, 3) := by decide +kernel
theorem dX1_allStores_15 : decode cX1_allStores 15 = .ok (.iload_n 2, 1) := by decide +kernel
theorem dX1_allStores_16 : decode cX1_allStores 16 = .ok (.iaload, 1) := by decide +kernel
theorem dX1_allStores_17 : decode cX1_allStores 17 = .ok (.iadd, 1) := by decide +kernel
theorem dX1_allStores_18 : decode cX1_allStores 18 = .ok (.istore_n 1, 1) := by decide +kernel
theorem dX1_allStores_19 : decode cX1_allStores 19 = .ok (.iinc 2 1, 3) := by decide +kernel
theorem dX1_allStores_22 : decode cX1_allStores 22 = .ok (.goto (-18), 3) := by decide +kernel
theorem dX1_allStores_25 : decode cX1_allStores 25 = .ok (.iload_n 1, 1) := by decide +kernel
theorem dX1_allStores_26 : decode cX1_allStores 26 = .ok (.ireturn, 1) := by decide +kernel
theorem dX2_init_0 : decode cX2_init 0 = .ok (.aload_n 0, 1) := by decide +kernel
theorem dX2_init_1 : decode cX2_init 1 = .ok (.invokespecial 3, 3) := by decide +kernel
theorem dX2_init_4 : decode cX2_init 4 = .ok (.aload_n 0, 1) := by decide +kernel
theorem dX2_init_5 : decode cX2_init 5 = .ok (.bipush 8, 2) := by decide +kernel
theorem dX2_init_7 : decode cX2_init 7 = .ok (.newarray .int, 2) := by decide +kernel
theorem dX2_init_9 : decode cX2_init 9 = .ok (.putfield 9, 3) := by decide +kernel
theorem dX2_init_12 : decode cX2_init 12 = .ok (.aload_n 0, 1) := by decide +kernel
theorem dX2_init_13 : decode cX2_init 13 = .ok (.new 15, 3) := by decide +kernel
theorem dX2_init_16 : decode cX2_init 16 = .ok (.dup, 1) := by decide +kernel
theorem dX2_init_17 : decode cX2_init 17 = .ok (.invokespecial 17, 3) := by decide +kernel
theorem dX2_init_20 : decode cX2_init 20 = .ok (.putfield 18, 3) := by decide +kernel
theorem dX2_init_23 : decode cX2_init 23 = .ok (.aload_n 0, 1) := by decide +kernel
theorem dX2_init_24 : decode cX2_init 24 = .ok (.iconst 0, 1) := by decide +kernel
theorem dX2_init_25 : decode cX2_init 25 = .ok (.putfield 22, 3) := by decide +kernel
theorem dX2_init_28 : decode cX2_init 28 = .ok (.aload_n 0, 1) := by decide +kernel
theorem dX2_init_29 : decode cX2_init 29 = .ok (.sipush 256, 3) := by decide +kernel
theorem dX2_init_32 : decode cX2_init 32 = .ok (.newarray .int, 2) := by decide +kernel
theorem dX2_init_34 : decode cX2_init 34 = .ok (.putfield 26, 3) := by decide +kernel
theorem dX2_init_37 : decode cX2_init 37 = .ok (.aload_n 0, 1) := by decide +kernel
theorem dX2_init_38 : decode cX2_init 38 = .ok (.bipush 20, 2) := by decide +kernel
theorem dX2_init_40 : decode cX2_init 40 = .ok (.newarray .int, 2) := by decide +kernel
theorem dX2_init_42 : decode cX2_init 42 = .ok (.putfield 29, 3) := by decide +kernel
theorem dX2_init_45 : decode cX2_init 45 = .ok (.aload_n 0, 1) := by decide +kernel
theorem dX2_init_46 : decode cX2_init 46 = .ok (.bipush 20, 2) := by decide +kernel
theorem dX2_init_48 : decode cX2_init 48 = .ok (.newarray .int, 2) := by decide +kernel
theorem dX2_init_50 : decode cX2_init 50 = .ok (.putfield 32, 3) := by decide +kernel
theorem dX2_init_53 : decode cX2_init 53 = .ok (.aload_n 0, 1) := by decide +kernel
theorem dX2_init_54 : decode cX2_init 54 = .ok (.sipush 256, 3) := by decide +kernel
theorem dX2_init_57 : decode cX2_init 57 = .ok (.newarray .int, 2) := by decide +kernel
theorem dX2_init_59 : decode cX2_init 59 = .ok (.putfield 35, 3) := by decide +kernel
theorem dX2_init_62 : decode cX2_init 62 = .ok (.aload_n 0, 1) := by decide +kernel
theorem dX2_init_63 : decode cX2_init 63 = .ok (.getfield 35, 3) := by decide +kernel
theorem dX2_init_66 : decode cX2_init 66 = .ok (.ldc 38, 2) := by decide +kernel
theorem dX2_init_68 : decode cX2_init 68 = .ok (.invokestatic 39, 3) := by decide +kernel
theorem dX2_init_71 : decode cX2_init 71 = .ok (.return_, 1) := by decide +kernel
theorem dX2_begin_0 : decode cX2_begin 0 = .ok (.aload_n 1, 1) := by decide +kernel
theorem dX2_begin_1 : decode cX2_begin 1 = .ok (.getfield 45, 3) := by decide +kernel
theorem dX2_begin_4 : decode cX2_begin 4 = .ok (.iconst 0, 1) := by decide +kernel
theorem dX2_begin_5 : decode cX2_begin 5 = .ok (.aload_n 0, 1) := by decide +kernel
theorem dX2_begin_6 : decode cX2_begin 6 = .ok (.getfield 9, 3) := by decide +kernel
theorem dX2_begin_9 : decode cX2_begin 9 = .ok (.iconst 0, 1) := by decide +kernel
theorem dX2_begin_10 : decode cX2_begin 10 = .ok (.bipush 8, 2) := by decide +kernel
theorem dX2_begin_12 : decode cX2_begin 12 = .ok (.invokestatic 50, 3) := by decide +kernel
theorem dX2_begin_15 : decode cX2_begin 15 = .ok (.aload_n 0, 1) := by decide +kernel
theorem dX2_begin_16 : decode cX2_begin 16 = .ok (.aload_n 1, 1) := by decide +kernel
theorem dX2_begin_17 : decode cX2_begin 17 = .ok (.getfield 56, 3) := by decide +kernel
theorem dX2_begin_20 : decode cX2_begin 20 = .ok (.putfield 22, 3) := by decide +kernel
theorem dX2_begin_23 : decode cX2_begin 23 = .ok (.aload_n 0, 1) := by decide +kernel
theorem dX2_begin_24 : decode cX2_begin 24 = .ok (.getfield 18, 3) := by decide +kernel
theorem dX2_begin_27 : decode cX2_begin 27 = .ok (.aload_n 1, 1) := by decide +kernel
theorem dX2_begin_28 : decode cX2_begin 28 = .ok (.aload_n 0, 1) := by decide +kernel
theorem dX2_begin_29 : decode cX2_begin 29 = .ok (.getfield 22, 3) := by decide +kernel
theorem dX2_begin_32 : decode cX2_begin 32 = .ok (.invokevirtual 57, 3) := by decide +kernel
theorem dX2_begin_35 : decode cX2_begin 35 = .ok (.aload_n 0, 1) := by decide +kernel
theorem dX2_begin_36 : decode cX2_begin 36 = .ok (.aload_n 1, 1) := by decide +kernel
theorem dX2_begin_37 : decode cX2_begin 37 = .ok (.getfield 61, 3) := by decide +kernel
theorem dX2_begin_40 : decode cX2_begin 40 = .ok (.invokevirtual 64, 3) := by decide +kernel
theorem dX2_begin_43 : decode cX2_begin 43 = .ok (.aload_n 0, 1) := by decide +kernel
theorem dX2_begin_44 : decode cX2_begin 44 = .ok (.aload_n 1, 1) := by decide +kernel
theorem dX2_begin_45 : decode cX2_begin 45 = .ok (.invokevirtual 68, 3) := by decide +kernel
theorem dX2_begin_48 : decode cX2_begin 48 = .ok (.aload_n 0, 1) := by decide +kernel
theorem dX2_begin_49 : decode cX2_begin 49 = .ok (.invokevirtual 72, 3) := by decide +kernel
theorem dX2_begin_52 : decode cX2_begin 52 = .ok (.return_, 1) := by decide +kernel
theorem dX2_weighSets_0 : decode cX2_weighSets 0 = .ok (.iconst 0, 1) := by decide +kernel
theorem dX2_weighSets_1 : decode cX2_weighSets 1 = .ok (.istore_n 2, 1) := by decide +kernel
theorem dX2_weighSets_2 : decode cX2_weighSets 2 = .ok (.iload_n 2, 1) := by decide +kernel
theorem dX2_weighSets_3 : decode cX2_weighSets 3 = .ok (.getstatic 75, 3) := by decide +kernel
theorem dX2_weighSets_6 : decode cX2_weighSets 6 = .ok (.arraylength, 1) := by decide +kernel
theorem dX2_weighSets_7 : decode cX2_weighSets 7 = .ok (.if_icmp .ge 58, 3) := by decide +kernel
theorem dX2_weighSets_10 : decode cX2_weighSets 10 = .ok (.iconst 0, 1) := by decide +kernel
theorem dX2_weighSets_11 : decode cX2_weighSets 11 = .ok (.istore_n 3, 1) := by decide +kernel
theorem dX2_weighSets_12 : decode cX2_weighSets 12 = .ok (.iconst 0, 1) := by decide +kernel
theorem dX2_weighSets_13 : decode cX2_weighSets 13 = .ok (.istore 4, 2) := by decide +kernel
theorem dX2_weighSets_15 : decode cX2_weighSets 15 = .ok (.iload 4, 2) := by decide +kernel
theorem dX2_weighSets_17 : decode cX2_weighSets 17 = .ok (.aload_n 1, 1) := by decide +kernel
theorem dX2_weighSets_18 : decode cX2_weighSets 18 = .ok (.arraylength, 1) := by decide +kernel
theorem dX2_weighSets_19 : decode cX2_weighSets 19 = .ok (.if_icmp .ge 29, 3) := by decide +kernel
theorem dX2_weighSets_22 : decode cX2_weighSets 22 = .ok (.getstatic 75, 3) := by decide +kernel
theorem dX2_weighSets_25 : decode cX2_weighSets 25 = .ok (.iload_n 2, 1) := by decide +kernel
theorem dX2_weighSets_26 : decode cX2_weighSets 26 = .ok (.iaload, 1) := by decide +kernel
theorem dX2_weighSets_27 : decode cX2_weighSets 27 = .ok (.iload 4, 2) := by decide +kernel
theorem dX2_weighSets_29 : decode cX2_weighSets 29 = .ok (.invokestatic 78, 3) := by decide +kernel
theorem dX2_weighSets_32 : decode cX2_weighSets 32 = .ok (.ifCond .eq 10, 3) := by decide +kernel
theorem dX2_weighSets_35 : decode cX2_weighSets 35 = .ok (.iload_n 3, 1) := by decide +kernel
theorem dX2_weighSets_36 : decode cX2_weighSets 36 = .ok (.aload_n 1, 1) := by decide +kernel
theorem dX2_weighSets_37 : decode cX2_weighSets 37 = .ok (.iload 4, 2) := by decide +kernel
theorem dX2_weighSets_39 : decode cX2_weighSets 39 = .ok (.iaload, 1) := by decide +kernel
theorem dX2_weighSets_40 : decode cX2_weighSets 40 = .ok (.iadd, 1) := by decide +kernel
theorem dX2_weighSets_41 : decode cX2_weighSets 41 = .ok (.istore_n 3, 1) := by decide +kernel
theorem dX2_weighSets_42 : decode cX2_weighSets 42 = .ok (.iinc 4 1, 3) := by decide +kernel
theorem dX2_weighSets_45 : decode cX2_weighSets 45 = .ok (.goto (-30), 3) := by decide +kernel
theorem dX2_weighSets_48 : decode cX2_weighSets 48 = .ok (.aload_n 0, 1) := by decide +kernel
theorem dX2_weighSets_49 : decode cX2_weighSets 49 = .ok (.getfield 26, 3) := by decide +kernel
theorem dX2_weighSets_52 : decode cX2_weighSets 52 = .ok (.getstatic 75, 3) := by decide +kernel
theorem dX2_weighSets_55 : decode cX2_weighSets 55 = .ok (.iload_n 2, 1) := by decide +kernel
theorem dX2_weighSets_56 : decode cX2_weighSets 56 = .ok (.iaload, 1) := by decide +kernel
theorem dX2_weighSets_57 : decode cX2_weighSets 57 = .ok (.iload_n 3, 1) := by decide +kernel
theorem dX2_weighSets_58 : decode cX2_weighSets 58 = .ok (.iastore, 1) := by decide +kernel
theorem dX2_weighSets_59 : decode cX2_weighSets 59 = .ok (.iinc 2 1, 3) := by decide +kernel
theorem dX2_weighSets_62 : decode cX2_weighSets 62 = .ok (.goto (-60), 3) := by decide +kernel
theorem dX2_weighSets_65 : decode cX2_weighSets 65 = .ok (.return_, 1) := by decide +kernel
theorem dX2_weighManners_0 : decode cX2_weighManners 0 = .ok (.iconst 0, 1) := by decide +kernel
theorem dX2_weighManners_1 : decode cX2_weighManners 1 = .ok (.istore_n 2, 1) := by decide +kernel
theorem dX2_weighManners_2 : decode cX2_weighManners 2 = .ok (.iload_n 2, 1) := by decide +kernel
theorem dX2_weighManners_3 : decode cX2_weighManners 3 = .ok (.bipush 20, 2) := by decide +kernel
theorem dX2_weighManners_5 : decode cX2_weighManners 5 = .ok (.if_icmp .ge 34, 3) := by decide +kernel
theorem dX2_weighManners_8 : decode cX2_weighManners 8 = .ok (.aload_n 0, 1) := by decide +kernel
theorem dX2_weighManners_9 : decode cX2_weighManners 9 = .ok (.getfield 29, 3) := by decide +kernel
theorem dX2_weighManners_12 : decode cX2_weighManners 12 = .ok (.iload_n 2, 1) := by decide +kernel
theorem dX2_weighManners_13 : decode cX2_weighManners 13 = .ok (.aload_n 1, 1) := by decide +kernel
theorem dX2_weighManners_14 : decode cX2_weighManners 14 = .ok (.getfield 82, 3) := by decide +kernel
theorem dX2_weighManners_17 : decode cX2_weighManners 17 = .ok (.iload_n 2, 1) := by decide +kernel
theorem dX2_weighManners_18 : decode cX2_weighManners 18 = .ok (.invokestatic 85, 3) := by decide +kernel
theorem dX2_weighManners_21 : decode cX2_weighManners 21 = .ok (.iaload, 1) := by decide +kernel
theorem dX2_weighManners_22 : decode cX2_weighManners 22 = .ok (.aload_n 1, 1) := by decide +kernel
theorem dX2_weighManners_23 : decode cX2_weighManners 23 = .ok (.getfield 89, 3) := by decide +kernel
theorem dX2_weighManners_26 : decode cX2_weighManners 26 = .ok (.iload_n 2, 1) := by decide +kernel
theorem dX2_weighManners_27 : decode cX2_weighManners 27 = .ok (.invokestatic 92, 3) := by decide +kernel
theorem dX2_weighManners_30 : decode cX2_weighManners 30 = .ok (.iaload, 1) := by decide +kernel
theorem dX2_weighManners_31 : decode cX2_weighManners 31 = .ok (.iadd, 1) := by decide +kernel
theorem dX2_weighManners_32 : decode cX2_weighManners 32 = .ok (.iastore, 1) := by decide +kernel
theorem dX2_weighManners_33 : decode cX2_weighManners 33 = .ok (.iinc 2 1, 3) := by decide +kernel
theorem dX2_weighManners_36 : decode cX2_weighManners 36 = .ok (.goto (-34), 3) := by decide +kernel
theorem dX2_weighManners_39 : decode cX2_weighManners 39 = .ok (.return_, 1) := by decide +kernel
theorem dX2_rankManners_0 : decode cX2_rankManners 0 = .ok (.iconst 0, 1) := by decide +kernel
theorem dX2_rankManners_1 : decode cX2_rankManners 1 = .ok (.istore_n 1, 1) := by decide +kernel
theorem dX2_rankManners_2 : decode cX2_rankManners 2 = .ok (.iload_n 1, 1) := by decide +kernel
theorem dX2_rankManners_3 : decode cX2_rankManners 3 = .ok (.bipush 20, 2) := by decide +kernel
theorem dX2_rankManners_5 : decode cX2_rankManners 5 = .ok (.if_icmp .ge 64, 3) := by decide +kernel
theorem dX2_rankManners_8 : decode cX2_rankManners 8 = .ok (.iload_n 1, 1) := by decide +kernel
theorem dX2_rankManners_9 : decode cX2_rankManners 9 = .ok (.istore_n 2, 1) := by decide +kernel
theorem dX2_rankManners_10 : decode cX2_rankManners 10 = .ok (.iload_n 2, 1) := by decide +kernel
theorem dX2_rankManners_11 : decode cX2_rankManners 11 = .ok (.ifCond .le 45, 3) := by decide +kernel
theorem dX2_rankManners_14 : decode cX2_rankManners 14 = .ok (.aload_n 0, 1) := by decide +kernel
theorem dX2_rankManners_15 : decode cX2_rankManners 15 = .ok (.getfield 29, 3) := by decide +kernel
theorem dX2_rankManners_18 : decode cX2_rankManners 18 = .ok (.aload_n 0, 1) := by decide +kernel
theorem dX2_rankManners_19 : decode cX2_rankManners 19 = .ok (.getfield 32, 3) := by decide +kernel
theorem dX2_rankManners_22 : decode cX2_rankManners 22 = .ok (.iload_n 2, 1) := by decide +kernel
theorem dX2_rankManners_23 : decode cX2_rankManners 23 = .ok (.iconst 1, 1) := by decide +kernel
theorem dX2_rankManners_24 : decode cX2_rankManners 24 = .ok (.isub, 1) := by decide +kernel
theorem dX2_rankManners_25 : decode cX2_rankManners 25 = .ok (.iaload, 1) := by decide +kernel
theorem dX2_rankManners_26 : decode cX2_rankManners 26 = .ok (.iaload, 1) := by decide +kernel
theorem dX2_rankManners_27 : decode cX2_rankManners 27 = .ok (.aload_n 0, 1) := by decide +kernel
theorem dX2_rankManners_28 : decode cX2_rankManners 28 = .ok (.getfield 29, 3) := by decide +kernel
theorem dX2_rankManners_31 : decode cX2_rankManners 31 = .ok (.iload_n 1, 1) := by decide +kernel
theorem dX2_rankManners_32 : decode cX2_rankManners 32 = .ok (.iaload, 1) := by decide +kernel
theorem dX2_rankManners_33 : decode cX2_rankManners 33 = .ok (.if_icmp .ge 23, 3) := by decide +kernel
theorem dX2_rankManners_36 : decode cX2_rankManners 36 = .ok (.aload_n 0, 1) := by decide +kernel
theorem dX2_rankManners_37 : decode cX2_rankManners 37 = .ok (.getfield 32, 3) := by decide +kernel
theorem dX2_rankManners_40 : decode cX2_rankManners 40 = .ok (.iload_n 2, 1) := by decide +kernel
theorem dX2_rankManners_41 : decode cX2_rankManners 41 = .ok (.aload_n 0, 1) := by decide +kernel
theorem dX2_rankManners_42 : decode cX2_rankManners 42 = .ok (.getfield 32, 3) := by decide +kernel
theorem dX2_rankManners_45 : decode cX2_rankManners 45 = .ok (.iload_n 2, 1) := by decide +kernel
theorem dX2_rankManners_46 : decode cX2_rankManners 46 = .ok (.iconst 1, 1) := by decide +kernel
theorem dX2_rankManners_47 : decode cX2_rankManners 47 = .ok (.isub, 1) := by decide +kernel
theorem dX2_rankManners_48 : decode cX2_rankManners 48 = .ok (.iaload, 1) := by decide +kernel
theorem dX2_rankManners_49 : decode cX2_rankManners 49 = .ok (.iastore, 1) := by decide +kernel
theorem dX2_rankManners_50 : decode cX2_rankManners 50 = .ok (.iinc 2 (-1), 3) := by decide +kernel
theorem dX2_rankManners_53 : decode cX2_rankManners 53 = .ok (.goto (-43), 3) := by decide +kernel
theorem dX2_rankManners_56 : decode cX2_rankManners 56 = .ok (.aload_n 0, 1) := by decide +kernel
theorem dX2_rankManners_57 : decode cX2_rankManners 57 = .ok (.getfield 32, 3) := by decide +kernel
theorem dX2_rankManners_60 : decode cX2_rankManners 60 = .ok (.iload_n 2, 1) := by decide +kernel
theorem dX2_rankManners_61 : decode cX2_rankManners 61 = .ok (.iload_n 1, 1) := by decide +kernel
theorem dX2_rankManners_62 : decode cX2_rankManners 62 = .ok (.iastore, 1) := by decide +kernel
theorem dX2_rankManners_63 : decode cX2_rankManners 63 = .ok (.iinc 1 1, 3) := by decide +kernel
theorem dX2_rankManners_66 : decode cX2_rankManners 66 = .ok (.goto (-64), 3) := by decide +kernel
theorem dX2_rankManners_69 : decode cX2_rankManners 69 = .ok (.return_, 1) := by decide +kernel
theorem dX2_servableManners_0 : decode cX2_servableManners 0 = .ok (.iload_n 1, 1) := by decide +kernel
theorem dX2_servableManners_1 : decode cX2_servableManners 1 = .ok (.iload_n 2, 1) := by decide +kernel
theorem dX2_servableManners_2 : decode cX2_servableManners 2 = .ok (.iconst (-1), 1) := by decide +kernel
theorem dX2_servableManners_3 : decode cX2_servableManners 3 = .ok (.ixor, 1) := by decide +kernel
theorem dX2_servableManners_4 : decode cX2_servableManners 4 = .ok (.iand, 1) := by decide +kernel
theorem dX2_servableManners_5 : decode cX2_servableManners 5 = .ok (.ifCond .ne 20, 3) := by decide +kernel
theorem dX2_servableManners_8 : decode cX2_servableManners 8 = .ok (.ldc 38, 2) := by decide +kernel
theorem dX2_servableManners_10 : decode cX2_servableManners 10 = .ok (.aload_n 0, 1) := by decide +kernel
theorem dX2_servableManners_11 : decode cX2_servableManners 11 = .ok (.getfield 18, 3) := by decide +kernel
theorem dX2_servableManners_14 : decode cX2_servableManners 14 = .ok (.getfield 95, 3) := by decide +kernel
theorem dX2_servableManners_17 : decode cX2_servableManners 17 = .ok (.iload_n 1, 1) := by decide +kernel
theorem dX2_servableManners_18 : decode cX2_servableManners 18 = .ok (.iaload, 1) := by decide +kernel
theorem dX2_servableManners_19 : decode cX2_servableManners 19 = .ok (.iconst (-1), 1) := by decide +kernel
theorem dX2_servableManners_20 : decode cX2_servableManners 20 = .ok (.ixor, 1) := by decide +kernel
theorem dX2_servableManners_21 : decode cX2_servableManners 21 = .ok (.iand, 1) := by decide +kernel
theorem dX2_servableManners_22 : decode cX2_servableManners 22 = .ok (.goto 4, 3) := by decide +kernel
theorem dX2_servableManners_25 : decode cX2_servableManners 25 = .ok (.iconst 0, 1) := by decide +kernel
theorem dX2_servableManners_26 : decode cX2_servableManners 26 = .ok (.ireturn, 1) := by decide +kernel
theorem dX2_possible_0 : decode cX2_possible 0 = .ok (.aload_n 0, 1) := by decide +kernel
theorem dX2_possible_1 : decode cX2_possible 1 = .ok (.getfield 9, 3) := by decide +kernel
theorem dX2_possible_4 : decode cX2_possible 4 = .ok (.invokestatic 98, 3) := by decide +kernel
theorem dX2_possible_7 : decode cX2_possible 7 = .ok (.istore_n 1, 1) := by decide +kernel
theorem dX2_possible_8 : decode cX2_possible 8 = .ok (.iconst 0, 1) := by decide +kernel
theorem dX2_possible_9 : decode cX2_possible 9 = .ok (.istore_n 2, 1) := by decide +kernel
theorem dX2_possible_10 : decode cX2_possible 10 = .ok (.iconst 0, 1) := by decide +kernel
theorem dX2_possible_11 : decode cX2_possible 11 = .ok (.istore_n 3, 1) := by decide +kernel
theorem dX2_possible_12 : decode cX2_possible 12 = .ok (.iload_n 3, 1) := by decide +kernel
theorem dX2_possible_13 : decode cX2_possible 13 = .ok (.getstatic 75, 3) := by decide +kernel
theorem dX2_possible_16 : decode cX2_possible 16 = .ok (.arraylength, 1) := by decide +kernel
theorem dX2_possible_17 : decode cX2_possible 17 = .ok (.if_icmp .ge 24, 3) := by decide +kernel
theorem dX2_possible_20 : decode cX2_possible 20 = .ok (.getstatic 75, 3) := by decide +kernel
theorem dX2_possible_23 : decode cX2_possible 23 = .ok (.iload_n 3, 1) := by decide +kernel
theorem dX2_possible_24 : decode cX2_possible 24 = .ok (.iaload, 1) := by decide +kernel
theorem dX2_possible_25 : decode cX2_possible 25 = .ok (.iload_n 1, 1) := by decide +kernel
theorem dX2_possible_26 : decode cX2_possible 26 = .ok (.iconst (-1), 1) := by decide +kernel
theorem dX2_possible_27 : decode cX2_possible 27 = .ok (.ixor, 1) := by decide +kernel
theorem dX2_possible_28 : decode cX2_possible 28 = .ok (.iand, 1) := by decide +kernel
theorem dX2_possible_29 : decode cX2_possible 29 = .ok (.ifCond .ne 6, 3) := by decide +kernel
theorem dX2_possible_32 : decode cX2_possible 32 = .ok (.iinc 2 1, 3) := by decide +kernel
theorem dX2_possible_35 : decode cX2_possible 35 = .ok (.iinc 3 1, 3) := by decide +kernel
theorem dX2_possible_38 : decode cX2_possible 38 = .ok (.goto (-26), 3) := by decide +kernel
theorem dX2_possible_41 : decode cX2_possible 41 = .ok (.iload_n 2, 1) := by decide +kernel
theorem dX2_possible_42 : decode cX2_possible 42 = .ok (.bipush 20, 2) := by decide +kernel
theorem dX2_possible_44 : decode cX2_possible 44 = .ok (.imul, 1) := by decide +kernel
theorem dX2_possible_45 : decode cX2_possible 45 = .ok (.ireturn, 1) := by decide +kernel
theorem dX2_servable_0 : decode cX2_servable 0 = .ok (.aload_n 0, 1) := by decide +kernel
theorem dX2_servable_1 : decode cX2_servable 1 = .ok (.getfield 9, 3) := by decide +kernel
theorem dX2_servable_4 : decode cX2_servable 4 = .ok (.invokestatic 98, 3) := by decide +kernel
theorem dX2_servable_7 : decode cX2_servable 7 = .ok (.istore_n 1, 1) := by decide +kernel
theorem dX2_servable_8 : decode cX2_servable 8 = .ok (.iconst 0, 1) := by decide +kernel
theorem dX2_servable_9 : decode cX2_servable 9 = .ok (.istore_n 2, 1) := by decide +kernel
theorem dX2_servable_10 : decode cX2_servable 10 = .ok (.iconst 0, 1) := by decide +kernel
theorem dX2_servable_11 : decode cX2_servable 11 = .ok (.istore_n 3, 1) := by decide +kernel
theorem dX2_servable_12 : decode cX2_servable 12 = .ok (.iload_n 3, 1) := by decide +kernel
theorem dX2_servable_13 : decode cX2_servable 13 = .ok (.getstatic 75, 3) := by decide +kernel
theorem dX2_servable_16 : decode cX2_servable 16 = .ok (.arraylength, 1) := by decide +kernel
theorem dX2_servable_17 : decode cX2_servable 17 = .ok (.if_icmp .ge 25, 3) := by decide +kernel
theorem dX2_servable_20 : decode cX2_servable 20 = .ok (.iload_n 2, 1) := by decide +kernel
theorem dX2_servable_21 : decode cX2_servable 21 = .ok (.aload_n 0, 1) := by decide +kernel
theorem dX2_servable_22 : decode cX2_servable 22 = .ok (.getstatic 75, 3) := by decide +kernel
theorem dX2_servable_25 : decode cX2_servable 25 = .ok (.iload_n 3, 1) := by decide +kernel
theorem dX2_servable_26 : decode cX2_servable 26 = .ok (.iaload, 1) := by decide +kernel
theorem dX2_servable_27 : decode cX2_servable 27 = .ok (.iload_n 1, 1) := by decide +kernel
theorem dX2_servable_28 : decode cX2_servable 28 = .ok (.invokevirtual 102, 3) := by decide +kernel
theorem dX2_servable_31 : decode cX2_servable 31 = .ok (.invokestatic 106, 3) := by decide +kernel
theorem dX2_servable_34 : decode cX2_servable 34 = .ok (.iadd, 1) := by decide +kernel
theorem dX2_servable_35 : decode cX2_servable 35 = .ok (.istore_n 2, 1) := by decide +kernel
theorem dX2_servable_36 : decode cX2_servable 36 = .ok (.iinc 3 1, 3) := by decide +kernel
theorem dX2_servable_39 : decode cX2_servable 39 = .ok (.goto (-27), 3) := by decide +kernel
theorem dX2_servable_42 : decode cX2_servable 42 = .ok (.iload_n 2, 1) := by decide +kernel
theorem dX2_servable_43 : decode cX2_servable 43 = .ok (.ireturn, 1) := by decide +kernel
theorem dX2_firstFrom_0 : decode cX2_firstFrom 0 = .ok (.aload_n 0, 1) := by decide +kernel
theorem dX2_firstFrom_1 : decode cX2_firstFrom 1 = .ok (.getfield 9, 3) := by decide +kernel
theorem dX2_firstFrom_4 : decode cX2_firstFrom 4 = .ok (.invokestatic 98, 3) := by decide +kernel
theorem dX2_firstFrom_7 : decode cX2_firstFrom 7 = .ok (.istore_n 2, 1) := by decide +kernel
theorem dX2_firstFrom_8 : decode cX2_firstFrom 8 = .ok (.iconst 0, 1) := by decide +kernel
theorem dX2_firstFrom_9 : decode cX2_firstFrom 9 = .ok (.istore_n 3, 1) := by decide +kernel
theorem dX2_firstFrom_10 : decode cX2_firstFrom 10 = .ok (.iload_n 3, 1) := by decide +kernel
theorem dX2_firstFrom_11 : decode cX2_firstFrom 11 = .ok (.getstatic 75, 3) := by decide +kernel
theorem dX2_firstFrom_14 : decode cX2_firstFrom 14 = .ok (.arraylength, 1) := by decide +kernel
theorem dX2_firstFrom_15 : decode cX2_firstFrom 15 = .ok (.if_icmp .ge 72, 3) := by decide +kernel
theorem dX2_firstFrom_18 : decode cX2_firstFrom 18 = .ok (.aload_n 0, 1) := by decide +kernel
theorem dX2_firstFrom_19 : decode cX2_firstFrom 19 = .ok (.getstatic 75, 3) := by decide +kernel
theorem dX2_firstFrom_22 : decode cX2_firstFrom 22 = .ok (.iload_n 3, 1) := by decide +kernel
theorem dX2_firstFrom_23 : decode cX2_firstFrom 23 = .ok (.iaload, 1) := by decide +kernel
theorem dX2_firstFrom_24 : decode cX2_firstFrom 24 = .ok (.iload_n 2, 1) := by decide +kernel
theorem dX2_firstFrom_25 : decode cX2_firstFrom 25 = .ok (.invokevirtual 102, 3) := by decide +kernel
theorem dX2_firstFrom_28 : decode cX2_firstFrom 28 = .ok (.istore 4, 2) := by decide +kernel
theorem dX2_firstFrom_30 : decode cX2_firstFrom 30 = .ok (.bipush 20, 2) := by decide +kernel
theorem dX2_firstFrom_32 : decode cX2_firstFrom 32 = .ok (.getstatic 75, 3) := by decide +kernel
theorem dX2_firstFrom_35 : decode cX2_firstFrom 35 = .ok (.iload_n 3, 1) := by decide +kernel
theorem dX2_firstFrom_36 : decode cX2_firstFrom 36 = .ok (.iaload, 1) := by decide +kernel
theorem dX2_firstFrom_37 : decode cX2_firstFrom 37 = .ok (.imul, 1) := by decide +kernel
theorem dX2_firstFrom_38 : decode cX2_firstFrom 38 = .ok (.istore 5, 2) := by decide +kernel
theorem dX2_firstFrom_40 : decode cX2_firstFrom 40 = .ok (.iconst 0, 1) := by decide +kernel
theorem dX2_firstFrom_41 : decode cX2_firstFrom 41 = .ok (.istore 6, 2) := by decide +kernel
theorem dX2_firstFrom_43 : decode cX2_firstFrom 43 = .ok (.iload 6, 2) := by decide +kernel
theorem dX2_firstFrom_45 : decode cX2_firstFrom 45 = .ok (.bipush 20, 2) := by decide +kernel
theorem dX2_firstFrom_47 : decode cX2_firstFrom 47 = .ok (.if_icmp .ge 34, 3) := by decide +kernel
theorem dX2_firstFrom_50 : decode cX2_firstFrom 50 = .ok (.iload 5, 2) := by decide +kernel
theorem dX2_firstFrom_52 : decode cX2_firstFrom 52 = .ok (.iload 6, 2) := by decide +kernel
theorem dX2_firstFrom_54 : decode cX2_firstFrom 54 = .ok (.iadd, 1) := by decide +kernel
theorem dX2_firstFrom_55 : decode cX2_firstFrom 55 = .ok (.iload_n 1, 1) := by decide +kernel
theorem dX2_firstFrom_56 : decode cX2_firstFrom 56 = .ok (.if_icmp .lt 19, 3) := by decide +kernel
theorem dX2_firstFrom_59 : decode cX2_firstFrom 59 = .ok (.iload 4, 2) := by decide +kernel
theorem dX2_firstFrom_61 : decode cX2_firstFrom 61 = .ok (.iload 6, 2) := by decide +kernel
theorem dX2_firstFrom_63 : decode cX2_firstFrom 63 = .ok (.invokestatic 78, 3) := by decide +kernel
theorem dX2_firstFrom_66 : decode cX2_firstFrom 66 = .ok (.ifCond .eq 9, 3) := by decide +kernel
theorem dX2_firstFrom_69 : decode cX2_firstFrom 69 = .ok (.iload 5, 2) := by decide +kernel
theorem dX2_firstFrom_71 : decode cX2_firstFrom 71 = .ok (.iload 6, 2) := by decide +kernel
theorem dX2_firstFrom_73 : decode cX2_firstFrom 73 = .ok (.iadd, 1) := by decide +kernel
theorem dX2_firstFrom_74 : decode cX2_firstFrom 74 = .ok (.ireturn, 1) := by decide +kernel
theorem dX2_firstFrom_75 : decode cX2_firstFrom 75 = .ok (.iinc 6 1, 3) := by decide +kernel
theorem dX2_firstFrom_78 : decode cX2_firstFrom 78 = .ok (.goto (-35), 3) := by decide +kernel
theorem dX2_firstFrom_81 : decode cX2_firstFrom 81 = .ok (.iinc 3 1, 3) := by decide +kernel
theorem dX2_firstFrom_84 : decode cX2_firstFrom 84 = .ok (.goto (-74), 3) := by decide +kernel
theorem dX2_firstFrom_87 : decode cX2_firstFrom 87 = .ok (.iconst (-1), 1) := by decide +kernel
theorem dX2_firstFrom_88 : decode cX2_firstFrom 88 = .ok (.ireturn, 1) := by decide +kernel
theorem dX2_favourite_0 : decode cX2_favourite 0 = .ok (.aload_n 0, 1) := by decide +kernel
theorem dX2_favourite_1 : decode cX2_favourite 1 = .ok (.aload_n 0, 1) := by decide +kernel
theorem dX2_favourite_2 : decode cX2_favourite 2 = .ok (.getfield 35, 3) := by decide +kernel
theorem dX2_favourite_5 : decode cX2_favourite 5 = .ok (.invokevirtual 111, 3) := by decide +kernel
theorem dX2_favourite_8 : decode cX2_favourite 8 = .ok (.ireturn, 1) := by decide +kernel
theorem dX2_favouriteAmong_0 : decode cX2_favouriteAmong 0 = .ok (.aload_n 0, 1) := by decide +kernel
theorem dX2_favouriteAmong_1 : decode cX2_favouriteAmong 1 = .ok (.getfield 9, 3) := by decide +kernel
theorem dX2_favouriteAmong_4 : decode cX2_favouriteAmong 4 = .ok (.invokestatic 98, 3) := by decide +kernel
theorem dX2_favouriteAmong_7 : decode cX2_favouriteAmong 7 = .ok (.istore_n 2, 1) := by decide +kernel
theorem dX2_favouriteAmong_8 : decode cX2_favouriteAmong 8 = .ok (.aload_n 0, 1) := by decide +kernel
theorem dX2_favouriteAmong_9 : decode cX2_favouriteAmong 9 = .ok (.getfield 29, 3) := by decide +kernel
theorem dX2_favouriteAmong_12 : decode cX2_favouriteAmong 12 = .ok (.aload_n 0, 1) := by decide +kernel
theorem dX2_favouriteAmong_13 : decode cX2_favouriteAmong 13 = .ok (.getfield 32, 3) := by decide +kernel
theorem dX2_favouriteAmong_16 : decode cX2_favouriteAmong 16 = .ok (.iconst 0, 1) := by decide +kernel
theorem dX2_favouriteAmong_17 : decode cX2_favouriteAmong 17 = .ok (.iaload, 1) := by decide +kernel
theorem dX2_favouriteAmong_18 : decode cX2_favouriteAmong 18 = .ok (.iaload, 1) := by decide +kernel
theorem dX2_favouriteAmong_19 : decode cX2_favouriteAmong 19 = .ok (.istore_n 3, 1) := by decide +kernel
theorem dX2_favouriteAmong_20 : decode cX2_favouriteAmong 20 = .ok (.iconst (-1), 1) := by decide +kernel
theorem dX2_favouriteAmong_21 : decode cX2_favouriteAmong 21 = .ok (.istore 4, 2) := by decide +kernel
theorem dX2_favouriteAmong_23 : decode cX2_favouriteAmong 23 = .ok (.iconst 0, 1) := by decide +kernel
theorem dX2_favouriteAmong_24 : decode cX2_favouriteAmong 24 = .ok (.istore 5, 2) := by decide +kernel
theorem dX2_favouriteAmong_26 : decode cX2_favouriteAmong 26 = .ok (.iconst 0, 1) := by decide +kernel
theorem dX2_favouriteAmong_27 : decode cX2_favouriteAmong 27 = .ok (.istore 6, 2) := by decide +kernel
theorem dX2_favouriteAmong_29 : decode cX2_favouriteAmong 29 = .ok (.iload 6, 2) := by decide +kernel
theorem dX2_favouriteAmong_31 : decode cX2_favouriteAmong 31 = .ok (.getstatic 75, 3) := by decide +kernel
theorem dX2_favouriteAmong_34 : decode cX2_favouriteAmong 34 = .ok (.arraylength, 1) := by decide +kernel
theorem dX2_favouriteAmong_35 : decode cX2_favouriteAmong 35 = .ok (.if_icmp .ge 114, 3) := by decide +kernel
theorem dX2_favouriteAmong_38 : decode cX2_favouriteAmong 38 = .ok (.getstatic 75, 3) := by decide +kernel
theorem dX2_favouriteAmong_41 : decode cX2_favouriteAmong 41 = .ok (.iload 6, 2) := by decide +kernel
theorem dX2_favouriteAmong_43 : decode cX2_favouriteAmong 43 = .ok (.iaload, 1) := by decide +kernel
theorem dX2_favouriteAmong_44 : decode cX2_favouriteAmong 44 = .ok (.istore 7, 2) := by decide +kernel
theorem dX2_favouriteAmong_46 : decode cX2_favouriteAmong 46 = .ok (.iload 4, 2) := by decide +kernel
theorem dX2_favouriteAmong_48 : decode cX2_favouriteAmong 48 = .ok (.ifCond .lt 20, 3) := by decide +kernel
theorem dX2_favouriteAmong_51 : decode cX2_favouriteAmong 51 = .ok (.aload_n 0, 1) := by decide +kernel
theorem dX2_favouriteAmong_52 : decode cX2_favouriteAmong 52 = .ok (.getfield 26, 3) := by decide +kernel
theorem dX2_favouriteAmong_55 : decode cX2_favouriteAmong 55 = .ok (.iload 7, 2) := by decide +kernel
theorem dX2_favouriteAmong_57 : decode cX2_favouriteAmong 57 = .ok (.iaload, 1) := by decide +kernel
theorem dX2_favouriteAmong_58 : decode cX2_favouriteAmong 58 = .ok (.iload_n 3, 1) := by decide +kernel
theorem dX2_favouriteAmong_59 : decode cX2_favouriteAmong 59 = .ok (.iadd, 1) := by decide +kernel
theorem dX2_favouriteAmong_60 : decode cX2_favouriteAmong 60 = .ok (.iload 5, 2) := by decide +kernel
theorem dX2_favouriteAmong_62 : decode cX2_favouriteAmong 62 = .ok (.if_icmp .gt 6, 3) := by decide +kernel
theorem dX2_favouriteAmong_65 : decode cX2_favouriteAmong 65 = .ok (.goto 78, 3) := by decide +kernel
theorem dX2_favouriteAmong_68 : decode cX2_favouriteAmong 68 = .ok (.aload_n 0, 1) := by decide +kernel
theorem dX2_favouriteAmong_69 : decode cX2_favouriteAmong 69 = .ok (.aload_n 0, 1) := by decide +kernel
theorem dX2_favouriteAmong_70 : decode cX2_favouriteAmong 70 = .ok (.iload 7, 2) := by decide +kernel
theorem dX2_favouriteAmong_72 : decode cX2_favouriteAmong 72 = .ok (.iload_n 2, 1) := by decide +kernel
theorem dX2_favouriteAmong_73 : decode cX2_favouriteAmong 73 = .ok (.invokevirtual 102, 3) := by decide +kernel
theorem dX2_favouriteAmong_76 : decode cX2_favouriteAmong 76 = .ok (.aload_n 1, 1) := by decide +kernel
theorem dX2_favouriteAmong_77 : decode cX2_favouriteAmong 77 = .ok (.iload 7, 2) := by decide +kernel
theorem dX2_favouriteAmong_79 : decode cX2_favouriteAmong 79 = .ok (.iaload, 1) := by decide +kernel
theorem dX2_favouriteAmong_80 : decode cX2_favouriteAmong 80 = .ok (.iand, 1) := by decide +kernel
theorem dX2_favouriteAmong_81 : decode cX2_favouriteAmong 81 = .ok (.invokevirtual 114, 3) := by decide +kernel
theorem dX2_favouriteAmong_84 : decode cX2_favouriteAmong 84 = .ok (.istore 8, 2) := by decide +kernel
theorem dX2_favouriteAmong_86 : decode cX2_favouriteAmong 86 = .ok (.iload 8, 2) := by decide +kernel
theorem dX2_favouriteAmong_88 : decode cX2_favouriteAmong 88 = .ok (.ifCond .lt 55, 3) := by decide +kernel
theorem dX2_favouriteAmong_91 : decode cX2_favouriteAmong 91 = .ok (.iload 4, 2) := by decide +kernel
theorem dX2_favouriteAmong_93 : decode cX2_favouriteAmong 93 = .ok (.ifCond .lt 23, 3) := by decide +kernel
theorem dX2_favouriteAmong_96 : decode cX2_favouriteAmong 96 = .ok (.aload_n 0, 1) := by decide +kernel
theorem dX2_favouriteAmong_97 : decode cX2_favouriteAmong 97 = .ok (.getfield 26, 3) := by decide +kernel
theorem dX2_favouriteAmong_100 : decode cX2_favouriteAmong 100 = .ok (.iload 7, 2) := by decide +kernel
theorem dX2_favouriteAmong_102 : decode cX2_favouriteAmong 102 = .ok (.iaload, 1) := by decide +kernel
theorem dX2_favouriteAmong_103 : decode cX2_favouriteAmong 103 = .ok (.aload_n 0, 1) := by decide +kernel
theorem dX2_favouriteAmong_104 : decode cX2_favouriteAmong 104 = .ok (.getfield 29, 3) := by decide +kernel
theorem dX2_favouriteAmong_107 : decode cX2_favouriteAmong 107 = .ok (.iload 8, 2) := by decide +kernel
theorem dX2_favouriteAmong_109 : decode cX2_favouriteAmong 109 = .ok (.iaload, 1) := by decide +kernel
theorem dX2_favouriteAmong_110 : decode cX2_favouriteAmong 110 = .ok (.iadd, 1) := by decide +kernel
theorem dX2_favouriteAmong_111 : decode cX2_favouriteAmong 111 = .ok (.iload 5, 2) := by decide +kernel
theorem dX2_favouriteAmong_113 : decode cX2_favouriteAmong 113 = .ok (.if_icmp .le 30, 3) := by decide +kernel
theorem dX2_favouriteAmong_116 : decode cX2_favouriteAmong 116 = .ok (.aload_n 0, 1) := by decide +kernel
theorem dX2_favouriteAmong_117 : decode cX2_favouriteAmong 117 = .ok (.getfield 26, 3) := by decide +kernel
theorem dX2_favouriteAmong_120 : decode cX2_favouriteAmong 120 = .ok (.iload 7, 2) := by decide +kernel
theorem dX2_favouriteAmong_122 : decode cX2_favouriteAmong 122 = .ok (.iaload, 1) := by decide +kernel
theorem dX2_favouriteAmong_123 : decode cX2_favouriteAmong 123 = .ok (.aload_n 0, 1) := by decide +kernel
theorem dX2_favouriteAmong_124 : decode cX2_favouriteAmong 124 = .ok (.getfield 29, 3) := by decide +kernel
theorem dX2_favouriteAmong_127 : decode cX2_favouriteAmong 127 = .ok (.iload 8, 2) := by decide +kernel
theorem dX2_favouriteAmong_129 : decode cX2_favouriteAmong 129 = .ok (.iaload, 1) := by decide +kernel
theorem dX2_favouriteAmong_130 : decode cX2_favouriteAmong 130 = .ok (.iadd, 1) := by decide +kernel
theorem dX2_favouriteAmong_131 : decode cX2_favouriteAmong 131 = .ok (.istore 5, 2) := by decide +kernel
theorem dX2_favouriteAmong_133 : decode cX2_favouriteAmong 133 = .ok (.bipush 20, 2) := by decide +kernel
theorem dX2_favouriteAmong_135 : decode cX2_favouriteAmong 135 = .ok (.iload 7, 2) := by decide +kernel
theorem dX2_favouriteAmong_137 : decode cX2_favouriteAmong 137 = .ok (.imul, 1) := by decide +kernel
theorem dX2_favouriteAmong_138 : decode cX2_favouriteAmong 138 = .ok (.iload 8, 2) := by decide +kernel
theorem dX2_favouriteAmong_140 : decode cX2_favouriteAmong 140 = .ok (.iadd, 1) := by decide +kernel
theorem dX2_favouriteAmong_141 : decode cX2_favouriteAmong 141 = .ok (.istore 4, 2) := by decide +kernel
theorem dX2_favouriteAmong_143 : decode cX2_favouriteAmong 143 = .ok (.iinc 6 1, 3) := by decide +kernel
theorem dX2_favouriteAmong_146 : decode cX2_favouriteAmong 146 = .ok (.goto (-117), 3) := by decide +kernel
theorem dX2_favouriteAmong_149 : decode cX2_favouriteAmong 149 = .ok (.iload 4, 2) := by decide +kernel
theorem dX2_favouriteAmong_151 : decode cX2_favouriteAmong 151 = .ok (.ireturn, 1) := by decide +kernel
theorem dX2_favouriteManner_0 : decode cX2_favouriteManner 0 = .ok (.iload_n 1, 1) := by decide +kernel
theorem dX2_favouriteManner_1 : decode cX2_favouriteManner 1 = .ok (.ifCond .ne 5, 3) := by decide +kernel
theorem dX2_favouriteManner_4 : decode cX2_favouriteManner 4 = .ok (.iconst (-1), 1) := by decide +kernel
theorem dX2_favouriteManner_5 : decode cX2_favouriteManner 5 = .ok (.ireturn, 1) := by decide +kernel
theorem dX2_favouriteManner_6 : decode cX2_favouriteManner 6 = .ok (.iconst 0, 1) := by decide +kernel
theorem dX2_favouriteManner_7 : decode cX2_favouriteManner 7 = .ok (.istore_n 2, 1) := by decide +kernel
theorem dX2_favouriteManner_8 : decode cX2_favouriteManner 8 = .ok (.iload_n 2, 1) := by decide +kernel
theorem dX2_favouriteManner_9 : decode cX2_favouriteManner 9 = .ok (.bipush 20, 2) := by decide +kernel
theorem dX2_favouriteManner_11 : decode cX2_favouriteManner 11 = .ok (.if_icmp .ge 29, 3) := by decide +kernel
theorem dX2_favouriteManner_14 : decode cX2_favouriteManner 14 = .ok (.iload_n 1, 1) := by decide +kernel
theorem dX2_favouriteManner_15 : decode cX2_favouriteManner 15 = .ok (.aload_n 0, 1) := by decide +kernel
theorem dX2_favouriteManner_16 : decode cX2_favouriteManner 16 = .ok (.getfield 32, 3) := by decide +kernel
theorem dX2_favouriteManner_19 : decode cX2_favouriteManner 19 = .ok (.iload_n 2, 1) := by decide +kernel
theorem dX2_favouriteManner_20 : decode cX2_favouriteManner 20 = .ok (.iaload, 1) := by decide +kernel
theorem dX2_favouriteManner_21 : decode cX2_favouriteManner 21 = .ok (.invokestatic 78, 3) := by decide +kernel
theorem dX2_favouriteManner_24 : decode cX2_favouriteManner 24 = .ok (.ifCond .eq 10, 3) := by decide +kernel
theorem dX2_favouriteManner_27 : decode cX2_favouriteManner 27 = .ok (.aload_n 0, 1) := by decide +kernel
theorem dX2_favouriteManner_28 : decode cX2_favouriteManner 28 = .ok (.getfield 32, 3) := by decide +kernel
theorem dX2_favouriteManner_31 : decode cX2_favouriteManner 31 = .ok (.iload_n 2, 1) := by decide +kernel
theorem dX2_favouriteManner_32 : decode cX2_favouriteManner 32 = .ok (.iaload, 1) := by decide +kernel
theorem dX2_favouriteManner_33 : decode cX2_favouriteManner 33 = .ok (.ireturn, 1) := by decide +kernel
theorem dX2_favouriteManner_34 : decode cX2_favouriteManner 34 = .ok (.iinc 2 1, 3) := by decide +kernel
theorem dX2_favouriteManner_37 : decode cX2_favouriteManner 37 = .ok (.goto (-29), 3) := by decide +kernel
theorem dX2_favouriteManner_40 : decode cX2_favouriteManner 40 = .ok (.iconst (-1), 1) := by decide +kernel
theorem dX2_favouriteManner_41 : decode cX2_favouriteManner 41 = .ok (.ireturn, 1) := by decide +kernel
theorem dX2_canCook_0 : decode cX2_canCook 0 = .ok (.iload_n 2, 1) := by decide +kernel
theorem dX2_canCook_1 : decode cX2_canCook 1 = .ok (.invokestatic 117, 3) := by decide +kernel
theorem dX2_canCook_4 : decode cX2_canCook 4 = .ok (.istore_n 3, 1) := by decide +kernel
theorem dX2_canCook_5 : decode cX2_canCook 5 = .ok (.aload_n 0, 1) := by decide +kernel
theorem dX2_canCook_6 : decode cX2_canCook 6 = .ok (.getfield 9, 3) := by decide +kernel
theorem dX2_canCook_9 : decode cX2_canCook 9 = .ok (.invokestatic 98, 3) := by decide +kernel
theorem dX2_canCook_12 : decode cX2_canCook 12 = .ok (.istore 4, 2) := by decide +kernel
theorem dX2_canCook_14 : decode cX2_canCook 14 = .ok (.iload_n 1, 1) := by decide +kernel
theorem dX2_canCook_15 : decode cX2_canCook 15 = .ok (.iconst 2, 1) := by decide +kernel
theorem dX2_canCook_16 : decode cX2_canCook 16 = .ok (.if_icmp .ne 18, 3) := by decide +kernel
theorem dX2_canCook_19 : decode cX2_canCook 19 = .ok (.iload_n 3, 1) := by decide +kernel
theorem dX2_canCook_20 : decode cX2_canCook 20 = .ok (.iload 4, 2) := by decide +kernel
theorem dX2_canCook_22 : decode cX2_canCook 22 = .ok (.iconst (-1), 1) := by decide +kernel
theorem dX2_canCook_23 : decode cX2_canCook 23 = .ok (.ixor, 1) := by decide +kernel
theorem dX2_canCook_24 : decode cX2_canCook 24 = .ok (.iand, 1) := by decide +kernel
theorem dX2_canCook_25 : decode cX2_canCook 25 = .ok (.ifCond .ne 7, 3) := by decide +kernel
theorem dX2_canCook_28 : decode cX2_canCook 28 = .ok (.iconst 1, 1) := by decide +kernel
theorem dX2_canCook_29 : decode cX2_canCook 29 = .ok (.goto 4, 3) := by decide +kernel
theorem dX2_canCook_32 : decode cX2_canCook 32 = .ok (.iconst 0, 1) := by decide +kernel
theorem dX2_canCook_33 : decode cX2_canCook 33 = .ok (.ireturn, 1) := by decide +kernel
theorem dX2_canCook_34 : decode cX2_canCook 34 = .ok (.aload_n 0, 1) := by decide +kernel
theorem dX2_canCook_35 : decode cX2_canCook 35 = .ok (.iload_n 3, 1) := by decide +kernel
theorem dX2_canCook_36 : decode cX2_canCook 36 = .ok (.iload 4, 2) := by decide +kernel
theorem dX2_canCook_38 : decode cX2_canCook 38 = .ok (.invokevirtual 102, 3) := by decide +kernel
theorem dX2_canCook_41 : decode cX2_canCook 41 = .ok (.iload_n 2, 1) := by decide +kernel
theorem dX2_canCook_42 : decode cX2_canCook 42 = .ok (.invokestatic 120, 3) := by decide +kernel
theorem dX2_canCook_45 : decode cX2_canCook 45 = .ok (.invokestatic 78, 3) := by decide +kernel
theorem dX2_canCook_48 : decode cX2_canCook 48 = .ok (.ireturn, 1) := by decide +kernel
theorem dX2_cook_0 : decode cX2_cook 0 = .ok (.aload_n 0, 1) := by decide +kernel
theorem dX2_cook_1 : decode cX2_cook 1 = .ok (.getfield 9, 3) := by decide +kernel
theorem dX2_cook_4 : decode cX2_cook 4 = .ok (.iload_n 2, 1) := by decide +kernel
theorem dX2_cook_5 : decode cX2_cook 5 = .ok (.invokestatic 123, 3) := by decide +kernel
theorem dX2_cook_8 : decode cX2_cook 8 = .ok (.aload_n 0, 1) := by decide +kernel
theorem dX2_cook_9 : decode cX2_cook 9 = .ok (.getfield 18, 3) := by decide +kernel
theorem dX2_cook_12 : decode cX2_cook 12 = .ok (.iload_n 1, 1) := by decide +kernel
theorem dX2_cook_13 : decode cX2_cook 13 = .ok (.iload_n 2, 1) := by decide +kernel
theorem dX2_cook_14 : decode cX2_cook 14 = .ok (.aload_n 0, 1) := by decide +kernel
theorem dX2_cook_15 : decode cX2_cook 15 = .ok (.getfield 22, 3) := by decide +kernel
theorem dX2_cook_18 : decode cX2_cook 18 = .ok (.invokevirtual 126, 3) := by decide +kernel
theorem dX2_cook_21 : decode cX2_cook 21 = .ok (.return_, 1) := by decide +kernel
theorem dX2_cookFavourite_0 : decode cX2_cookFavourite 0 = .ok (.aload_n 0, 1) := by decide +kernel
theorem dX2_cookFavourite_1 : decode cX2_cookFavourite 1 = .ok (.invokevirtual 130, 3) := by decide +kernel
theorem dX2_cookFavourite_4 : decode cX2_cookFavourite 4 = .ok (.istore_n 2, 1) := by decide +kernel
theorem dX2_cookFavourite_5 : decode cX2_cookFavourite 5 = .ok (.iload_n 2, 1) := by decide +kernel
theorem dX2_cookFavourite_6 : decode cX2_cookFavourite 6 = .ok (.ifCond .lt 9, 3) := by decide +kernel
theorem dX2_cookFavourite_9 : decode cX2_cookFavourite 9 = .ok (.aload_n 0, 1) := by decide +kernel
theorem dX2_cookFavourite_10 : decode cX2_cookFavourite 10 = .ok (.iload_n 1, 1) := by decide +kernel
theorem dX2_cookFavourite_11 : decode cX2_cookFavourite 11 = .ok (.iload_n 2, 1) := by decide +kernel
theorem dX2_cookFavourite_12 : decode cX2_cookFavourite 12 = .ok (.invokevirtual 134, 3) := by decide +kernel
theorem dX2_cookFavourite_15 : decode cX2_cookFavourite 15 = .ok (.iload_n 2, 1) := by decide +kernel
theorem dX2_cookFavourite_16 : decode cX2_cookFavourite 16 = .ok (.ireturn, 1) := by decide +kernel
theorem dX2_mealsLeft_0 : decode cX2_mealsLeft 0 = .ok (.iconst 0, 1) := by decide +kernel
theorem dX2_mealsLeft_1 : decode cX2_mealsLeft 1 = .ok (.istore_n 2, 1) := by decide +kernel
theorem dX2_mealsLeft_2 : decode cX2_mealsLeft 2 = .ok (.iload_n 2, 1) := by decide +kernel
theorem dX2_mealsLeft_3 : decode cX2_mealsLeft 3 = .ok (.bipush 60, 2) := by decide +kernel
theorem dX2_mealsLeft_5 : decode cX2_mealsLeft 5 = .ok (.if_icmp .ge 19, 3) := by decide +kernel
theorem dX2_mealsLeft_8 : decode cX2_mealsLeft 8 = .ok (.aload_n 0, 1) := by decide +kernel
theorem dX2_mealsLeft_9 : decode cX2_mealsLeft 9 = .ok (.iload_n 1, 1) := by decide +kernel
theorem dX2_mealsLeft_10 : decode cX2_mealsLeft 10 = .ok (.invokevirtual 138, 3) := by decide +kernel
theorem dX2_mealsLeft_13 : decode cX2_mealsLeft 13 = .ok (.ifCond .ge 5, 3) := by decide +kernel
theorem dX2_mealsLeft_16 : decode cX2_mealsLeft 16 = .ok (.iload_n 2, 1) := by decide +kernel
theorem dX2_mealsLeft_17 : decode cX2_mealsLeft 17 = .ok (.ireturn, 1) := by decide +kernel
theorem dX2_mealsLeft_18 : decode cX2_mealsLeft 18 = .ok (.iinc 2 1, 3) := by decide +kernel
theorem dX2_mealsLeft_21 : decode cX2_mealsLeft 21 = .ok (.goto (-19), 3) := by decide +kernel
theorem dX2_mealsLeft_24 : decode cX2_mealsLeft 24 = .ok (.bipush 60, 2) := by decide +kernel
theorem dX2_mealsLeft_26 : decode cX2_mealsLeft 26 = .ok (.ireturn, 1) := by decide +kernel
theorem dX3_init_0 : decode cX3_init 0 = .ok (.aload_n 0, 1) := by decide +kernel
theorem dX3_init_1 : decode cX3_init 1 = .ok (.invokespecial 3, 3) := by decide +kernel
theorem dX3_init_4 : decode cX3_init 4 = .ok (.aload_n 0, 1) := by decide +kernel
theorem dX3_init_5 : decode cX3_init 5 = .ok (.sipush 256, 3) := by decide +kernel
theorem dX3_init_8 : decode cX3_init 8 = .ok (.newarray .int, 2) := by decide +kernel
theorem dX3_init_10 : decode cX3_init 10 = .ok (.putfield 9, 3) := by decide +kernel
theorem dX3_init_13 : decode cX3_init 13 = .ok (.aload_n 0, 1) := by decide +kernel
theorem dX3_init_14 : decode cX3_init 14 = .ok (.sipush 256, 3) := by decide +kernel
theorem dX3_init_17 : decode cX3_init 17 = .ok (.newarray .int, 2) := by decide +kernel
theorem dX3_init_19 : decode cX3_init 19 = .ok (.putfield 15, 3) := by decide +kernel
theorem dX3_init_22 : decode cX3_init 22 = .ok (.return_, 1) := by decide +kernel
theorem dX3_reach_0 : decode cX3_reach 0 = .ok (.aload_n 0, 1) := by decide +kernel
theorem dX3_reach_1 : decode cX3_reach 1 = .ok (.iload_n 1, 1) := by decide +kernel
theorem dX3_reach_2 : decode cX3_reach 2 = .ok (.invokevirtual 18, 3) := by decide +kernel
theorem dX3_reach_5 : decode cX3_reach 5 = .ok (.iconst 1, 1) := by decide +kernel
theorem dX3_reach_6 : decode cX3_reach 6 = .ok (.istore 4, 2) := by decide +kernel
theorem dX3_reach_8 : decode cX3_reach 8 = .ok (.iconst 0, 1) := by decide +kernel
theorem dX3_reach_9 : decode cX3_reach 9 = .ok (.istore 5, 2) := by decide +kernel
theorem dX3_reach_11 : decode cX3_reach 11 = .ok (.iload 5, 2) := by decide +kernel
theorem dX3_reach_13 : decode cX3_reach 13 = .ok (.iload_n 2, 1) := by decide +kernel
theorem dX3_reach_14 : decode cX3_reach 14 = .ok (.if_icmp .ge 21, 3) := by decide +kernel
theorem dX3_reach_17 : decode cX3_reach 17 = .ok (.iload 4, 2) := by decide +kernel
theorem dX3_reach_19 : decode cX3_reach 19 = .ok (.ifCond .eq 16, 3) := by decide +kernel
theorem dX3_reach_22 : decode cX3_reach 22 = .ok (.aload_n 0, 1) := by decide +kernel
theorem dX3_reach_23 : decode cX3_reach 23 = .ok (.aload_n 3, 1) := by decide +kernel
theorem dX3_reach_24 : decode cX3_reach 24 = .ok (.invokevirtual 22, 3) := by decide +kernel
theorem dX3_reach_27 : decode cX3_reach 27 = .ok (.istore 4, 2) := by decide +kernel
theorem dX3_reach_29 : decode cX3_reach 29 = .ok (.iinc 5 1, 3) := by decide +kernel
theorem dX3_reach_32 : decode cX3_reach 32 = .ok (.goto (-21), 3) := by decide +kernel
theorem dX3_reach_35 : decode cX3_reach 35 = .ok (.return_, 1) := by decide +kernel
theorem dX3_stepsBetween_0 : decode cX3_stepsBetween 0 = .ok (.aload_n 0, 1) := by decide +kernel
theorem dX3_stepsBetween_1 : decode cX3_stepsBetween 1 = .ok (.iload_n 1, 1) := by decide +kernel
theorem dX3_stepsBetween_2 : decode cX3_stepsBetween 2 = .ok (.invokevirtual 18, 3) := by decide +kernel
theorem dX3_stepsBetween_5 : decode cX3_stepsBetween 5 = .ok (.iconst 0, 1) := by decide +kernel
theorem dX3_stepsBetween_6 : decode cX3_stepsBetween 6 = .ok (.istore 4, 2) := by decide +kernel
theorem dX3_stepsBetween_8 : decode cX3_stepsBetween 8 = .ok (.iload 4, 2) := by decide +kernel
theorem dX3_stepsBetween_10 : decode cX3_stepsBetween 10 = .ok (.sipush 1840, 3) := by decide +kernel
theorem dX3_stepsBetween_13 : decode cX3_stepsBetween 13 = .ok (.if_icmp .gt 41, 3) := by decide +kernel
theorem dX3_stepsBetween_16 : decode cX3_stepsBetween 16 = .ok (.aload_n 0, 1) := by decide +kernel
theorem dX3_stepsBetween_17 : decode cX3_stepsBetween 17 = .ok (.getfield 9, 3) := by decide +kernel
theorem dX3_stepsBetween_20 : decode cX3_stepsBetween 20 = .ok (.iload_n 2, 1) := by decide +kernel
theorem dX3_stepsBetween_21 : decode cX3_stepsBetween 21 = .ok (.invokestatic 26, 3) := by decide +kernel
theorem dX3_stepsBetween_24 : decode cX3_stepsBetween 24 = .ok (.iaload, 1) := by decide +kernel
theorem dX3_stepsBetween_25 : decode cX3_stepsBetween 25 = .ok (.iload_n 2, 1) := by decide +kernel
theorem dX3_stepsBetween_26 : decode cX3_stepsBetween 26 = .ok (.invokestatic 30, 3) := by decide +kernel
theorem dX3_stepsBetween_29 : decode cX3_stepsBetween 29 = .ok (.invokestatic 33, 3) := by decide +kernel
theorem dX3_stepsBetween_32 : decode cX3_stepsBetween 32 = .ok (.ifCond .eq 6, 3) := by decide +kernel
theorem dX3_stepsBetween_35 : decode cX3_stepsBetween 35 = .ok (.iload 4, 2) := by decide +kernel
theorem dX3_stepsBetween_37 : decode cX3_stepsBetween 37 = .ok (.ireturn, 1) := by decide +kernel
theorem dX3_stepsBetween_38 : decode cX3_stepsBetween 38 = .ok (.aload_n 0, 1) := by decide +kernel
theorem dX3_stepsBetween_39 : decode cX3_stepsBetween 39 = .ok (.aload_n 3, 1) := by decide +kernel
theorem dX3_stepsBetween_40 : decode cX3_stepsBetween 40 = .ok (.invokevirtual 22, 3) := by decide +kernel
theorem dX3_stepsBetween_43 : decode cX3_stepsBetween 43 = .ok (.ifCond .ne 5, 3) := by decide +kernel
theorem dX3_stepsBetween_46 : decode cX3_stepsBetween 46 = .ok (.iconst (-1), 1) := by decide +kernel
theorem dX3_stepsBetween_47 : decode cX3_stepsBetween 47 = .ok (.ireturn, 1) := by decide +kernel
theorem dX3_stepsBetween_48 : decode cX3_stepsBetween 48 = .ok (.iinc 4 1, 3) := by decide +kernel
theorem dX3_stepsBetween_51 : decode cX3_stepsBetween 51 = .ok (.goto (-43), 3) := by decide +kernel
theorem dX3_stepsBetween_54 : decode cX3_stepsBetween 54 = .ok (.iconst (-1), 1) := by decide +kernel
theorem dX3_stepsBetween_55 : decode cX3_stepsBetween 55 = .ok (.ireturn, 1) := by decide +kernel
theorem dX3_setOut_0 : decode cX3_setOut 0 = .ok (.aload_n 0, 1) := by decide +kernel
theorem dX3_setOut_1 : decode cX3_setOut 1 = .ok (.getfield 9, 3) := by decide +kernel
theorem dX3_setOut_4 : decode cX3_setOut 4 = .ok (.iconst 0, 1) := by decide +kernel
theorem dX3_setOut_5 : decode cX3_setOut 5 = .ok (.invokestatic 37, 3) := by decide +kernel
theorem dX3_setOut_8 : decode cX3_setOut 8 = .ok (.aload_n 0, 1) := by decide +kernel
theorem dX3_setOut_9 : decode cX3_setOut 9 = .ok (.getfield 9, 3) := by decide +kernel
theorem dX3_setOut_12 : decode cX3_setOut 12 = .ok (.iload_n 1, 1) := by decide +kernel
theorem dX3_setOut_13 : decode cX3_setOut 13 = .ok (.invokestatic 26, 3) := by decide +kernel
theorem dX3_setOut_16 : decode cX3_setOut 16 = .ok (.iconst 1, 1) := by decide +kernel
theorem dX3_setOut_17 : decode cX3_setOut 17 = .ok (.iload_n 1, 1) := by decide +kernel
theorem dX3_setOut_18 : decode cX3_setOut 18 = .ok (.invokestatic 30, 3) := by decide +kernel
theorem dX3_setOut_21 : decode cX3_setOut 21 = .ok (.ishl, 1) := by decide +kernel
theorem dX3_setOut_22 : decode cX3_setOut 22 = .ok (.iastore, 1) := by decide +kernel
theorem dX3_setOut_23 : decode cX3_setOut 23 = .ok (.return_, 1) := by decide +kernel
theorem dX3_goFurther_0 : decode cX3_goFurther 0 = .ok (.aload_n 0, 1) := by decide +kernel
theorem dX3_goFurther_1 : decode cX3_goFurther 1 = .ok (.getfield 9, 3) := by decide +kernel
theorem dX3_goFurther_4 : decode cX3_goFurther 4 = .ok (.iconst 0, 1) := by decide +kernel
theorem dX3_goFurther_5 : decode cX3_goFurther 5 = .ok (.aload_n 0, 1) := by decide +kernel
theorem dX3_goFurther_6 : decode cX3_goFurther 6 = .ok (.getfield 15, 3) := by decide +kernel
theorem dX3_goFurther_9 : decode cX3_goFurther 9 = .ok (.iconst 0, 1) := by decide +kernel
theorem dX3_goFurther_10 : decode cX3_goFurther 10 = .ok (.sipush 256, 3) := by decide +kernel
theorem dX3_goFurther_13 : decode cX3_goFurther 13 = .ok (.invokestatic 43, 3) := by decide +kernel
theorem dX3_goFurther_16 : decode cX3_goFurther 16 = .ok (.aload_n 1, 1) := by decide +kernel
theorem dX3_goFurther_17 : decode cX3_goFurther 17 = .ok (.getfield 49, 3) := by decide +kernel
theorem dX3_goFurther_20 : decode cX3_goFurther 20 = .ok (.invokestatic 54, 3) := by decide +kernel
theorem dX3_goFurther_23 : decode cX3_goFurther 23 = .ok (.istore_n 2, 1) := by decide +kernel
theorem dX3_goFurther_24 : decode cX3_goFurther 24 = .ok (.iconst 0, 1) := by decide +kernel
theorem dX3_goFurther_25 : decode cX3_goFurther 25 = .ok (.istore_n 3, 1) := by decide +kernel
theorem dX3_goFurther_26 : decode cX3_goFurther 26 = .ok (.iconst 0, 1) := by decide +kernel
theorem dX3_goFurther_27 : decode cX3_goFurther 27 = .ok (.istore 4, 2) := by decide +kernel
theorem dX3_goFurther_29 : decode cX3_goFurther 29 = .ok (.iload 4, 2) := by decide +kernel
theorem dX3_goFurther_31 : decode cX3_goFurther 31 = .ok (.getstatic 58, 3) := by decide +kernel
theorem dX3_goFurther_34 : decode cX3_goFurther 34 = .ok (.arraylength, 1) := by decide +kernel
theorem dX3_goFurther_35 : decode cX3_goFurther 35 = .ok (.if_icmp .ge 98, 3) := by decide +kernel
theorem dX3_goFurther_38 : decode cX3_goFurther 38 = .ok (.getstatic 58, 3) := by decide +kernel
theorem dX3_goFurther_41 : decode cX3_goFurther 41 = .ok (.iload 4, 2) := by decide +kernel
theorem dX3_goFurther_43 : decode cX3_goFurther 43 = .ok (.iaload, 1) := by decide +kernel
theorem dX3_goFurther_44 : decode cX3_goFurther 44 = .ok (.istore 5, 2) := by decide +kernel
theorem dX3_goFurther_46 : decode cX3_goFurther 46 = .ok (.aload_n 1, 1) := by decide +kernel
theorem dX3_goFurther_47 : decode cX3_goFurther 47 = .ok (.iload 5, 2) := by decide +kernel
theorem dX3_goFurther_49 : decode cX3_goFurther 49 = .ok (.iload_n 2, 1) := by decide +kernel
theorem dX3_goFurther_50 : decode cX3_goFurther 50 = .ok (.invokevirtual 61, 3) := by decide +kernel
theorem dX3_goFurther_53 : decode cX3_goFurther 53 = .ok (.aload_n 0, 1) := by decide +kernel
theorem dX3_goFurther_54 : decode cX3_goFurther 54 = .ok (.getfield 15, 3) := by decide +kernel
theorem dX3_goFurther_57 : decode cX3_goFurther 57 = .ok (.iload 5, 2) := by decide +kernel
theorem dX3_goFurther_59 : decode cX3_goFurther 59 = .ok (.iaload, 1) := by decide +kernel
theorem dX3_goFurther_60 : decode cX3_goFurther 60 = .ok (.iconst (-1), 1) := by decide +kernel
theorem dX3_goFurther_61 : decode cX3_goFurther 61 = .ok (.ixor, 1) := by decide +kernel
theorem dX3_goFurther_62 : decode cX3_goFurther 62 = .ok (.iand, 1) := by decide +kernel
theorem dX3_goFurther_63 : decode cX3_goFurther 63 = .ok (.istore 6, 2) := by decide +kernel
theorem dX3_goFurther_65 : decode cX3_goFurther 65 = .ok (.iload 6, 2) := by decide +kernel
theorem dX3_goFurther_67 : decode cX3_goFurther 67 = .ok (.ifCond .eq 60, 3) := by decide +kernel
theorem dX3_goFurther_70 : decode cX3_goFurther 70 = .ok (.aload_n 0, 1) := by decide +kernel
theorem dX3_goFurther_71 : decode cX3_goFurther 71 = .ok (.getfield 9, 3) := by decide +kernel
theorem dX3_goFurther_74 : decode cX3_goFurther 74 = .ok (.iload 5, 2) := by decide +kernel
theorem dX3_goFurther_76 : decode cX3_goFurther 76 = .ok (.dup2, 1) := by decide +kernel
theorem dX3_goFurther_77 : decode cX3_goFurther 77 = .ok (.iaload, 1) := by decide +kernel
theorem dX3_goFurther_78 : decode cX3_goFurther 78 = .ok (.iload 6, 2) := by decide +kernel
theorem dX3_goFurther_80 : decode cX3_goFurther 80 = .ok (.aload_n 0, 1) := by decide +kernel
theorem dX3_goFurther_81 : decode cX3_goFurther 81 = .ok (.getfield 15, 3) := by decide +kernel
theorem dX3_goFurther_84 : decode cX3_goFurther 84 = .ok (.iload 5, 2) := by decide +kernel
theorem dX3_goFurther_86 : decode cX3_goFurther 86 = .ok (.iaload, 1) := by decide +kernel
theorem dX3_goFurther_87 : decode cX3_goFurther 87 = .ok (.invokestatic 65, 3) := by decide +kernel
theorem dX3_goFurther_90 : decode cX3_goFurther 90 = .ok (.aload_n 0, 1) := by decide +kernel
theorem dX3_goFurther_91 : decode cX3_goFurther 91 = .ok (.iload 5, 2) := by decide +kernel
theorem dX3_goFurther_93 : decode cX3_goFurther 93 = .ok (.invokevirtual 68, 3) := by decide +kernel
theorem dX3_goFurther_96 : decode cX3_goFurther 96 = .ok (.ior, 1) := by decide +kernel
theorem dX3_goFurther_97 : decode cX3_goFurther 97 = .ok (.iand, 1) := by decide +kernel
theorem dX3_goFurther_98 : decode cX3_goFurther 98 = .ok (.ior, 1) := by decide +kernel
theorem dX3_goFurther_99 : decode cX3_goFurther 99 = .ok (.iastore, 1) := by decide +kernel
theorem dX3_goFurther_100 : decode cX3_goFurther 100 = .ok (.iload_n 3, 1) := by decide +kernel
theorem dX3_goFurther_101 : decode cX3_goFurther 101 = .ok (.ifCond .ne 20, 3) := by decide +kernel
theorem dX3_goFurther_104 : decode cX3_goFurther 104 = .ok (.aload_n 0, 1) := by decide +kernel
theorem dX3_goFurther_105 : decode cX3_goFurther 105 = .ok (.getfield 9, 3) := by decide +kernel
theorem dX3_goFurther_108 : decode cX3_goFurther 108 = .ok (.iload 5, 2) := by decide +kernel
theorem dX3_goFurther_110 : decode cX3_goFurther 110 = .ok (.iaload, 1) := by decide +kernel
theorem dX3_goFurther_111 : decode cX3_goFurther 111 = .ok (.aload_n 0, 1) := by decide +kernel
theorem dX3_goFurther_112 : decode cX3_goFurther 112 = .ok (.getfield 15, 3) := by decide +kernel
theorem dX3_goFurther_115 : decode cX3_goFurther 115 = .ok (.iload 5, 2) := by decide +kernel
theorem dX3_goFurther_117 : decode cX3_goFurther 117 = .ok (.iaload, 1) := by decide +kernel
theorem dX3_goFurther_118 : decode cX3_goFurther 118 = .ok (.if_icmp .eq 7, 3) := by decide +kernel
theorem dX3_goFurther_121 : decode cX3_goFurther 121 = .ok (.iconst 1, 1) := by decide +kernel
theorem dX3_goFurther_122 : decode cX3_goFurther 122 = .ok (.goto 4, 3) := by decide +kernel
theorem dX3_goFurther_125 : decode cX3_goFurther 125 = .ok (.iconst 0, 1) := by decide +kernel
theorem dX3_goFurther_126 : decode cX3_goFurther 126 = .ok (.istore_n 3, 1) := by decide +kernel
theorem dX3_goFurther_127 : decode cX3_goFurther 127 = .ok (.iinc 4 1, 3) := by decide +kernel
theorem dX3_goFurther_130 : decode cX3_goFurther 130 = .ok (.goto (-101), 3) := by decide +kernel
theorem dX3_goFurther_133 : decode cX3_goFurther 133 = .ok (.iload_n 3, 1) := by decide +kernel
theorem dX3_goFurther_134 : decode cX3_goFurther 134 = .ok (.ireturn, 1) := by decide +kernel
theorem dX3_fromOtherSets_0 : decode cX3_fromOtherSets 0 = .ok (.iconst 0, 1) := by decide +kernel
theorem dX3_fromOtherSets_1 : decode cX3_fromOtherSets 1 = .ok (.istore_n 2, 1) := by decide +kernel
theorem dX3_fromOtherSets_2 : decode cX3_fromOtherSets 2 = .ok (.iconst 0, 1) := by decide +kernel
theorem dX3_fromOtherSets_3 : decode cX3_fromOtherSets 3 = .ok (.istore_n 3, 1) := by decide +kernel
theorem dX3_fromOtherSets_4 : decode cX3_fromOtherSets 4 = .ok (.iload_n 3, 1) := by decide +kernel
theorem dX3_fromOtherSets_5 : decode cX3_fromOtherSets 5 = .ok (.bipush 8, 2) := by decide +kernel
theorem dX3_fromOtherSets_7 : decode cX3_fromOtherSets 7 = .ok (.if_icmp .ge 22, 3) := by decide +kernel
theorem dX3_fromOtherSets_10 : decode cX3_fromOtherSets 10 = .ok (.iload_n 2, 1) := by decide +kernel
theorem dX3_fromOtherSets_11 : decode cX3_fromOtherSets 11 = .ok (.aload_n 0, 1) := by decide +kernel
theorem dX3_fromOtherSets_12 : decode cX3_fromOtherSets 12 = .ok (.getfield 15, 3) := by decide +kernel
theorem dX3_fromOtherSets_15 : decode cX3_fromOtherSets 15 = .ok (.iload_n 1, 1) := by decide +kernel
theorem dX3_fromOtherSets_16 : decode cX3_fromOtherSets 16 = .ok (.iconst 1, 1) := by decide +kernel
theorem dX3_fromOtherSets_17 : decode cX3_fromOtherSets 17 = .ok (.iload_n 3, 1) := by decide +kernel
theorem dX3_fromOtherSets_18 : decode cX3_fromOtherSets 18 = .ok (.ishl, 1) := by decide +kernel
theorem dX3_fromOtherSets_19 : decode cX3_fromOtherSets 19 = .ok (.ixor, 1) := by decide +kernel
theorem dX3_fromOtherSets_20 : decode cX3_fromOtherSets 20 = .ok (.iaload, 1) := by decide +kernel
theorem dX3_fromOtherSets_21 : decode cX3_fromOtherSets 21 = .ok (.ior, 1) := by decide +kernel
theorem dX3_fromOtherSets_22 : decode cX3_fromOtherSets 22 = .ok (.istore_n 2, 1) := by decide +kernel
theorem dX3_fromOtherSets_23 : decode cX3_fromOtherSets 23 = .ok (.iinc 3 1, 3) := by decide +kernel
theorem dX3_fromOtherSets_26 : decode cX3_fromOtherSets 26 = .ok (.goto (-22), 3) := by decide +kernel
theorem dX3_fromOtherSets_29 : decode cX3_fromOtherSets 29 = .ok (.iload_n 2, 1) := by decide +kernel
theorem dX3_fromOtherSets_30 : decode cX3_fromOtherSets 30 = .ok (.ireturn, 1) := by decide +kernel
theorem dX3_otherManners_0 : decode cX3_otherManners 0 = .ok (.iconst 0, 1) := by decide +kernel
theorem dX3_otherManners_1 : decode cX3_otherManners 1 = .ok (.istore_n 1, 1) := by decide +kernel
theorem dX3_otherManners_2 : decode cX3_otherManners 2 = .ok (.iconst 0, 1) := by decide +kernel
theorem dX3_otherManners_3 : decode cX3_otherManners 3 = .ok (.istore_n 2, 1) := by decide +kernel
theorem dX3_otherManners_4 : decode cX3_otherManners 4 = .ok (.iconst 0, 1) := by decide +kernel
theorem dX3_otherManners_5 : decode cX3_otherManners 5 = .ok (.istore_n 3, 1) := by decide +kernel
theorem dX3_otherManners_6 : decode cX3_otherManners 6 = .ok (.iload_n 3, 1) := by decide +kernel
theorem dX3_otherManners_7 : decode cX3_otherManners 7 = .ok (.iconst 5, 1) := by decide +kernel
theorem dX3_otherManners_8 : decode cX3_otherManners 8 = .ok (.if_icmp .ge 38, 3) := by decide +kernel
theorem dX3_otherManners_11 : decode cX3_otherManners 11 = .ok (.iload_n 0, 1) := by decide +kernel
theorem dX3_otherManners_12 : decode cX3_otherManners 12 = .ok (.iconst 4, 1) := by decide +kernel
theorem dX3_otherManners_13 : decode cX3_otherManners 13 = .ok (.iload_n 3, 1) := by decide +kernel
theorem dX3_otherManners_14 : decode cX3_otherManners 14 = .ok (.imul, 1) := by decide +kernel
theorem dX3_otherManners_15 : decode cX3_otherManners 15 = .ok (.ishr, 1) := by decide +kernel
theorem dX3_otherManners_16 : decode cX3_otherManners 16 = .ok (.bipush 15, 2) := by decide +kernel
theorem dX3_otherManners_18 : decode cX3_otherManners 18 = .ok (.iand, 1) := by decide +kernel
theorem dX3_otherManners_19 : decode cX3_otherManners 19 = .ok (.istore 4, 2) := by decide +kernel
theorem dX3_otherManners_21 : decode cX3_otherManners 21 = .ok (.iload_n 1, 1) := by decide +kernel
theorem dX3_otherManners_22 : decode cX3_otherManners 22 = .ok (.iload 4, 2) := by decide +kernel
theorem dX3_otherManners_24 : decode cX3_otherManners 24 = .ok (.ior, 1) := by decide +kernel
theorem dX3_otherManners_25 : decode cX3_otherManners 25 = .ok (.istore_n 1, 1) := by decide +kernel
theorem dX3_otherManners_26 : decode cX3_otherManners 26 = .ok (.iload 4, 2) := by decide +kernel
theorem dX3_otherManners_28 : decode cX3_otherManners 28 = .ok (.ifCond .eq 12, 3) := by decide +kernel
theorem dX3_otherManners_31 : decode cX3_otherManners 31 = .ok (.iload_n 2, 1) := by decide +kernel
theorem dX3_otherManners_32 : decode cX3_otherManners 32 = .ok (.bipush 15, 2) := by decide +kernel
theorem dX3_otherManners_34 : decode cX3_otherManners 34 = .ok (.iconst 4, 1) := by decide +kernel
theorem dX3_otherManners_35 : decode cX3_otherManners 35 = .ok (.iload_n 3, 1) := by decide +kernel
theorem dX3_otherManners_36 : decode cX3_otherManners 36 = .ok (.imul, 1) := by decide +kernel
theorem dX3_otherManners_37 : decode cX3_otherManners 37 = .ok (.ishl, 1) := by decide +kernel
theorem dX3_otherManners_38 : decode cX3_otherManners 38 = .ok (.ior, 1) := by decide +kernel
theorem dX3_otherManners_39 : decode cX3_otherManners 39 = .ok (.istore_n 2, 1) := by decide +kernel
theorem dX3_otherManners_40 : decode cX3_otherManners 40 = .ok (.iinc 3 1, 3) := by decide +kernel
theorem dX3_otherManners_43 : decode cX3_otherManners 43 = .ok (.goto (-37), 3) := by decide +kernel
theorem dX3_otherManners_46 : decode cX3_otherManners 46 = .ok (.iload_n 2, 1) := by decide +kernel
theorem dX3_otherManners_47 : decode cX3_otherManners 47 = .ok (.iload_n 1, 1) := by decide +kernel
theorem dX3_otherManners_48 : decode cX3_otherManners 48 = .ok (.ldc 71, 2) := by decide +kernel
theorem dX3_otherManners_50 : decode cX3_otherManners 50 = .ok (.imul, 1) := by decide +kernel
theorem dX3_otherManners_51 : decode cX3_otherManners 51 = .ok (.ior, 1) := by decide +kernel
theorem dX3_otherManners_52 : decode cX3_otherManners 52 = .ok (.ireturn, 1) := by decide +kernel
theorem dX4_init_0 : decode cX4_init 0 = .ok (.aload_n 0, 1) := by decide +kernel
theorem dX4_init_1 : decode cX4_init 1 = .ok (.invokespecial 3, 3) := by decide +kernel
theorem dX4_init_4 : decode cX4_init 4 = .ok (.aload_n 0, 1) := by decide +kernel
theorem dX4_init_5 : decode cX4_init 5 = .ok (.iconst 0, 1) := by decide +kernel
theorem dX4_init_6 : decode cX4_init 6 = .ok (.putfield 9, 3) := by decide +kernel
theorem dX4_init_9 : decode cX4_init 9 = .ok (.aload_n 0, 1) := by decide +kernel
theorem dX4_init_10 : decode cX4_init 10 = .ok (.iconst 0, 1) := by decide +kernel
theorem dX4_init_11 : decode cX4_init 11 = .ok (.putfield 15, 3) := by decide +kernel
theorem dX4_init_14 : decode cX4_init 14 = .ok (.aload_n 0, 1) := by decide +kernel
theorem dX4_init_15 : decode cX4_init 15 = .ok (.bipush 40, 2) := by decide +kernel
theorem dX4_init_17 : decode cX4_init 17 = .ok (.newarray .long, 2) := by decide +kernel
theorem dX4_init_19 : decode cX4_init 19 = .ok (.putfield 18, 3) := by decide +kernel
theorem dX4_init_22 : decode cX4_init 22 = .ok (.return_, 1) := by decide +kernel
theorem dX4_lay_0 : decode cX4_lay 0 = .ok (.aload_n 0, 1) := by decide +kernel
theorem dX4_lay_1 : decode cX4_lay 1 = .ok (.iload_n 1, 1) := by decide +kernel
theorem dX4_lay_2 : decode cX4_lay 2 = .ok (.putfield 9, 3) := by decide +kernel
theorem dX4_lay_5 : decode cX4_lay 5 = .ok (.aload_n 0, 1) := by decide +kernel
theorem dX4_lay_6 : decode cX4_lay 6 = .ok (.iload_n 1, 1) := by decide +kernel
theorem dX4_lay_7 : decode cX4_lay 7 = .ok (.ifCond .ne 7, 3) := by decide +kernel
theorem dX4_lay_10 : decode cX4_lay 10 = .ok (.iconst 0, 1) := by decide +kernel
theorem dX4_lay_11 : decode cX4_lay 11 = .ok (.goto 4, 3) := by decide +kernel
theorem dX4_lay_14 : decode cX4_lay 14 = .ok (.iload_n 2, 1) := by decide +kernel
theorem dX4_lay_15 : decode cX4_lay 15 = .ok (.putfield 15, 3) := by decide +kernel
theorem dX4_lay_18 : decode cX4_lay 18 = .ok (.aload_n 0, 1) := by decide +kernel
theorem dX4_lay_19 : decode cX4_lay 19 = .ok (.getfield 18, 3) := by decide +kernel
theorem dX4_lay_22 : decode cX4_lay 22 = .ok (.lconst 0, 1) := by decide +kernel
theorem dX4_lay_23 : decode cX4_lay 23 = .ok (.invokestatic 22, 3) := by decide +kernel
theorem dX4_lay_26 : decode cX4_lay 26 = .ok (.return_, 1) := by decide +kernel
theorem dX4_isMissing_0 : decode cX4_isMissing 0 = .ok (.aload_n 0, 1) := by decide +kernel
theorem dX4_isMissing_1 : decode cX4_isMissing 1 = .ok (.getfield 9, 3) := by decide +kernel
theorem dX4_isMissing_4 : decode cX4_isMissing 4 = .ok (.ifCond .ne 7, 3) := by decide +kernel
theorem dX4_isMissing_7 : decode cX4_isMissing 7 = .ok (.iconst 1, 1) := by decide +kernel
theorem dX4_isMissing_8 : decode cX4_isMissing 8 = .ok (.goto 4, 3) := by decide +kernel
theorem dX4_isMissing_11 : decode cX4_isMissing 11 = .ok (.iconst 0, 1) := by decide +kernel
theorem dX4_isMissing_12 : decode cX4_isMissing 12 = .ok (.ireturn, 1) := by decide +kernel
theorem dX4_hasPart_0 : decode cX4_hasPart 0 = .ok (.iload_n 1, 1) := by decide +kernel
theorem dX4_hasPart_1 : decode cX4_hasPart 1 = .ok (.ifCond .lt 21, 3) := by decide +kernel
theorem dX4_hasPart_4 : decode cX4_hasPart 4 = .ok (.iload_n 2, 1) := by decide +kernel
theorem dX4_hasPart_5 : decode cX4_hasPart 5 = .ok (.ifCond .lt 17, 3) := by decide +kernel
theorem dX4_hasPart_8 : decode cX4_hasPart 8 = .ok (.iload_n 2, 1) := by decide +kernel
theorem dX4_hasPart_9 : decode cX4_hasPart 9 = .ok (.aload_n 0, 1) := by decide +kernel
theorem dX4_hasPart_10 : decode cX4_hasPart 10 = .ok (.getfield 15, 3) := by decide +kernel
theorem dX4_hasPart_13 : decode cX4_hasPart 13 = .ok (.iload_n 1, 1) := by decide +kernel
theorem dX4_hasPart_14 : decode cX4_hasPart 14 = .ok (.isub, 1) := by decide +kernel
theorem dX4_hasPart_15 : decode cX4_hasPart 15 = .ok (.if_icmp .gt 7, 3) := by decide +kernel
theorem dX4_hasPart_18 : decode cX4_hasPart 18 = .ok (.iconst 1, 1) := by decide +kernel
theorem dX4_hasPart_19 : decode cX4_hasPart 19 = .ok (.goto 4, 3) := by decide +kernel
theorem dX4_hasPart_22 : decode cX4_hasPart 22 = .ok (.iconst 0, 1) := by decide +kernel
theorem dX4_hasPart_23 : decode cX4_hasPart 23 = .ok (.ireturn, 1) := by decide +kernel
theorem dX4_put_0 : decode cX4_put 0 = .ok (.iload_n 1, 1) := by decide +kernel
theorem dX4_put_1 : decode cX4_put 1 = .ok (.aload_n 0, 1) := by decide +kernel
theorem dX4_put_2 : decode cX4_put 2 = .ok (.getfield 15, 3) := by decide +kernel
theorem dX4_put_5 : decode cX4_put 5 = .ok (.invokestatic 28, 3) := by decide +kernel
theorem dX4_put_8 : decode cX4_put 8 = .ok (.ifCond .eq 14, 3) := by decide +kernel
theorem dX4_put_11 : decode cX4_put 11 = .ok (.aload_n 0, 1) := by decide +kernel
theorem dX4_put_12 : decode cX4_put 12 = .ok (.getfield 18, 3) := by decide +kernel
theorem dX4_put_15 : decode cX4_put 15 = .ok (.iload_n 1, 1) := by decide +kernel
theorem dX4_put_16 : decode cX4_put 16 = .ok (.aload_n 0, 1) := by decide +kernel
theorem dX4_put_17 : decode cX4_put 17 = .ok (.lload_n 2, 1) := by decide +kernel
theorem dX4_put_18 : decode cX4_put 18 = .ok (.invokevirtual 32, 3) := by decide +kernel
theorem dX4_put_21 : decode cX4_put 21 = .ok (.lastore, 1) := by decide +kernel
theorem dX4_put_22 : decode cX4_put 22 = .ok (.return_, 1) := by decide +kernel
theorem dX4_cut_0 : decode cX4_cut 0 = .ok (.aload_n 0, 1) := by decide +kernel
theorem dX4_cut_1 : decode cX4_cut 1 = .ok (.getfield 9, 3) := by decide +kernel
theorem dX4_cut_4 : decode cX4_cut 4 = .ok (.bipush 8, 2) := by decide +kernel
theorem dX4_cut_6 : decode cX4_cut 6 = .ok (.if_icmp .ne 8, 3) := by decide +kernel
theorem dX4_cut_9 : decode cX4_cut 9 = .ok (.lload_n 1, 1) := by decide +kernel
theorem dX4_cut_10 : decode cX4_cut 10 = .ok (.l2i, 1) := by decide +kernel
theorem dX4_cut_11 : decode cX4_cut 11 = .ok (.i2b, 1) := by decide +kernel
theorem dX4_cut_12 : decode cX4_cut 12 = .ok (.i2l, 1) := by decide +kernel
theorem dX4_cut_13 : decode cX4_cut 13 = .ok (.lreturn, 1) := by decide +kernel
theorem dX4_cut_14 : decode cX4_cut 14 = .ok (.aload_n 0, 1) := by decide +kernel
theorem dX4_cut_15 : decode cX4_cut 15 = .ok (.getfield 9, 3) := by decide +kernel
theorem dX4_cut_18 : decode cX4_cut 18 = .ok (.bipush 16, 2) := by decide +kernel
theorem dX4_cut_20 : decode cX4_cut 20 = .ok (.if_icmp .ne 10, 3) := by decide +kernel
theorem dX4_cut_23 : decode cX4_cut 23 = .ok (.lload_n 1, 1) := by decide +kernel
theorem dX4_cut_24 : decode cX4_cut 24 = .ok (.l2i, 1) := by decide +kernel
theorem dX4_cut_25 : decode cX4_cut 25 = .ok (.i2s, 1) := by decide +kernel
theorem dX4_cut_26 : decode cX4_cut 26 = .ok (.i2l, 1) := by decide +kernel
theorem dX4_cut_27 : decode cX4_cut 27 = .ok (.goto 4, 3) := by decide +kernel
theorem dX4_cut_30 : decode cX4_cut 30 = .ok (.lload_n 1, 1) := by decide +kernel
theorem dX4_cut_31 : decode cX4_cut 31 = .ok (.lreturn, 1) := by decide +kernel
theorem dX5_init_0 : decode cX5_init 0 = .ok (.aload_n 0, 1) := by decide +kernel
theorem dX5_init_1 : decode cX5_init 1 = .ok (.invokespecial 3, 3) := by decide +kernel
theorem dX5_init_4 : decode cX5_init 4 = .ok (.aload_n 0, 1) := by decide +kernel
theorem dX5_init_5 : decode cX5_init 5 = .ok (.iconst 0, 1) := by decide +kernel
theorem dX5_init_6 : decode cX5_init 6 = .ok (.putfield 9, 3) := by decide +kernel
theorem dX5_init_9 : decode cX5_init 9 = .ok (.aload_n 0, 1) := by decide +kernel
theorem dX5_init_10 : decode cX5_init 10 = .ok (.bipush 120, 2) := by decide +kernel
theorem dX5_init_12 : decode cX5_init 12 = .ok (.newarray .int, 2) := by decide +kernel
theorem dX5_init_14 : decode cX5_init 14 = .ok (.putfield 15, 3) := by decide +kernel
theorem dX5_init_17 : decode cX5_init 17 = .ok (.aload_n 0, 1) := by decide +kernel
theorem dX5_init_18 : decode cX5_init 18 = .ok (.iconst 0, 1) := by decide +kernel
theorem dX5_init_19 : decode cX5_init 19 = .ok (.putfield 19, 3) := by decide +kernel
theorem dX5_init_22 : decode cX5_init 22 = .ok (.aload_n 0, 1) := by decide +kernel
theorem dX5_init_23 : decode cX5_init 23 = .ok (.iconst 0, 1) := by decide +kernel
theorem dX5_init_24 : decode cX5_init 24 = .ok (.putfield 22, 3) := by decide +kernel
theorem dX5_init_27 : decode cX5_init 27 = .ok (.aload_n 0, 1) := by decide +kernel
theorem dX5_init_28 : decode cX5_init 28 = .ok (.iconst 0, 1) := by decide +kernel
theorem dX5_init_29 : decode cX5_init 29 = .ok (.putfield 25, 3) := by decide +kernel
theorem dX5_init_32 : decode cX5_init 32 = .ok (.aload_n 0, 1) := by decide +kernel
theorem dX5_init_33 : decode cX5_init 33 = .ok (.iconst 0, 1) := by decide +kernel
theorem dX5_init_34 : decode cX5_init 34 = .ok (.putfield 28, 3) := by decide +kernel
theorem dX5_init_37 : decode cX5_init 37 = .ok (.return_, 1) := by decide +kernel
theorem dX5_put_0 : decode cX5_put 0 = .ok (.aload_n 0, 1) := by decide +kernel
theorem dX5_put_1 : decode cX5_put 1 = .ok (.getfield 9, 3) := by decide +kernel
theorem dX5_put_4 : decode cX5_put 4 = .ok (.bipush 120, 2) := by decide +kernel
theorem dX5_put_6 : decode cX5_put 6 = .ok (.if_icmp .ge 23, 3) := by decide +kernel
theorem dX5_put_9 : decode cX5_put 9 = .ok (.aload_n 0, 1) := by decide +kernel
theorem dX5_put_10 : decode cX5_put 10 = .ok (.getfield 15, 3) := by decide +kernel
theorem dX5_put_13 : decode cX5_put 13 = .ok (.aload_n 0, 1) := by decide +kernel
theorem dX5_put_14 : decode cX5_put 14 = .ok (.getfield 9, 3) := by decide +kernel
theorem dX5_put_17 : decode cX5_put 17 = .ok (.iload_n 1, 1) := by decide +kernel
theorem dX5_put_18 : decode cX5_put 18 = .ok (.iastore, 1) := by decide +kernel
theorem dX5_put_19 : decode cX5_put 19 = .ok (.aload_n 0, 1) := by decide +kernel
theorem dX5_put_20 : decode cX5_put 20 = .ok (.dup, 1) := by decide +kernel
theorem dX5_put_21 : decode cX5_put 21 = .ok (.getfield 9, 3) := by decide +kernel
theorem dX5_put_24 : decode cX5_put 24 = .ok (.iconst 1, 1) := by decide +kernel
theorem dX5_put_25 : decode cX5_put 25 = .ok (.iadd, 1) := by decide +kernel
theorem dX5_put_26 : decode cX5_put 26 = .ok (.putfield 9, 3) := by decide +kernel
theorem dX5_put_29 : decode cX5_put 29 = .ok (.return_, 1) := by decide +kernel
theorem dX5_tellTo_0 : decode cX5_tellTo 0 = .ok (.aload_n 0, 1) := by decide +kernel
theorem dX5_tellTo_1 : decode cX5_tellTo 1 = .ok (.iconst 0, 1) := by decide +kernel
theorem dX5_tellTo_2 : decode cX5_tellTo 2 = .ok (.putfield 25, 3) := by decide +kernel
theorem dX5_tellTo_5 : decode cX5_tellTo 5 = .ok (.iconst 1, 1) := by decide +kernel
theorem dX5_tellTo_6 : decode cX5_tellTo 6 = .ok (.istore_n 2, 1) := by decide +kernel
theorem dX5_tellTo_7 : decode cX5_tellTo 7 = .ok (.iload_n 2, 1) := by decide +kernel
theorem dX5_tellTo_8 : decode cX5_tellTo 8 = .ok (.bipush 120, 2) := by decide +kernel
theorem dX5_tellTo_10 : decode cX5_tellTo 10 = .ok (.if_icmp .gt 44, 3) := by decide +kernel
theorem dX5_tellTo_13 : decode cX5_tellTo 13 = .ok (.aload_n 0, 1) := by decide +kernel
theorem dX5_tellTo_14 : decode cX5_tellTo 14 = .ok (.invokevirtual 31, 3) := by decide +kernel
theorem dX5_tellTo_17 : decode cX5_tellTo 17 = .ok (.aload_n 0, 1) := by decide +kernel
theorem dX5_tellTo_18 : decode cX5_tellTo 18 = .ok (.aload_n 1, 1) := by decide +kernel
theorem dX5_tellTo_19 : decode cX5_tellTo 19 = .ok (.invokevirtual 34, 3) := by decide +kernel
theorem dX5_tellTo_22 : decode cX5_tellTo 22 = .ok (.ifCond .ne 6, 3) := by decide +kernel
theorem dX5_tellTo_25 : decode cX5_tellTo 25 = .ok (.goto 29, 3) := by decide +kernel
theorem dX5_tellTo_28 : decode cX5_tellTo 28 = .ok (.aload_n 0, 1) := by decide +kernel
theorem dX5_tellTo_29 : decode cX5_tellTo 29 = .ok (.getfield 19, 3) := by decide +kernel
theorem dX5_tellTo_32 : decode cX5_tellTo 32 = .ok (.ifCond .ne 5, 3) := by decide +kernel
theorem dX5_tellTo_35 : decode cX5_tellTo 35 = .ok (.iload_n 2, 1) := by decide +kernel
theorem dX5_tellTo_36 : decode cX5_tellTo 36 = .ok (.ireturn, 1) := by decide +kernel
theorem dX5_tellTo_37 : decode cX5_tellTo 37 = .ok (.aload_n 0, 1) := by decide +kernel
theorem dX5_tellTo_38 : decode cX5_tellTo 38 = .ok (.getfield 19, 3) := by decide +kernel
theorem dX5_tellTo_41 : decode cX5_tellTo 41 = .ok (.iconst 3, 1) := by decide +kernel
theorem dX5_tellTo_42 : decode cX5_tellTo 42 = .ok (.if_icmp .eq 6, 3) := by decide +kernel
theorem dX5_tellTo_45 : decode cX5_tellTo 45 = .ok (.goto 9, 3) := by decide +kernel
theorem dX5_tellTo_48 : decode cX5_tellTo 48 = .ok (.iinc 2 1, 3) := by decide +kernel
theorem dX5_tellTo_51 : decode cX5_tellTo 51 = .ok (.goto (-44), 3) := by decide +kernel
theorem dX5_tellTo_54 : decode cX5_tellTo 54 = .ok (.iconst (-1), 1) := by decide +kernel
theorem dX5_tellTo_55 : decode cX5_tellTo 55 = .ok (.aload_n 0, 1) := by decide +kernel
theorem dX5_tellTo_56 : decode cX5_tellTo 56 = .ok (.getfield 22, 3) := by decide +kernel
theorem dX5_tellTo_59 : decode cX5_tellTo 59 = .ok (.isub, 1) := by decide +kernel
theorem dX5_tellTo_60 : decode cX5_tellTo 60 = .ok (.ireturn, 1) := by decide +kernel
theorem dX5_takeItem_0 : decode cX5_takeItem 0 = .ok (.aload_n 0, 1) := by decide +kernel
theorem dX5_takeItem_1 : decode cX5_takeItem 1 = .ok (.invokevirtual 38, 3) := by decide +kernel
theorem dX5_takeItem_4 : decode cX5_takeItem 4 = .ok (.istore_n 2, 1) := by decide +kernel
theorem dX5_takeItem_5 : decode cX5_takeItem 5 = .ok (.iload_n 2, 1) := by decide +kernel
theorem dX5_takeItem_6 : decode cX5_takeItem 6 = .ok (.ifCond .lt 10, 3) := by decide +kernel
theorem dX5_takeItem_9 : decode cX5_takeItem 9 = .ok (.aload_n 0, 1) := by decide +kernel
theorem dX5_takeItem_10 : decode cX5_takeItem 10 = .ok (.aload_n 1, 1) := by decide +kernel
theorem dX5_takeItem_11 : decode cX5_takeItem 11 = .ok (.iload_n 2, 1) := by decide +kernel
theorem dX5_takeItem_12 : decode cX5_takeItem 12 = .ok (.invokevirtual 42, 3) := by decide +kernel
theorem dX5_takeItem_15 : decode cX5_takeItem 15 = .ok (.ireturn, 1) := by decide +kernel
theorem dX5_takeItem_16 : decode cX5_takeItem 16 = .ok (.aload_n 0, 1) := by decide +kernel
theorem dX5_takeItem_17 : decode cX5_takeItem 17 = .ok (.ldc 46, 2) := by decide +kernel
theorem dX5_takeItem_19 : decode cX5_takeItem 19 = .ok (.invokevirtual 48, 3) := by decide +kernel
theorem dX5_takeItem_22 : decode cX5_takeItem 22 = .ok (.ifCond .eq 9, 3) := by decide +kernel
theorem dX5_takeItem_25 : decode cX5_takeItem 25 = .ok (.aload_n 0, 1) := by decide +kernel
theorem dX5_takeItem_26 : decode cX5_takeItem 26 = .ok (.aload_n 1, 1) := by decide +kernel
theorem dX5_takeItem_27 : decode cX5_takeItem 27 = .ok (.invokevirtual 52, 3) := by decide +kernel
theorem dX5_takeItem_30 : decode cX5_takeItem 30 = .ok (.ireturn, 1) := by decide +kernel
theorem dX5_takeItem_31 : decode cX5_takeItem 31 = .ok (.aload_n 0, 1) := by decide +kernel
theorem dX5_takeItem_32 : decode cX5_takeItem 32 = .ok (.ldc 55, 2) := by decide +kernel
theorem dX5_takeItem_34 : decode cX5_takeItem 34 = .ok (.invokevirtual 48, 3) := by decide +kernel
theorem dX5_takeItem_37 : decode cX5_takeItem 37 = .ok (.ifCond .eq 10, 3) := by decide +kernel
theorem dX5_takeItem_40 : decode cX5_takeItem 40 = .ok (.aload_n 0, 1) := by decide +kernel
theorem dX5_takeItem_41 : decode cX5_takeItem 41 = .ok (.aload_n 1, 1) := by decide +kernel
theorem dX5_takeItem_42 : decode cX5_takeItem 42 = .ok (.iconst 1, 1) := by decide +kernel
theorem dX5_takeItem_43 : decode cX5_takeItem 43 = .ok (.invokevirtual 57, 3) := by decide +kernel
theorem dX5_takeItem_46 : decode cX5_takeItem 46 = .ok (.ireturn, 1) := by decide +kernel
theorem dX5_takeItem_47 : decode cX5_takeItem 47 = .ok (.aload_n 0, 1) := by decide +kernel
theorem dX5_takeItem_48 : decode cX5_takeItem 48 = .ok (.ldc 60, 2) := by decide +kernel
theorem dX5_takeItem_50 : decode cX5_takeItem 50 = .ok (.invokevirtual 48, 3) := by decide +kernel
theorem dX5_takeItem_53 : decode cX5_takeItem 53 = .ok (.ifCond .eq 10, 3) := by decide +kernel
theorem dX5_takeItem_56 : decode cX5_takeItem 56 = .ok (.aload_n 0, 1) := by decide +kernel
theorem dX5_takeItem_57 : decode cX5_takeItem 57 = .ok (.aload_n 1, 1) := by decide +kernel
theorem dX5_takeItem_58 : decode cX5_takeItem 58 = .ok (.iconst (-1), 1) := by decide +kernel
theorem dX5_takeItem_59 : decode cX5_takeItem 59 = .ok (.invokevirtual 57, 3) := by decide +kernel
theorem dX5_takeItem_62 : decode cX5_takeItem 62 = .ok (.ireturn, 1) := by decide +kernel
theorem dX5_takeItem_63 : decode cX5_takeItem 63 = .ok (.aload_n 0, 1) := by decide +kernel
theorem dX5_takeItem_64 : decode cX5_takeItem 64 = .ok (.ldc 62, 2) := by decide +kernel
theorem dX5_takeItem_66 : decode cX5_takeItem 66 = .ok (.invokevirtual 48, 3) := by decide +kernel
theorem dX5_takeItem_69 : decode cX5_takeItem 69 = .ok (.ifCond .eq 9, 3) := by decide +kernel
theorem dX5_takeItem_72 : decode cX5_takeItem 72 = .ok (.aload_n 0, 1) := by decide +kernel
theorem dX5_takeItem_73 : decode cX5_takeItem 73 = .ok (.aload_n 1, 1) := by decide +kernel
theorem dX5_takeItem_74 : decode cX5_takeItem 74 = .ok (.invokevirtual 64, 3) := by decide +kernel
theorem dX5_takeItem_77 : decode cX5_takeItem 77 = .ok (.ireturn, 1) := by decide +kernel
theorem dX5_takeItem_78 : decode cX5_takeItem 78 = .ok (.aload_n 0, 1) := by decide +kernel
theorem dX5_takeItem_79 : decode cX5_takeItem 79 = .ok (.ldc 67, 2) := by decide +kernel
theorem dX5_takeItem_81 : decode cX5_takeItem 81 = .ok (.invokevirtual 48, 3) := by decide +kernel
theorem dX5_takeItem_84 : decode cX5_takeItem 84 = .ok (.ifCond .eq 15, 3) := by decide +kernel
theorem dX5_takeItem_87 : decode cX5_takeItem 87 = .ok (.aload_n 0, 1) := by decide +kernel
theorem dX5_takeItem_88 : decode cX5_takeItem 88 = .ok (.aload_n 1, 1) := by decide +kernel
theorem dX5_takeItem_89 : decode cX5_takeItem 89 = .ok (.invokevirtual 69, 3) := by decide +kernel
theorem dX5_takeItem_92 : decode cX5_takeItem 92 = .ok (.ifCond .eq 7, 3) := by decide +kernel
theorem dX5_takeItem_95 : decode cX5_takeItem 95 = .ok (.iconst 1, 1) := by decide +kernel
theorem dX5_takeItem_96 : decode cX5_takeItem 96 = .ok (.goto 4, 3) := by decide +kernel
theorem dX5_takeItem_99 : decode cX5_takeItem 99 = .ok (.iconst 0, 1) := by decide +kernel
theorem dX5_takeItem_100 : decode cX5_takeItem 100 = .ok (.ireturn, 1) := by decide +kernel
theorem dX5_kindNamed_0 : decode cX5_kindNamed 0 = .ok (.aload_n 0, 1) := by decide +kernel
theorem dX5_kindNamed_1 : decode cX5_kindNamed 1 = .ok (.ldc 72, 2) := by decide +kernel
theorem dX5_kindNamed_3 : decode cX5_kindNamed 3 = .ok (.invokevirtual 74, 3) := by decide +kernel
theorem dX5_kindNamed_6 : decode cX5_kindNamed 6 = .ok (.ifCond .eq 5, 3) := by decide +kernel
theorem dX5_kindNamed_9 : decode cX5_kindNamed 9 = .ok (.iconst 0, 1) := by decide +kernel
theorem dX5_kindNamed_10 : decode cX5_kindNamed 10 = .ok (.ireturn, 1) := by decide +kernel
theorem dX5_kindNamed_11 : decode cX5_kindNamed 11 = .ok (.aload_n 0, 1) := by decide +kernel
theorem dX5_kindNamed_12 : decode cX5_kindNamed 12 = .ok (.ldc 77, 2) := by decide +kernel
theorem dX5_kindNamed_14 : decode cX5_kindNamed 14 = .ok (.invokevirtual 74, 3) := by decide +kernel
theorem dX5_kindNamed_17 : decode cX5_kindNamed 17 = .ok (.ifCond .eq 5, 3) := by decide +kernel
theorem dX5_kindNamed_20 : decode cX5_kindNamed 20 = .ok (.iconst 1, 1) := by decide +kernel
theorem dX5_kindNamed_21 : decode cX5_kindNamed 21 = .ok (.ireturn, 1) := by decide +kernel
theorem dX5_kindNamed_22 : decode cX5_kindNamed 22 = .ok (.aload_n 0, 1) := by decide +kernel
theorem dX5_kindNamed_23 : decode cX5_kindNamed 23 = .ok (.ldc 79, 2) := by decide +kernel
theorem dX5_kindNamed_25 : decode cX5_kindNamed 25 = .ok (.invokevirtual 74, 3) := by decide +kernel
theorem dX5_kindNamed_28 : decode cX5_kindNamed 28 = .ok (.ifCond .eq 5, 3) := by decide +kernel
theorem dX5_kindNamed_31 : decode cX5_kindNamed 31 = .ok (.iconst 2, 1) := by decide +kernel
theorem dX5_kindNamed_32 : decode cX5_kindNamed 32 = .ok (.ireturn, 1) := by decide +kernel
theorem dX5_kindNamed_33 : decode cX5_kindNamed 33 = .ok (.aload_n 0, 1) := by decide +kernel
theorem dX5_kindNamed_34 : decode cX5_kindNamed 34 = .ok (.ldc 81, 2) := by decide +kernel
theorem dX5_kindNamed_36 : decode cX5_kindNamed 36 = .ok (.invokevirtual 74, 3) := by decide +kernel
theorem dX5_kindNamed_39 : decode cX5_kindNamed 39 = .ok (.ifCond .eq 5, 3) := by decide +kernel
theorem dX5_kindNamed_42 : decode cX5_kindNamed 42 = .ok (.iconst 3, 1) := by decide +kernel
theorem dX5_kindNamed_43 : decode cX5_kindNamed 43 = .ok (.ireturn, 1) := by decide +kernel
theorem dX5_kindNamed_44 : decode cX5_kindNamed 44 = .ok (.aload_n 0, 1) := by decide +kernel
theorem dX5_kindNamed_45 : decode cX5_kindNamed 45 = .ok (.ldc 83, 2) := by decide +kernel
theorem dX5_kindNamed_47 : decode cX5_kindNamed 47 = .ok (.invokevirtual 74, 3) := by decide +kernel
theorem dX5_kindNamed_50 : decode cX5_kindNamed 50 = .ok (.ifCond .eq 5, 3) := by decide +kernel
theorem dX5_kindNamed_53 : decode cX5_kindNamed 53 = .ok (.iconst 4, 1) := by decide +kernel
theorem dX5_kindNamed_54 : decode cX5_kindNamed 54 = .ok (.ireturn, 1) := by decide +kernel
theorem dX5_kindNamed_55 : decode cX5_kindNamed 55 = .ok (.aload_n 0, 1) := by decide +kernel
theorem dX5_kindNamed_56 : decode cX5_kindNamed 56 = .ok (.ldc 85, 2) := by decide +kernel
theorem dX5_kindNamed_58 : decode cX5_kindNamed 58 = .ok (.invokevirtual 74, 3) := by decide +kernel
theorem dX5_kindNamed_61 : decode cX5_kindNamed 61 = .ok (.ifCond .eq 7, 3) := by decide +kernel
theorem dX5_kindNamed_64 : decode cX5_kindNamed 64 = .ok (.iconst 5, 1) := by decide +kernel
theorem dX5_kindNamed_65 : decode cX5_kindNamed 65 = .ok (.goto 4, 3) := by decide +kernel
theorem dX5_kindNamed_68 : decode cX5_kindNamed 68 = .ok (.iconst (-1), 1) := by decide +kernel
theorem dX5_kindNamed_69 : decode cX5_kindNamed 69 = .ok (.ireturn, 1) := by decide +kernel
theorem dX5_takeEntry_0 : decode cX5_takeEntry 0 = .ok (.aload_n 1, 1) := by decide +kernel
theorem dX5_takeEntry_1 : decode cX5_takeEntry 1 = .ok (.invokevirtual 87, 3) := by decide +kernel
theorem dX5_takeEntry_4 : decode cX5_takeEntry 4 = .ok (.ifCond .eq 5, 3) := by decide +kernel
theorem dX5_takeEntry_7 : decode cX5_takeEntry 7 = .ok (.iconst 0, 1) := by decide +kernel
theorem dX5_takeEntry_8 : decode cX5_takeEntry 8 = .ok (.ireturn, 1) := by decide +kernel
theorem dX5_takeEntry_9 : decode cX5_takeEntry 9 = .ok (.aload_n 0, 1) := by decide +kernel
theorem dX5_takeEntry_10 : decode cX5_takeEntry 10 = .ok (.invokevirtual 31, 3) := by decide +kernel
theorem dX5_takeEntry_13 : decode cX5_takeEntry 13 = .ok (.aload_n 0, 1) := by decide +kernel
theorem dX5_takeEntry_14 : decode cX5_takeEntry 14 = .ok (.invokevirtual 93, 3) := by decide +kernel
theorem dX5_takeEntry_17 : decode cX5_takeEntry 17 = .ok (.istore_n 3, 1) := by decide +kernel
theorem dX5_takeEntry_18 : decode cX5_takeEntry 18 = .ok (.iload_n 3, 1) := by decide +kernel
theorem dX5_takeEntry_19 : decode cX5_takeEntry 19 = .ok (.ifCond .eq 12, 3) := by decide +kernel
theorem dX5_takeEntry_22 : decode cX5_takeEntry 22 = .ok (.aload_n 0, 1) := by decide +kernel
theorem dX5_takeEntry_23 : decode cX5_takeEntry 23 = .ok (.ldc 96, 2) := by decide +kernel
theorem dX5_takeEntry_25 : decode cX5_takeEntry 25 = .ok (.invokevirtual 48, 3) := by decide +kernel
theorem dX5_takeEntry_28 : decode cX5_takeEntry 28 = .ok (.ifCond .ne 5, 3) := by decide +kernel
theorem dX5_takeEntry_31 : decode cX5_takeEntry 31 = .ok (.iconst 0, 1) := by decide +kernel
theorem dX5_takeEntry_32 : decode cX5_takeEntry 32 = .ok (.ireturn, 1) := by decide +kernel
theorem dX5_takeEntry_33 : decode cX5_takeEntry 33 = .ok (.aload_n 0, 1) := by decide +kernel
theorem dX5_takeEntry_34 : decode cX5_takeEntry 34 = .ok (.iconst 4, 1) := by decide +kernel
theorem dX5_takeEntry_35 : decode cX5_takeEntry 35 = .ok (.invokevirtual 98, 3) := by decide +kernel
theorem dX5_takeEntry_38 : decode cX5_takeEntry 38 = .ok (.istore 4, 2) := by decide +kernel
theorem dX5_takeEntry_40 : decode cX5_takeEntry 40 = .ok (.iload 4, 2) := by decide +kernel
theorem dX5_takeEntry_42 : decode cX5_takeEntry 42 = .ok (.ifCond .lt 12, 3) := by decide +kernel
theorem dX5_takeEntry_45 : decode cX5_takeEntry 45 = .ok (.aload_n 0, 1) := by decide +kernel
theorem dX5_takeEntry_46 : decode cX5_takeEntry 46 = .ok (.ldc 102, 2) := by decide +kernel
theorem dX5_takeEntry_48 : decode cX5_takeEntry 48 = .ok (.invokevirtual 48, 3) := by decide +kernel
theorem dX5_takeEntry_51 : decode cX5_takeEntry 51 = .ok (.ifCond .ne 5, 3) := by decide +kernel
theorem dX5_takeEntry_54 : decode cX5_takeEntry 54 = .ok (.iconst 0, 1) := by decide +kernel
theorem dX5_takeEntry_55 : decode cX5_takeEntry 55 = .ok (.ireturn, 1) := by decide +kernel
theorem dX5_takeEntry_56 : decode cX5_takeEntry 56 = .ok (.aload_n 0, 1) := by decide +kernel
theorem dX5_takeEntry_57 : decode cX5_takeEntry 57 = .ok (.iconst 3, 1) := by decide +kernel
theorem dX5_takeEntry_58 : decode cX5_takeEntry 58 = .ok (.invokevirtual 98, 3) := by decide +kernel
theorem dX5_takeEntry_61 : decode cX5_takeEntry 61 = .ok (.istore 5, 2) := by decide +kernel
theorem dX5_takeEntry_63 : decode cX5_takeEntry 63 = .ok (.iload 5, 2) := by decide +kernel
theorem dX5_takeEntry_65 : decode cX5_takeEntry 65 = .ok (.ifCond .ge 5, 3) := by decide +kernel
theorem dX5_takeEntry_68 : decode cX5_takeEntry 68 = .ok (.iconst 0, 1) := by decide +kernel
theorem dX5_takeEntry_69 : decode cX5_takeEntry 69 = .ok (.ireturn, 1) := by decide +kernel
theorem dX5_takeEntry_70 : decode cX5_takeEntry 70 = .ok (.aload_n 1, 1) := by decide +kernel
theorem dX5_takeEntry_71 : decode cX5_takeEntry 71 = .ok (.iload_n 2, 1) := by decide +kernel
theorem dX5_takeEntry_72 : decode cX5_takeEntry 72 = .ok (.iload_n 3, 1) := by decide +kernel
theorem dX5_takeEntry_73 : decode cX5_takeEntry 73 = .ok (.iload 4, 2) := by decide +kernel
theorem dX5_takeEntry_75 : decode cX5_takeEntry 75 = .ok (.iload 5, 2) := by decide +kernel
theorem dX5_takeEntry_77 : decode cX5_takeEntry 77 = .ok (.invokestatic 104, 3) := by decide +kernel
theorem dX5_takeEntry_80 : decode cX5_takeEntry 80 = .ok (.invokevirtual 108, 3) := by decide +kernel
theorem dX5_takeEntry_83 : decode cX5_takeEntry 83 = .ok (.pop, 1) := by decide +kernel
theorem dX5_takeEntry_84 : decode cX5_takeEntry 84 = .ok (.iconst 1, 1) := by decide +kernel
theorem dX5_takeEntry_85 : decode cX5_takeEntry 85 = .ok (.ireturn, 1) := by decide +kernel
theorem dX5_takeThings_0 : decode cX5_takeThings 0 = .ok (.iconst 0, 1) := by decide +kernel
theorem dX5_takeThings_1 : decode cX5_takeThings 1 = .ok (.istore_n 1, 1) := by decide +kernel
theorem dX5_takeThings_2 : decode cX5_takeThings 2 = .ok (.iconst 0, 1) := by decide +kernel
theorem dX5_takeThings_3 : decode cX5_takeThings 3 = .ok (.istore_n 2, 1) := by decide +kernel
theorem dX5_takeThings_4 : decode cX5_takeThings 4 = .ok (.iload_n 2, 1) := by decide +kernel
theorem dX5_takeThings_5 : decode cX5_takeThings 5 = .ok (.iconst 3, 1) := by decide +kernel
theorem dX5_takeThings_6 : decode cX5_takeThings 6 = .ok (.if_icmp .ge 66, 3) := by decide +kernel
theorem dX5_takeThings_9 : decode cX5_takeThings 9 = .ok (.iload_n 2, 1) := by decide +kernel
theorem dX5_takeThings_10 : decode cX5_takeThings 10 = .ok (.ifCond .le 13, 3) := by decide +kernel
theorem dX5_takeThings_13 : decode cX5_takeThings 13 = .ok (.aload_n 0, 1) := by decide +kernel
theorem dX5_takeThings_14 : decode cX5_takeThings 14 = .ok (.getfield 19, 3) := by decide +kernel
theorem dX5_takeThings_17 : decode cX5_takeThings 17 = .ok (.iconst 2, 1) := by decide +kernel
theorem dX5_takeThings_18 : decode cX5_takeThings 18 = .ok (.if_icmp .eq 5, 3) := by decide +kernel
theorem dX5_takeThings_21 : decode cX5_takeThings 21 = .ok (.iload_n 1, 1) := by decide +kernel
theorem dX5_takeThings_22 : decode cX5_takeThings 22 = .ok (.ireturn, 1) := by decide +kernel
theorem dX5_takeThings_23 : decode cX5_takeThings 23 = .ok (.aload_n 0, 1) := by decide +kernel
theorem dX5_takeThings_24 : decode cX5_takeThings 24 = .ok (.getfield 19, 3) := by decide +kernel
theorem dX5_takeThings_27 : decode cX5_takeThings 27 = .ok (.iconst 2, 1) := by decide +kernel
theorem dX5_takeThings_28 : decode cX5_takeThings 28 = .ok (.if_icmp .ne 23, 3) := by decide +kernel
theorem dX5_takeThings_31 : decode cX5_takeThings 31 = .ok (.aload_n 0, 1) := by decide +kernel
theorem dX5_takeThings_32 : decode cX5_takeThings 32 = .ok (.getfield 28, 3) := by decide +kernel
theorem dX5_takeThings_35 : decode cX5_takeThings 35 = .ok (.bipush 8, 2) := by decide +kernel
theorem dX5_takeThings_37 : decode cX5_takeThings 37 = .ok (.if_icmp .ge 14, 3) := by decide +kernel
theorem dX5_takeThings_40 : decode cX5_takeThings 40 = .ok (.iload_n 1, 1) := by decide +kernel
theorem dX5_takeThings_41 : decode cX5_takeThings 41 = .ok (.aload_n 0, 1) := by decide +kernel
theorem dX5_takeThings_42 : decode cX5_takeThings 42 = .ok (.getfield 28, 3) := by decide +kernel
theorem dX5_takeThings_45 : decode cX5_takeThings 45 = .ok (.invokestatic 112, 3) := by decide +kernel
theorem dX5_takeThings_48 : decode cX5_takeThings 48 = .ok (.ifCond .eq 5, 3) := by decide +kernel
theorem dX5_takeThings_51 : decode cX5_takeThings 51 = .ok (.iconst 0, 1) := by decide +kernel
theorem dX5_takeThings_52 : decode cX5_takeThings 52 = .ok (.ireturn, 1) := by decide +kernel
theorem dX5_takeThings_53 : decode cX5_takeThings 53 = .ok (.iload_n 1, 1) := by decide +kernel
theorem dX5_takeThings_54 : decode cX5_takeThings 54 = .ok (.iconst 1, 1) := by decide +kernel
theorem dX5_takeThings_55 : decode cX5_takeThings 55 = .ok (.aload_n 0, 1) := by decide +kernel
theorem dX5_takeThings_56 : decode cX5_takeThings 56 = .ok (.getfield 28, 3) := by decide +kernel
theorem dX5_takeThings_59 : decode cX5_takeThings 59 = .ok (.ishl, 1) := by decide +kernel
theorem dX5_takeThings_60 : decode cX5_takeThings 60 = .ok (.ior, 1) := by decide +kernel
theorem dX5_takeThings_61 : decode cX5_takeThings 61 = .ok (.istore_n 1, 1) := by decide +kernel
theorem dX5_takeThings_62 : decode cX5_takeThings 62 = .ok (.aload_n 0, 1) := by decide +kernel
theorem dX5_takeThings_63 : decode cX5_takeThings 63 = .ok (.invokevirtual 31, 3) := by decide +kernel
theorem dX5_takeThings_66 : decode cX5_takeThings 66 = .ok (.iinc 2 1, 3) := by decide +kernel
theorem dX5_takeThings_69 : decode cX5_takeThings 69 = .ok (.goto (-65), 3) := by decide +kernel
theorem dX5_takeThings_72 : decode cX5_takeThings 72 = .ok (.iload_n 1, 1) := by decide +kernel
theorem dX5_takeThings_73 : decode cX5_takeThings 73 = .ok (.ireturn, 1) := by decide +kernel
theorem dX5_takeStore_0 : decode cX5_takeStore 0 = .ok (.aload_n 0, 1) := by decide +kernel
theorem dX5_takeStore_1 : decode cX5_takeStore 1 = .ok (.bipush 7, 2) := by decide +kernel
theorem dX5_takeStore_3 : decode cX5_takeStore 3 = .ok (.invokevirtual 98, 3) := by decide +kernel
theorem dX5_takeStore_6 : decode cX5_takeStore 6 = .ok (.istore_n 2, 1) := by decide +kernel
theorem dX5_takeStore_7 : decode cX5_takeStore 7 = .ok (.iload_n 2, 1) := by decide +kernel
theorem dX5_takeStore_8 : decode cX5_takeStore 8 = .ok (.ifCond .ge 7, 3) := by decide +kernel
theorem dX5_takeStore_11 : decode cX5_takeStore 11 = .ok (.iconst (-1), 1) := by decide +kernel
theorem dX5_takeStore_12 : decode cX5_takeStore 12 = .ok (.goto 9, 3) := by decide +kernel
theorem dX5_takeStore_15 : decode cX5_takeStore 15 = .ok (.aload_n 0, 1) := by decide +kernel
theorem dX5_takeStore_16 : decode cX5_takeStore 16 = .ok (.bipush 99, 2) := by decide +kernel
theorem dX5_takeStore_18 : decode cX5_takeStore 18 = .ok (.invokevirtual 98, 3) := by decide +kernel
theorem dX5_takeStore_21 : decode cX5_takeStore 21 = .ok (.istore_n 3, 1) := by decide +kernel
theorem dX5_takeStore_22 : decode cX5_takeStore 22 = .ok (.iload_n 3, 1) := by decide +kernel
theorem dX5_takeStore_23 : decode cX5_takeStore 23 = .ok (.ifCond .ge 5, 3) := by decide +kernel
theorem dX5_takeStore_26 : decode cX5_takeStore 26 = .ok (.iconst 0, 1) := by decide +kernel
theorem dX5_takeStore_27 : decode cX5_takeStore 27 = .ok (.ireturn, 1) := by decide +kernel
theorem dX5_takeStore_28 : decode cX5_takeStore 28 = .ok (.aload_n 1, 1) := by decide +kernel
theorem dX5_takeStore_29 : decode cX5_takeStore 29 = .ok (.getfield 116, 3) := by decide +kernel
theorem dX5_takeStore_32 : decode cX5_takeStore 32 = .ok (.iload_n 2, 1) := by decide +kernel
theorem dX5_takeStore_33 : decode cX5_takeStore 33 = .ok (.iload_n 3, 1) := by decide +kernel
theorem dX5_takeStore_34 : decode cX5_takeStore 34 = .ok (.iastore, 1) := by decide +kernel
theorem dX5_takeStore_35 : decode cX5_takeStore 35 = .ok (.iconst 1, 1) := by decide +kernel
theorem dX5_takeStore_36 : decode cX5_takeStore 36 = .ok (.ireturn, 1) := by decide +kernel
theorem dX5_takeLiking_0 : decode cX5_takeLiking 0 = .ok (.aload_n 0, 1) := by decide +kernel
theorem dX5_takeLiking_1 : decode cX5_takeLiking 1 = .ok (.invokevirtual 119, 3) := by decide +kernel
theorem dX5_takeLiking_4 : decode cX5_takeLiking 4 = .ok (.istore_n 3, 1) := by decide +kernel
theorem dX5_takeLiking_5 : decode cX5_takeLiking 5 = .ok (.iload_n 3, 1) := by decide +kernel
theorem dX5_takeLiking_6 : decode cX5_takeLiking 6 = .ok (.ifCond .ge 5, 3) := by decide +kernel
theorem dX5_takeLiking_9 : decode cX5_takeLiking 9 = .ok (.iconst 0, 1) := by decide +kernel
theorem dX5_takeLiking_10 : decode cX5_takeLiking 10 = .ok (.ireturn, 1) := by decide +kernel
theorem dX5_takeLiking_11 : decode cX5_takeLiking 11 = .ok (.aload_n 0, 1) := by decide +kernel
theorem dX5_takeLiking_12 : decode cX5_takeLiking 12 = .ok (.invokevirtual 31, 3) := by decide +kernel
theorem dX5_takeLiking_15 : decode cX5_takeLiking 15 = .ok (.aload_n 1, 1) := by decide +kernel
theorem dX5_takeLiking_16 : decode cX5_takeLiking 16 = .ok (.iload_n 3, 1) := by decide +kernel
theorem dX5_takeLiking_17 : decode cX5_takeLiking 17 = .ok (.invokevirtual 122, 3) := by decide +kernel
theorem dX5_takeLiking_20 : decode cX5_takeLiking 20 = .ok (.astore 4, 2) := by decide +kernel
theorem dX5_takeLiking_22 : decode cX5_takeLiking 22 = .ok (.aload_n 0, 1) := by decide +kernel
theorem dX5_takeLiking_23 : decode cX5_takeLiking 23 = .ok (.aload 4, 2) := by decide +kernel
theorem dX5_takeLiking_25 : decode cX5_takeLiking 25 = .ok (.arraylength, 1) := by decide +kernel
theorem dX5_takeLiking_26 : decode cX5_takeLiking 26 = .ok (.iconst 1, 1) := by decide +kernel
theorem dX5_takeLiking_27 : decode cX5_takeLiking 27 = .ok (.isub, 1) := by decide +kernel
theorem dX5_takeLiking_28 : decode cX5_takeLiking 28 = .ok (.invokevirtual 98, 3) := by decide +kernel
theorem dX5_takeLiking_31 : decode cX5_takeLiking 31 = .ok (.istore 5, 2) := by decide +kernel
theorem dX5_takeLiking_33 : decode cX5_takeLiking 33 = .ok (.iload 5, 2) := by decide +kernel
theorem dX5_takeLiking_35 : decode cX5_takeLiking 35 = .ok (.ifCond .ge 7, 3) := by decide +kernel
theorem dX5_takeLiking_38 : decode cX5_takeLiking 38 = .ok (.iconst (-1), 1) := by decide +kernel
theorem dX5_takeLiking_39 : decode cX5_takeLiking 39 = .ok (.goto 9, 3) := by decide +kernel
theorem dX5_takeLiking_42 : decode cX5_takeLiking 42 = .ok (.aload_n 0, 1) := by decide +kernel
theorem dX5_takeLiking_43 : decode cX5_takeLiking 43 = .ok (.bipush 9, 2) := by decide +kernel
theorem dX5_takeLiking_45 : decode cX5_takeLiking 45 = .ok (.invokevirtual 98, 3) := by decide +kernel
theorem dX5_takeLiking_48 : decode cX5_takeLiking 48 = .ok (.istore 6, 2) := by decide +kernel
theorem dX5_takeLiking_50 : decode cX5_takeLiking 50 = .ok (.iload 6, 2) := by decide +kernel
theorem dX5_takeLiking_52 : decode cX5_takeLiking 52 = .ok (.ifCond .ge 5, 3) := by decide +kernel
theorem dX5_takeLiking_55 : decode cX5_takeLiking 55 = .ok (.iconst 0, 1) := by decide +kernel
theorem dX5_takeLiking_56 : decode cX5_takeLiking 56 = .ok (.ireturn, 1) := by decide +kernel
theorem dX5_takeLiking_57 : decode cX5_takeLiking 57 = .ok (.aload 4, 2) := by decide +kernel
theorem dX5_takeLiking_59 : decode cX5_takeLiking 59 = .ok (.iload 5, 2) := by decide +kernel
theorem dX5_takeLiking_61 : decode cX5_takeLiking 61 = .ok (.iload_n 2, 1) := by decide +kernel
theorem dX5_takeLiking_62 : decode cX5_takeLiking 62 = .ok (.iload 6, 2) := by decide +kernel
theorem dX5_takeLiking_64 : decode cX5_takeLiking 64 = .ok (.imul, 1) := by decide +kernel
theorem dX5_takeLiking_65 : decode cX5_takeLiking 65 = .ok (.iastore, 1) := by decide +kernel
theorem dX5_takeLiking_66 : decode cX5_takeLiking 66 = .ok (.iconst 1, 1) := by decide +kernel
theorem dX5_takeLiking_67 : decode cX5_takeLiking 67 = .ok (.ireturn, 1) := by decide +kernel
theorem dX5_whatNamed_0 : decode cX5_whatNamed 0 = .ok (.aload_n 0, 1) := by decide +kernel
theorem dX5_whatNamed_1 : decode cX5_whatNamed 1 = .ok (.ldc 126, 2) := by decide +kernel
theorem dX5_whatNamed_3 : decode cX5_whatNamed 3 = .ok (.invokevirtual 74, 3) := by decide +kernel
theorem dX5_whatNamed_6 : decode cX5_whatNamed 6 = .ok (.ifCond .eq 5, 3) := by decide +kernel
theorem dX5_whatNamed_9 : decode cX5_whatNamed 9 = .ok (.iconst 0, 1) := by decide +kernel
theorem dX5_whatNamed_10 : decode cX5_whatNamed 10 = .ok (.ireturn, 1) := by decide +kernel
theorem dX5_whatNamed_11 : decode cX5_whatNamed 11 = .ok (.aload_n 0, 1) := by decide +kernel
theorem dX5_whatNamed_12 : decode cX5_whatNamed 12 = .ok (.ldc 96, 2) := by decide +kernel
theorem dX5_whatNamed_14 : decode cX5_whatNamed 14 = .ok (.invokevirtual 74, 3) := by decide +kernel
theorem dX5_whatNamed_17 : decode cX5_whatNamed 17 = .ok (.ifCond .eq 5, 3) := by decide +kernel
theorem dX5_whatNamed_20 : decode cX5_whatNamed 20 = .ok (.iconst 1, 1) := by decide +kernel
theorem dX5_whatNamed_21 : decode cX5_whatNamed 21 = .ok (.ireturn, 1) := by decide +kernel
theorem dX5_whatNamed_22 : decode cX5_whatNamed 22 = .ok (.aload_n 0, 1) := by decide +kernel
theorem dX5_whatNamed_23 : decode cX5_whatNamed 23 = .ok (.ldc 102, 2) := by decide +kernel
theorem dX5_whatNamed_25 : decode cX5_whatNamed 25 = .ok (.invokevirtual 74, 3) := by decide +kernel
theorem dX5_whatNamed_28 : decode cX5_whatNamed 28 = .ok (.ifCond .eq 7, 3) := by decide +kernel
theorem dX5_whatNamed_31 : decode cX5_whatNamed 31 = .ok (.iconst 2, 1) := by decide +kernel
theorem dX5_whatNamed_32 : decode cX5_whatNamed 32 = .ok (.goto 4, 3) := by decide +kernel
theorem dX5_whatNamed_35 : decode cX5_whatNamed 35 = .ok (.iconst (-1), 1) := by decide +kernel
theorem dX5_whatNamed_36 : decode cX5_whatNamed 36 = .ok (.ireturn, 1) := by decide +kernel
theorem dX5_takeEdict_0 : decode cX5_takeEdict 0 = .ok (.aload_n 0, 1) := by decide +kernel
theorem dX5_takeEdict_1 : decode cX5_takeEdict 1 = .ok (.ldc 128, 2) := by decide +kernel
theorem dX5_takeEdict_3 : decode cX5_takeEdict 3 = .ok (.invokevirtual 48, 3) := by decide +kernel
theorem dX5_takeEdict_6 : decode cX5_takeEdict 6 = .ok (.istore_n 2, 1) := by decide +kernel
theorem dX5_takeEdict_7 : decode cX5_takeEdict 7 = .ok (.iload_n 2, 1) := by decide +kernel
theorem dX5_takeEdict_8 : decode cX5_takeEdict 8 = .ok (.ifCond .ne 14, 3) := by decide +kernel
theorem dX5_takeEdict_11 : decode cX5_takeEdict 11 = .ok (.aload_n 0, 1) := by decide +kernel
theorem dX5_takeEdict_12 : decode cX5_takeEdict 12 = .ok (.ldc 130, 2) := by decide +kernel
theorem dX5_takeEdict_14 : decode cX5_takeEdict 14 = .ok (.invokevirtual 48, 3) := by decide +kernel
theorem dX5_takeEdict_17 : decode cX5_takeEdict 17 = .ok (.ifCond .ne 5, 3) := by decide +kernel
theorem dX5_takeEdict_20 : decode cX5_takeEdict 20 = .ok (.iconst 0, 1) := by decide +kernel
theorem dX5_takeEdict_21 : decode cX5_takeEdict 21 = .ok (.ireturn, 1) := by decide +kernel
theorem dX5_takeEdict_22 : decode cX5_takeEdict 22 = .ok (.aload_n 0, 1) := by decide +kernel
theorem dX5_takeEdict_23 : decode cX5_takeEdict 23 = .ok (.ldc 132, 2) := by decide +kernel
theorem dX5_takeEdict_25 : decode cX5_takeEdict 25 = .ok (.invokevirtual 48, 3) := by decide +kernel
theorem dX5_takeEdict_28 : decode cX5_takeEdict 28 = .ok (.istore_n 3, 1) := by decide +kernel
theorem dX5_takeEdict_29 : decode cX5_takeEdict 29 = .ok (.iload_n 3, 1) := by decide +kernel
theorem dX5_takeEdict_30 : decode cX5_takeEdict 30 = .ok (.ifCond .ne 14, 3) := by decide +kernel
theorem dX5_takeEdict_33 : decode cX5_takeEdict 33 = .ok (.aload_n 0, 1) := by decide +kernel
theorem dX5_takeEdict_34 : decode cX5_takeEdict 34 = .ok (.ldc 134, 2) := by decide +kernel
theorem dX5_takeEdict_36 : decode cX5_takeEdict 36 = .ok (.invokevirtual 48, 3) := by decide +kernel
theorem dX5_takeEdict_39 : decode cX5_takeEdict 39 = .ok (.ifCond .ne 5, 3) := by decide +kernel
theorem dX5_takeEdict_42 : decode cX5_takeEdict 42 = .ok (.iconst 0, 1) := by decide +kernel
theorem dX5_takeEdict_43 : decode cX5_takeEdict 43 = .ok (.ireturn, 1) := by decide +kernel
theorem dX5_takeEdict_44 : decode cX5_takeEdict 44 = .ok (.aload_n 1, 1) := by decide +kernel
theorem dX5_takeEdict_45 : decode cX5_takeEdict 45 = .ok (.iload_n 2, 1) := by decide +kernel
theorem dX5_takeEdict_46 : decode cX5_takeEdict 46 = .ok (.ifCond .eq 7, 3) := by decide +kernel
theorem dX5_takeEdict_49 : decode cX5_takeEdict 49 = .ok (.iconst 0, 1) := by decide +kernel
theorem dX5_takeEdict_50 : decode cX5_takeEdict 50 = .ok (.goto 4, 3) := by decide +kernel
theorem dX5_takeEdict_53 : decode cX5_takeEdict 53 = .ok (.iconst 1, 1) := by decide +kernel
theorem dX5_takeEdict_54 : decode cX5_takeEdict 54 = .ok (.iload_n 3, 1) := by decide +kernel
theorem dX5_takeEdict_55 : decode cX5_takeEdict 55 = .ok (.invokevirtual 136, 3) := by decide +kernel
theorem dX5_takeEdict_58 : decode cX5_takeEdict 58 = .ok (.pop, 1) := by decide +kernel
theorem dX5_takeEdict_59 : decode cX5_takeEdict 59 = .ok (.iconst 1, 1) := by decide +kernel
theorem dX5_takeEdict_60 : decode cX5_takeEdict 60 = .ok (.ireturn, 1) := by decide +kernel
theorem dX5_takeDay_0 : decode cX5_takeDay 0 = .ok (.aload_n 0, 1) := by decide +kernel
theorem dX5_takeDay_1 : decode cX5_takeDay 1 = .ok (.sipush 9999, 3) := by decide +kernel
theorem dX5_takeDay_4 : decode cX5_takeDay 4 = .ok (.invokevirtual 98, 3) := by decide +kernel
theorem dX5_takeDay_7 : decode cX5_takeDay 7 = .ok (.istore_n 2, 1) := by decide +kernel
theorem dX5_takeDay_8 : decode cX5_takeDay 8 = .ok (.iload_n 2, 1) := by decide +kernel
theorem dX5_takeDay_9 : decode cX5_takeDay 9 = .ok (.ifCond .ge 5, 3) := by decide +kernel
theorem dX5_takeDay_12 : decode cX5_takeDay 12 = .ok (.iconst 0, 1) := by decide +kernel
theorem dX5_takeDay_13 : decode cX5_takeDay 13 = .ok (.ireturn, 1) := by decide +kernel
theorem dX5_takeDay_14 : decode cX5_takeDay 14 = .ok (.aload_n 1, 1) := by decide +kernel
theorem dX5_takeDay_15 : decode cX5_takeDay 15 = .ok (.iload_n 2, 1) := by decide +kernel
theorem dX5_takeDay_16 : decode cX5_takeDay 16 = .ok (.putfield 140, 3) := by decide +kernel
theorem dX5_takeDay_19 : decode cX5_takeDay 19 = .ok (.iconst 1, 1) := by decide +kernel
theorem dX5_takeDay_20 : decode cX5_takeDay 20 = .ok (.ireturn, 1) := by decide +kernel
theorem dX5_takeWord_0 : decode cX5_takeWord 0 = .ok (.aload_n 0, 1) := by decide +kernel
theorem dX5_takeWord_1 : decode cX5_takeWord 1 = .ok (.aload_n 1, 1) := by decide +kernel
theorem dX5_takeWord_2 : decode cX5_takeWord 2 = .ok (.invokevirtual 74, 3) := by decide +kernel
theorem dX5_takeWord_5 : decode cX5_takeWord 5 = .ok (.istore_n 2, 1) := by decide +kernel
theorem dX5_takeWord_6 : decode cX5_takeWord 6 = .ok (.iload_n 2, 1) := by decide +kernel
theorem dX5_takeWord_7 : decode cX5_takeWord 7 = .ok (.ifCond .eq 7, 3) := by decide +kernel
theorem dX5_takeWord_10 : decode cX5_takeWord 10 = .ok (.aload_n 0, 1) := by decide +kernel
theorem dX5_takeWord_11 : decode cX5_takeWord 11 = .ok (.invokevirtual 31, 3) := by decide +kernel
theorem dX5_takeWord_14 : decode cX5_takeWord 14 = .ok (.iload_n 2, 1) := by decide +kernel
theorem dX5_takeWord_15 : decode cX5_takeWord 15 = .ok (.ireturn, 1) := by decide +kernel
theorem dX5_takeNumber_0 : decode cX5_takeNumber 0 = .ok (.aload_n 0, 1) := by decide +kernel
theorem dX5_takeNumber_1 : decode cX5_takeNumber 1 = .ok (.getfield 19, 3) := by decide +kernel
theorem dX5_takeNumber_4 : decode cX5_takeNumber 4 = .ok (.iconst 2, 1) := by decide +kernel
theorem dX5_takeNumber_5 : decode cX5_takeNumber 5 = .ok (.if_icmp .ne 11, 3) := by decide +kernel
theorem dX5_takeNumber_8 : decode cX5_takeNumber 8 = .ok (.aload_n 0, 1) := by decide +kernel
theorem dX5_takeNumber_9 : decode cX5_takeNumber 9 = .ok (.getfield 28, 3) := by decide +kernel
theorem dX5_takeNumber_12 : decode cX5_takeNumber 12 = .ok (.iload_n 1, 1) := by decide +kernel
theorem dX5_takeNumber_13 : decode cX5_takeNumber 13 = .ok (.if_icmp .le 5, 3) := by decide +kernel
theorem dX5_takeNumber_16 : decode cX5_takeNumber 16 = .ok (.iconst (-1), 1) := by decide +kernel
theorem dX5_takeNumber_17 : decode cX5_takeNumber 17 = .ok (.ireturn, 1) := by decide +kernel
theorem dX5_takeNumber_18 : decode cX5_takeNumber 18 = .ok (.aload_n 0, 1) := by decide +kernel
theorem dX5_takeNumber_19 : decode cX5_takeNumber 19 = .ok (.getfield 28, 3) := by decide +kernel
theorem dX5_takeNumber_22 : decode cX5_takeNumber 22 = .ok (.istore_n 2, 1) := by decide +kernel
theorem dX5_takeNumber_23 : decode cX5_takeNumber 23 = .ok (.aload_n 0, 1) := by decide +kernel
theorem dX5_takeNumber_24 : decode cX5_takeNumber 24 = .ok (.invokevirtual 31, 3) := by decide +kernel
theorem dX5_takeNumber_27 : decode cX5_takeNumber 27 = .ok (.iload_n 2, 1) := by decide +kernel
theorem dX5_takeNumber_28 : decode cX5_takeNumber 28 = .ok (.ireturn, 1) := by decide +kernel
theorem dX5_isWord_0 : decode cX5_isWord 0 = .ok (.aload_n 0, 1) := by decide +kernel
theorem dX5_isWord_1 : decode cX5_isWord 1 = .ok (.getfield 19, 3) := by decide +kernel
theorem dX5_isWord_4 : decode cX5_isWord 4 = .ok (.iconst 1, 1) := by decide +kernel
theorem dX5_isWord_5 : decode cX5_isWord 5 = .ok (.if_icmp .ne 28, 3) := by decide +kernel
theorem dX5_isWord_8 : decode cX5_isWord 8 = .ok (.aload_n 0, 1) := by decide +kernel
theorem dX5_isWord_9 : decode cX5_isWord 9 = .ok (.getfield 25, 3) := by decide +kernel
theorem dX5_isWord_12 : decode cX5_isWord 12 = .ok (.aload_n 0, 1) := by decide +kernel
theorem dX5_isWord_13 : decode cX5_isWord 13 = .ok (.getfield 22, 3) := by decide +kernel
theorem dX5_isWord_16 : decode cX5_isWord 16 = .ok (.isub, 1) := by decide +kernel
theorem dX5_isWord_17 : decode cX5_isWord 17 = .ok (.aload_n 1, 1) := by decide +kernel
theorem dX5_isWord_18 : decode cX5_isWord 18 = .ok (.invokevirtual 142, 3) := by decide +kernel
theorem dX5_isWord_21 : decode cX5_isWord 21 = .ok (.if_icmp .ne 12, 3) := by decide +kernel
theorem dX5_isWord_24 : decode cX5_isWord 24 = .ok (.aload_n 0, 1) := by decide +kernel
theorem dX5_isWord_25 : decode cX5_isWord 25 = .ok (.getfield 25, 3) := by decide +kernel
theorem dX5_isWord_28 : decode cX5_isWord 28 = .ok (.bipush 120, 2) := by decide +kernel
theorem dX5_isWord_30 : decode cX5_isWord 30 = .ok (.if_icmp .le 5, 3) := by decide +kernel
theorem dX5_isWord_33 : decode cX5_isWord 33 = .ok (.iconst 0, 1) := by decide +kernel
theorem dX5_isWord_34 : decode cX5_isWord 34 = .ok (.ireturn, 1) := by decide +kernel
theorem dX5_isWord_35 : decode cX5_isWord 35 = .ok (.iconst 0, 1) := by decide +kernel
theorem dX5_isWord_36 : decode cX5_isWord 36 = .ok (.istore_n 2, 1) := by decide +kernel
theorem dX5_isWord_37 : decode cX5_isWord 37 = .ok (.iload_n 2, 1) := by decide +kernel
theorem dX5_isWord_38 : decode cX5_isWord 38 = .ok (.aload_n 1, 1) := by decide +kernel
theorem dX5_isWord_39 : decode cX5_isWord 39 = .ok (.invokevirtual 142, 3) := by decide +kernel
theorem dX5_isWord_42 : decode cX5_isWord 42 = .ok (.if_icmp .ge 30, 3) := by decide +kernel
theorem dX5_isWord_45 : decode cX5_isWord 45 = .ok (.aload_n 0, 1) := by decide +kernel
theorem dX5_isWord_46 : decode cX5_isWord 46 = .ok (.getfield 15, 3) := by decide +kernel
theorem dX5_isWord_49 : decode cX5_isWord 49 = .ok (.aload_n 0, 1) := by decide +kernel
theorem dX5_isWord_50 : decode cX5_isWord 50 = .ok (.getfield 22, 3) := by decide +kernel
theorem dX5_isWord_53 : decode cX5_isWord 53 = .ok (.iload_n 2, 1) := by decide +kernel
theorem dX5_isWord_54 : decode cX5_isWord 54 = .ok (.iadd, 1) := by decide +kernel
theorem dX5_isWord_55 : decode cX5_isWord 55 = .ok (.iaload, 1) := by decide +kernel
theorem dX5_isWord_56 : decode cX5_isWord 56 = .ok (.aload_n 1, 1) := by decide +kernel
theorem dX5_isWord_57 : decode cX5_isWord 57 = .ok (.iload_n 2, 1) := by decide +kernel
theorem dX5_isWord_58 : decode cX5_isWord 58 = .ok (.invokevirtual 146, 3) := by decide +kernel
theorem dX5_isWord_61 : decode cX5_isWord 61 = .ok (.if_icmp .eq 5, 3) := by decide +kernel
theorem dX5_isWord_64 : decode cX5_isWord 64 = .ok (.iconst 0, 1) := by decide +kernel
theorem dX5_isWord_65 : decode cX5_isWord 65 = .ok (.ireturn, 1) := by decide +kernel
theorem dX5_isWord_66 : decode cX5_isWord 66 = .ok (.iinc 2 1, 3) := by decide +kernel
theorem dX5_isWord_69 : decode cX5_isWord 69 = .ok (.goto (-32), 3) := by decide +kernel
theorem dX5_isWord_72 : decode cX5_isWord 72 = .ok (.iconst 1, 1) := by decide +kernel
theorem dX5_isWord_73 : decode cX5_isWord 73 = .ok (.ireturn, 1) := by decide +kernel
theorem dX5_advance_0 : decode cX5_advance 0 = .ok (.aload_n 0, 1) := by decide +kernel
theorem dX5_advance_1 : decode cX5_advance 1 = .ok (.aload_n 0, 1) := by decide +kernel
theorem dX5_advance_2 : decode cX5_advance 2 = .ok (.getfield 25, 3) := by decide +kernel
theorem dX5_advance_5 : decode cX5_advance 5 = .ok (.putfield 22, 3) := by decide +kernel
theorem dX5_advance_8 : decode cX5_advance 8 = .ok (.aload_n 0, 1) := by decide +kernel
theorem dX5_advance_9 : decode cX5_advance 9 = .ok (.getfield 22, 3) := by decide +kernel
theorem dX5_advance_12 : decode cX5_advance 12 = .ok (.aload_n 0, 1) := by decide +kernel
theorem dX5_advance_13 : decode cX5_advance 13 = .ok (.getfield 9, 3) := by decide +kernel
theorem dX5_advance_16 : decode cX5_advance 16 = .ok (.if_icmp .ge 28, 3) := by decide +kernel
theorem dX5_advance_19 : decode cX5_advance 19 = .ok (.aload_n 0, 1) := by decide +kernel
theorem dX5_advance_20 : decode cX5_advance 20 = .ok (.aload_n 0, 1) := by decide +kernel
theorem dX5_advance_21 : decode cX5_advance 21 = .ok (.getfield 22, 3) := by decide +kernel
theorem dX5_advance_24 : decode cX5_advance 24 = .ok (.invokevirtual 150, 3) := by decide +kernel
theorem dX5_advance_27 : decode cX5_advance 27 = .ok (.iconst 4, 1) := by decide +kernel
theorem dX5_advance_28 : decode cX5_advance 28 = .ok (.if_icmp .ne 16, 3) := by decide +kernel
theorem dX5_advance_31 : decode cX5_advance 31 = .ok (.aload_n 0, 1) := by decide +kernel
theorem dX5_advance_32 : decode cX5_advance 32 = .ok (.dup, 1) := by decide +kernel
theorem dX5_advance_33 : decode cX5_advance 33 = .ok (.getfield 22, 3) := by decide +kernel
theorem dX5_advance_36 : decode cX5_advance 36 = .ok (.iconst 1, 1) := by decide +kernel
theorem dX5_advance_37 : decode cX5_advance 37 = .ok (.iadd, 1) := by decide +kernel
theorem dX5_advance_38 : decode cX5_advance 38 = .ok (.putfield 22, 3) := by decide +kernel
theorem dX5_advance_41 : decode cX5_advance 41 = .ok (.goto (-33), 3) := by decide +kernel
theorem dX5_advance_44 : decode cX5_advance 44 = .ok (.aload_n 0, 1) := by decide +kernel
theorem dX5_advance_45 : decode cX5_advance 45 = .ok (.aload_n 0, 1) := by decide +kernel
theorem dX5_advance_46 : decode cX5_advance 46 = .ok (.aload_n 0, 1) := by decide +kernel
theorem dX5_advance_47 : decode cX5_advance 47 = .ok (.getfield 22, 3) := by decide +kernel
theorem dX5_advance_50 : decode cX5_advance 50 = .ok (.invokevirtual 150, 3) := by decide +kernel
theorem dX5_advance_53 : decode cX5_advance 53 = .ok (.putfield 19, 3) := by decide +kernel
theorem dX5_advance_56 : decode cX5_advance 56 = .ok (.aload_n 0, 1) := by decide +kernel
theorem dX5_advance_57 : decode cX5_advance 57 = .ok (.aload_n 0, 1) := by decide +kernel
theorem dX5_advance_58 : decode cX5_advance 58 = .ok (.getfield 9, 3) := by decide +kernel
theorem dX5_advance_61 : decode cX5_advance 61 = .ok (.aload_n 0, 1) := by decide +kernel
theorem dX5_advance_62 : decode cX5_advance 62 = .ok (.getfield 22, 3) := by decide +kernel
theorem dX5_advance_65 : decode cX5_advance 65 = .ok (.iconst 1, 1) := by decide +kernel
theorem dX5_advance_66 : decode cX5_advance 66 = .ok (.iadd, 1) := by decide +kernel
theorem dX5_advance_67 : decode cX5_advance 67 = .ok (.invokestatic 153, 3) := by decide +kernel
theorem dX5_advance_70 : decode cX5_advance 70 = .ok (.putfield 25, 3) := by decide +kernel
theorem dX5_advance_73 : decode cX5_advance 73 = .ok (.aload_n 0, 1) := by decide +kernel
theorem dX5_advance_74 : decode cX5_advance 74 = .ok (.getfield 25, 3) := by decide +kernel
theorem dX5_advance_77 : decode cX5_advance 77 = .ok (.aload_n 0, 1) := by decide +kernel
theorem dX5_advance_78 : decode cX5_advance 78 = .ok (.getfield 9, 3) := by decide +kernel
theorem dX5_advance_81 : decode cX5_advance 81 = .ok (.if_icmp .ge 47, 3) := by decide +kernel
theorem dX5_advance_84 : decode cX5_advance 84 = .ok (.aload_n 0, 1) := by decide +kernel
theorem dX5_advance_85 : decode cX5_advance 85 = .ok (.getfield 19, 3) := by decide +kernel
theorem dX5_advance_88 : decode cX5_advance 88 = .ok (.iconst 1, 1) := by decide +kernel
theorem dX5_advance_89 : decode cX5_advance 89 = .ok (.if_icmp .eq 11, 3) := by decide +kernel
theorem dX5_advance_92 : decode cX5_advance 92 = .ok (.aload_n 0, 1) := by decide +kernel
theorem dX5_advance_93 : decode cX5_advance 93 = .ok (.getfield 19, 3) := by decide +kernel
theorem dX5_advance_96 : decode cX5_advance 96 = .ok (.iconst 2, 1) := by decide +kernel
theorem dX5_advance_97 : decode cX5_advance 97 = .ok (.if_icmp .ne 31, 3) := by decide +kernel
theorem dX5_advance_100 : decode cX5_advance 100 = .ok (.aload_n 0, 1) := by decide +kernel
theorem dX5_advance_101 : decode cX5_advance 101 = .ok (.aload_n 0, 1) := by decide +kernel
theorem dX5_advance_102 : decode cX5_advance 102 = .ok (.getfield 25, 3) := by decide +kernel
theorem dX5_advance_105 : decode cX5_advance 105 = .ok (.invokevirtual 150, 3) := by decide +kernel
theorem dX5_advance_108 : decode cX5_advance 108 = .ok (.aload_n 0, 1) := by decide +kernel
theorem dX5_advance_109 : decode cX5_advance 109 = .ok (.getfield 19, 3) := by decide +kernel
theorem dX5_advance_112 : decode cX5_advance 112 = .ok (.if_icmp .ne 16, 3) := by decide +kernel
theorem dX5_advance_115 : decode cX5_advance 115 = .ok (.aload_n 0, 1) := by decide +kernel
theorem dX5_advance_116 : decode cX5_advance 116 = .ok (.dup, 1) := by decide +kernel
theorem dX5_advance_117 : decode cX5_advance 117 = .ok (.getfield 25, 3) := by decide +kernel
theorem dX5_advance_120 : decode cX5_advance 120 = .ok (.iconst 1, 1) := by decide +kernel
theorem dX5_advance_121 : decode cX5_advance 121 = .ok (.iadd, 1) := by decide +kernel
theorem dX5_advance_122 : decode cX5_advance 122 = .ok (.putfield 25, 3) := by decide +kernel
theorem dX5_advance_125 : decode cX5_advance 125 = .ok (.goto (-52), 3) := by decide +kernel
theorem dX5_advance_128 : decode cX5_advance 128 = .ok (.aload_n 0, 1) := by decide +kernel
theorem dX5_advance_129 : decode cX5_advance 129 = .ok (.aload_n 0, 1) := by decide +kernel
theorem dX5_advance_130 : decode cX5_advance 130 = .ok (.getfield 19, 3) := by decide +kernel
theorem dX5_advance_133 : decode cX5_advance 133 = .ok (.iconst 2, 1) := by decide +kernel
theorem dX5_advance_134 : decode cX5_advance 134 = .ok (.if_icmp .ne 10, 3) := by decide +kernel
theorem dX5_advance_137 : decode cX5_advance 137 = .ok (.aload_n 0, 1) := by decide +kernel
theorem dX5_advance_138 : decode cX5_advance 138 = .ok (.invokevirtual 158, 3) := by decide +kernel
theorem dX5_advance_141 : decode cX5_advance 141 = .ok (.goto 4, 3) := by decide +kernel
theorem dX5_advance_144 : decode cX5_advance 144 = .ok (.iconst 0, 1) := by decide +kernel
theorem dX5_advance_145 : decode cX5_advance 145 = .ok (.putfield 28, 3) := by decide +kernel
theorem dX5_advance_148 : decode cX5_advance 148 = .ok (.return_, 1) := by decide +kernel
theorem dX5_valueOfDigits_0 : decode cX5_valueOfDigits 0 = .ok (.iconst 0, 1) := by decide +kernel
theorem dX5_valueOfDigits_1 : decode cX5_valueOfDigits 1 = .ok (.istore_n 1, 1) := by decide +kernel
theorem dX5_valueOfDigits_2 : decode cX5_valueOfDigits 2 = .ok (.aload_n 0, 1) := by decide +kernel
theorem dX5_valueOfDigits_3 : decode cX5_valueOfDigits 3 = .ok (.getfield 22, 3) := by decide +kernel
theorem dX5_valueOfDigits_6 : decode cX5_valueOfDigits 6 = .ok (.istore_n 2, 1) := by decide +kernel
theorem dX5_valueOfDigits_7 : decode cX5_valueOfDigits 7 = .ok (.iload_n 2, 1) := by decide +kernel
theorem dX5_valueOfDigits_8 : decode cX5_valueOfDigits 8 = .ok (.aload_n 0, 1) := by decide +kernel
theorem dX5_valueOfDigits_9 : decode cX5_valueOfDigits 9 = .ok (.getfield 25, 3) := by decide +kernel
theorem dX5_valueOfDigits_12 : decode cX5_valueOfDigits 12 = .ok (.if_icmp .ge 45, 3) := by decide +kernel
theorem dX5_valueOfDigits_15 : decode cX5_valueOfDigits 15 = .ok (.iload_n 2, 1) := by decide +kernel
theorem dX5_valueOfDigits_16 : decode cX5_valueOfDigits 16 = .ok (.bipush 120, 2) := by decide +kernel
theorem dX5_valueOfDigits_18 : decode cX5_valueOfDigits 18 = .ok (.if_icmp .ge 39, 3) := by decide +kernel
theorem dX5_valueOfDigits_21 : decode cX5_valueOfDigits 21 = .ok (.bipush 10, 2) := by decide +kernel
theorem dX5_valueOfDigits_23 : decode cX5_valueOfDigits 23 = .ok (.iload_n 1, 1) := by decide +kernel
theorem dX5_valueOfDigits_24 : decode cX5_valueOfDigits 24 = .ok (.imul, 1) := by decide +kernel
theorem dX5_valueOfDigits_25 : decode cX5_valueOfDigits 25 = .ok (.aload_n 0, 1) := by decide +kernel
theorem dX5_valueOfDigits_26 : decode cX5_valueOfDigits 26 = .ok (.getfield 15, 3) := by decide +kernel
theorem dX5_valueOfDigits_29 : decode cX5_valueOfDigits 29 = .ok (.iload_n 2, 1) := by decide +kernel
theorem dX5_valueOfDigits_30 : decode cX5_valueOfDigits 30 = .ok (.iaload, 1) := by decide +kernel
theorem dX5_valueOfDigits_31 : decode cX5_valueOfDigits 31 = .ok (.iadd, 1) := by decide +kernel
theorem dX5_valueOfDigits_32 : decode cX5_valueOfDigits 32 = .ok (.bipush 48, 2) := by decide +kernel
theorem dX5_valueOfDigits_34 : decode cX5_valueOfDigits 34 = .ok (.isub, 1) := by decide +kernel
theorem dX5_valueOfDigits_35 : decode cX5_valueOfDigits 35 = .ok (.istore_n 3, 1) := by decide +kernel
theorem dX5_valueOfDigits_36 : decode cX5_valueOfDigits 36 = .ok (.iload_n 3, 1) := by decide +kernel
theorem dX5_valueOfDigits_37 : decode cX5_valueOfDigits 37 = .ok (.sipush 10000, 3) := by decide +kernel
theorem dX5_valueOfDigits_40 : decode cX5_valueOfDigits 40 = .ok (.if_icmp .ge 7, 3) := by decide +kernel
theorem dX5_valueOfDigits_43 : decode cX5_valueOfDigits 43 = .ok (.iload_n 3, 1) := by decide +kernel
theorem dX5_valueOfDigits_44 : decode cX5_valueOfDigits 44 = .ok (.goto 6, 3) := by decide +kernel
theorem dX5_valueOfDigits_47 : decode cX5_valueOfDigits 47 = .ok (.sipush 10000, 3) := by decide +kernel
theorem dX5_valueOfDigits_50 : decode cX5_valueOfDigits 50 = .ok (.istore_n 1, 1) := by decide +kernel
theorem dX5_valueOfDigits_51 : decode cX5_valueOfDigits 51 = .ok (.iinc 2 1, 3) := by decide +kernel
theorem dX5_valueOfDigits_54 : decode cX5_valueOfDigits 54 = .ok (.goto (-47), 3) := by decide +kernel
theorem dX5_valueOfDigits_57 : decode cX5_valueOfDigits 57 = .ok (.iload_n 1, 1) := by decide +kernel
theorem dX5_valueOfDigits_58 : decode cX5_valueOfDigits 58 = .ok (.ireturn, 1) := by decide +kernel
theorem dX5_typeAt_0 : decode cX5_typeAt 0 = .ok (.iload_n 1, 1) := by decide +kernel
theorem dX5_typeAt_1 : decode cX5_typeAt 1 = .ok (.ifCond .lt 17, 3) := by decide +kernel
theorem dX5_typeAt_4 : decode cX5_typeAt 4 = .ok (.iload_n 1, 1) := by decide +kernel
theorem dX5_typeAt_5 : decode cX5_typeAt 5 = .ok (.aload_n 0, 1) := by decide +kernel
theorem dX5_typeAt_6 : decode cX5_typeAt 6 = .ok (.getfield 9, 3) := by decide +kernel
theorem dX5_typeAt_9 : decode cX5_typeAt 9 = .ok (.if_icmp .ge 9, 3) := by decide +kernel
theorem dX5_typeAt_12 : decode cX5_typeAt 12 = .ok (.iload_n 1, 1) := by decide +kernel
theorem dX5_typeAt_13 : decode cX5_typeAt 13 = .ok (.bipush 120, 2) := by decide +kernel
theorem dX5_typeAt_15 : decode cX5_typeAt 15 = .ok (.if_icmp .lt 5, 3) := by decide +kernel
theorem dX5_typeAt_18 : decode cX5_typeAt 18 = .ok (.iconst 0, 1) := by decide +kernel
theorem dX5_typeAt_19 : decode cX5_typeAt 19 = .ok (.ireturn, 1) := by decide +kernel
theorem dX5_typeAt_20 : decode cX5_typeAt 20 = .ok (.aload_n 0, 1) := by decide +kernel
theorem dX5_typeAt_21 : decode cX5_typeAt 21 = .ok (.getfield 15, 3) := by decide +kernel
theorem dX5_typeAt_24 : decode cX5_typeAt 24 = .ok (.iload_n 1, 1) := by decide +kernel
theorem dX5_typeAt_25 : decode cX5_typeAt 25 = .ok (.iaload, 1) := by decide +kernel
theorem dX5_typeAt_26 : decode cX5_typeAt 26 = .ok (.istore_n 2, 1) := by decide +kernel
theorem dX5_typeAt_27 : decode cX5_typeAt 27 = .ok (.iload_n 2, 1) := by decide +kernel
theorem dX5_typeAt_28 : decode cX5_typeAt 28 = .ok (.bipush 97, 2) := by decide +kernel
theorem dX5_typeAt_30 : decode cX5_typeAt 30 = .ok (.if_icmp .lt 11, 3) := by decide +kernel
theorem dX5_typeAt_33 : decode cX5_typeAt 33 = .ok (.iload_n 2, 1) := by decide +kernel
theorem dX5_typeAt_34 : decode cX5_typeAt 34 = .ok (.bipush 122, 2) := by decide +kernel
theorem dX5_typeAt_36 : decode cX5_typeAt 36 = .ok (.if_icmp .gt 5, 3) := by decide +kernel
theorem dX5_typeAt_39 : decode cX5_typeAt 39 = .ok (.iconst 1, 1) := by decide +kernel
theorem dX5_typeAt_40 : decode cX5_typeAt 40 = .ok (.ireturn, 1) := by decide +kernel
theorem dX5_typeAt_41 : decode cX5_typeAt 41 = .ok (.iload_n 2, 1) := by decide +kernel
theorem dX5_typeAt_42 : decode cX5_typeAt 42 = .ok (.bipush 48, 2) := by decide +kernel
theorem dX5_typeAt_44 : decode cX5_typeAt 44 = .ok (.if_icmp .lt 11, 3) := by decide +kernel
theorem dX5_typeAt_47 : decode cX5_typeAt 47 = .ok (.iload_n 2, 1) := by decide +kernel
theorem dX5_typeAt_48 : decode cX5_typeAt 48 = .ok (.bipush 57, 2) := by decide +kernel
theorem dX5_typeAt_50 : decode cX5_typeAt 50 = .ok (.if_icmp .gt 5, 3) := by decide +kernel
theorem dX5_typeAt_53 : decode cX5_typeAt 53 = .ok (.iconst 2, 1) := by decide +kernel
theorem dX5_typeAt_54 : decode cX5_typeAt 54 = .ok (.ireturn, 1) := by decide +kernel
theorem dX5_typeAt_55 : decode cX5_typeAt 55 = .ok (.iload_n 2, 1) := by decide +kernel
theorem dX5_typeAt_56 : decode cX5_typeAt 56 = .ok (.bipush 59, 2) := by decide +kernel
theorem dX5_typeAt_58 : decode cX5_typeAt 58 = .ok (.if_icmp .ne 5, 3) := by decide +kernel
theorem dX5_typeAt_61 : decode cX5_typeAt 61 = .ok (.iconst 3, 1) := by decide +kernel
theorem dX5_typeAt_62 : decode cX5_typeAt 62 = .ok (.ireturn, 1) := by decide +kernel
theorem dX5_typeAt_63 : decode cX5_typeAt 63 = .ok (.iload_n 2, 1) := by decide +kernel
theorem dX5_typeAt_64 : decode cX5_typeAt 64 = .ok (.bipush 32, 2) := by decide +kernel
theorem dX5_typeAt_66 : decode cX5_typeAt 66 = .ok (.if_icmp .ne 7, 3) := by decide +kernel
theorem dX5_typeAt_69 : decode cX5_typeAt 69 = .ok (.iconst 4, 1) := by decide +kernel
theorem dX5_typeAt_70 : decode cX5_typeAt 70 = .ok (.goto 4, 3) := by decide +kernel
theorem dX5_typeAt_73 : decode cX5_typeAt 73 = .ok (.iconst 5, 1) := by decide +kernel
theorem dX5_typeAt_74 : decode cX5_typeAt 74 = .ok (.ireturn, 1) := by decide +kernel
theorem dX6_init_0 : decode cX6_init 0 = .ok (.aload_n 0, 1) := by decide +kernel
theorem dX6_init_1 : decode cX6_init 1 = .ok (.invokespecial 3, 3) := by decide +kernel
theorem dX6_init_4 : decode cX6_init 4 = .ok (.aload_n 0, 1) := by decide +kernel
theorem dX6_init_5 : decode cX6_init 5 = .ok (.new 9, 3) := by decide +kernel
theorem dX6_init_8 : decode cX6_init 8 = .ok (.dup, 1) := by decide +kernel
theorem dX6_init_9 : decode cX6_init 9 = .ok (.invokespecial 11, 3) := by decide +kernel
theorem dX6_init_12 : decode cX6_init 12 = .ok (.putfield 12, 3) := by decide +kernel
theorem dX6_init_15 : decode cX6_init 15 = .ok (.aload_n 0, 1) := by decide +kernel
theorem dX6_init_16 : decode cX6_init 16 = .ok (.new 9, 3) := by decide +kernel
theorem dX6_init_19 : decode cX6_init 19 = .ok (.dup, 1) := by decide +kernel
theorem dX6_init_20 : decode cX6_init 20 = .ok (.invokespecial 11, 3) := by decide +kernel
theorem dX6_init_23 : decode cX6_init 23 = .ok (.putfield 16, 3) := by decide +kernel
theorem dX6_init_26 : decode cX6_init 26 = .ok (.aload_n 0, 1) := by decide +kernel
theorem dX6_init_27 : decode cX6_init 27 = .ok (.new 9, 3) := by decide +kernel
theorem dX6_init_30 : decode cX6_init 30 = .ok (.dup, 1) := by decide +kernel
theorem dX6_init_31 : decode cX6_init 31 = .ok (.invokespecial 11, 3) := by decide +kernel
theorem dX6_init_34 : decode cX6_init 34 = .ok (.putfield 19, 3) := by decide +kernel
theorem dX6_init_37 : decode cX6_init 37 = .ok (.aload_n 0, 1) := by decide +kernel
theorem dX6_init_38 : decode cX6_init 38 = .ok (.iconst 0, 1) := by decide +kernel
theorem dX6_init_39 : decode cX6_init 39 = .ok (.putfield 22, 3) := by decide +kernel
theorem dX6_init_42 : decode cX6_init 42 = .ok (.aload_n 0, 1) := by decide +kernel
theorem dX6_init_43 : decode cX6_init 43 = .ok (.new 26, 3) := by decide +kernel
theorem dX6_init_46 : decode cX6_init 46 = .ok (.dup, 1) := by decide +kernel
theorem dX6_init_47 : decode cX6_init 47 = .ok (.invokespecial 28, 3) := by decide +kernel
theorem dX6_init_50 : decode cX6_init 50 = .ok (.putfield 29, 3) := by decide +kernel
theorem dX6_init_53 : decode cX6_init 53 = .ok (.aload_n 0, 1) := by decide +kernel
theorem dX6_init_54 : decode cX6_init 54 = .ok (.new 33, 3) := by decide +kernel
theorem dX6_init_57 : decode cX6_init 57 = .ok (.dup, 1) := by decide +kernel
theorem dX6_init_58 : decode cX6_init 58 = .ok (.invokespecial 35, 3) := by decide +kernel
theorem dX6_init_61 : decode cX6_init 61 = .ok (.putfield 36, 3) := by decide +kernel
theorem dX6_init_64 : decode cX6_init 64 = .ok (.aload_n 0, 1) := by decide +kernel
theorem dX6_init_65 : decode cX6_init 65 = .ok (.new 40, 3) := by decide +kernel
theorem dX6_init_68 : decode cX6_init 68 = .ok (.dup, 1) := by decide +kernel
theorem dX6_init_69 : decode cX6_init 69 = .ok (.invokespecial 42, 3) := by decide +kernel
theorem dX6_init_72 : decode cX6_init 72 = .ok (.putfield 43, 3) := by decide +kernel
theorem dX6_init_75 : decode cX6_init 75 = .ok (.aload_n 0, 1) := by decide +kernel
theorem dX6_init_76 : decode cX6_init 76 = .ok (.iconst 4, 1) := by decide +kernel
theorem dX6_init_77 : decode cX6_init 77 = .ok (.anewarray 47, 3) := by decide +kernel
theorem dX6_init_80 : decode cX6_init 80 = .ok (.putfield 49, 3) := by decide +kernel
theorem dX6_init_83 : decode cX6_init 83 = .ok (.aload_n 0, 1) := by decide +kernel
theorem dX6_init_84 : decode cX6_init 84 = .ok (.bipush 7, 2) := by decide +kernel
theorem dX6_init_86 : decode cX6_init 86 = .ok (.newarray .int, 2) := by decide +kernel
theorem dX6_init_88 : decode cX6_init 88 = .ok (.putfield 53, 3) := by decide +kernel
theorem dX6_init_91 : decode cX6_init 91 = .ok (.iconst 0, 1) := by decide +kernel
theorem dX6_init_92 : decode cX6_init 92 = .ok (.istore_n 1, 1) := by decide +kernel
theorem dX6_init_93 : decode cX6_init 93 = .ok (.iload_n 1, 1) := by decide +kernel
theorem dX6_init_94 : decode cX6_init 94 = .ok (.iconst 4, 1) := by decide +kernel
theorem dX6_init_95 : decode cX6_init 95 = .ok (.if_icmp .ge 22, 3) := by decide +kernel
theorem dX6_init_98 : decode cX6_init 98 = .ok (.aload_n 0, 1) := by decide +kernel
theorem dX6_init_99 : decode cX6_init 99 = .ok (.getfield 49, 3) := by decide +kernel
theorem dX6_init_102 : decode cX6_init 102 = .ok (.iload_n 1, 1) := by decide +kernel
theorem dX6_init_103 : decode cX6_init 103 = .ok (.new 47, 3) := by decide +kernel
theorem dX6_init_106 : decode cX6_init 106 = .ok (.dup, 1) := by decide +kernel
theorem dX6_init_107 : decode cX6_init 107 = .ok (.invokespecial 57, 3) := by decide +kernel
theorem dX6_init_110 : decode cX6_init 110 = .ok (.aastore, 1) := by decide +kernel
theorem dX6_init_111 : decode cX6_init 111 = .ok (.iinc 1 1, 3) := by decide +kernel
theorem dX6_init_114 : decode cX6_init 114 = .ok (.goto (-21), 3) := by decide +kernel
theorem dX6_init_117 : decode cX6_init 117 = .ok (.return_, 1) := by decide +kernel
theorem dX6_store_0 : decode cX6_store 0 = .ok (.iload_n 1, 1) := by decide +kernel
theorem dX6_store_1 : decode cX6_store 1 = .ok (.bipush 8, 2) := by decide +kernel
theorem dX6_store_3 : decode cX6_store 3 = .ok (.invokestatic 58, 3) := by decide +kernel
theorem dX6_store_6 : decode cX6_store 6 = .ok (.ifCond .eq 13, 3) := by decide +kernel
theorem dX6_store_9 : decode cX6_store 9 = .ok (.iload_n 2, 1) := by decide +kernel
theorem dX6_store_10 : decode cX6_store 10 = .ok (.ifCond .lt 9, 3) := by decide +kernel
theorem dX6_store_13 : decode cX6_store 13 = .ok (.iload_n 2, 1) := by decide +kernel
theorem dX6_store_14 : decode cX6_store 14 = .ok (.bipush 99, 2) := by decide +kernel
theorem dX6_store_16 : decode cX6_store 16 = .ok (.if_icmp .le 10, 3) := by decide +kernel
theorem dX6_store_19 : decode cX6_store 19 = .ok (.aload_n 0, 1) := by decide +kernel
theorem dX6_store_20 : decode cX6_store 20 = .ok (.ldc 62, 2) := by decide +kernel
theorem dX6_store_22 : decode cX6_store 22 = .ok (.invokevirtual 63, 3) := by decide +kernel
theorem dX6_store_25 : decode cX6_store 25 = .ok (.ireturn, 1) := by decide +kernel
theorem dX6_store_26 : decode cX6_store 26 = .ok (.aload_n 0, 1) := by decide +kernel
theorem dX6_store_27 : decode cX6_store 27 = .ok (.getfield 12, 3) := by decide +kernel
theorem dX6_store_30 : decode cX6_store 30 = .ok (.getfield 67, 3) := by decide +kernel
theorem dX6_store_33 : decode cX6_store 33 = .ok (.iload_n 1, 1) := by decide +kernel
theorem dX6_store_34 : decode cX6_store 34 = .ok (.iaload, 1) := by decide +kernel
theorem dX6_store_35 : decode cX6_store 35 = .ok (.istore_n 3, 1) := by decide +kernel
theorem dX6_store_36 : decode cX6_store 36 = .ok (.aload_n 0, 1) := by decide +kernel
theorem dX6_store_37 : decode cX6_store 37 = .ok (.getfield 12, 3) := by decide +kernel
theorem dX6_store_40 : decode cX6_store 40 = .ok (.getfield 67, 3) := by decide +kernel
theorem dX6_store_43 : decode cX6_store 43 = .ok (.iload_n 1, 1) := by decide +kernel
theorem dX6_store_44 : decode cX6_store 44 = .ok (.iload_n 2, 1) := by decide +kernel
theorem dX6_store_45 : decode cX6_store 45 = .ok (.iastore, 1) := by decide +kernel
theorem dX6_store_46 : decode cX6_store 46 = .ok (.iload_n 3, 1) := by decide +kernel
theorem dX6_store_47 : decode cX6_store 47 = .ok (.ireturn, 1) := by decide +kernel
theorem dX6_storeOf_0 : decode cX6_storeOf 0 = .ok (.iload_n 1, 1) := by decide +kernel
theorem dX6_storeOf_1 : decode cX6_storeOf 1 = .ok (.bipush 8, 2) := by decide +kernel
theorem dX6_storeOf_3 : decode cX6_storeOf 3 = .ok (.invokestatic 58, 3) := by decide +kernel
theorem dX6_storeOf_6 : decode cX6_storeOf 6 = .ok (.ifCond .eq 15, 3) := by decide +kernel
theorem dX6_storeOf_9 : decode cX6_storeOf 9 = .ok (.aload_n 0, 1) := by decide +kernel
theorem dX6_storeOf_10 : decode cX6_storeOf 10 = .ok (.getfield 12, 3) := by decide +kernel
theorem dX6_storeOf_13 : decode cX6_storeOf 13 = .ok (.getfield 67, 3) := by decide +kernel
theorem dX6_storeOf_16 : decode cX6_storeOf 16 = .ok (.iload_n 1, 1) := by decide +kernel
theorem dX6_storeOf_17 : decode cX6_storeOf 17 = .ok (.iaload, 1) := by decide +kernel
theorem dX6_storeOf_18 : decode cX6_storeOf 18 = .ok (.goto 9, 3) := by decide +kernel
theorem dX6_storeOf_21 : decode cX6_storeOf 21 = .ok (.aload_n 0, 1) := by decide +kernel
theorem dX6_storeOf_22 : decode cX6_storeOf 22 = .ok (.ldc 62, 2) := by decide +kernel
theorem dX6_storeOf_24 : decode cX6_storeOf 24 = .ok (.invokevirtual 63, 3) := by decide +kernel
theorem dX6_storeOf_27 : decode cX6_storeOf 27 = .ok (.ireturn, 1) := by decide +kernel
theorem dX6_like_0 : decode cX6_like 0 = .ok (.iload_n 1, 1) := by decide +kernel
theorem dX6_like_1 : decode cX6_like 1 = .ok (.iconst 3, 1) := by decide +kernel
theorem dX6_like_2 : decode cX6_like 2 = .ok (.invokestatic 58, 3) := by decide +kernel
theorem dX6_like_5 : decode cX6_like 5 = .ok (.ifCond .eq 15, 3) := by decide +kernel
theorem dX6_like_8 : decode cX6_like 8 = .ok (.iload_n 3, 1) := by decide +kernel
theorem dX6_like_9 : decode cX6_like 9 = .ok (.bipush (-9), 2) := by decide +kernel
theorem dX6_like_11 : decode cX6_like 11 = .ok (.if_icmp .lt 9, 3) := by decide +kernel
theorem dX6_like_14 : decode cX6_like 14 = .ok (.iload_n 3, 1) := by decide +kernel
theorem dX6_like_15 : decode cX6_like 15 = .ok (.bipush 9, 2) := by decide +kernel
theorem dX6_like_17 : decode cX6_like 17 = .ok (.if_icmp .le 10, 3) := by decide +kernel
theorem dX6_like_20 : decode cX6_like 20 = .ok (.aload_n 0, 1) := by decide +kernel
theorem dX6_like_21 : decode cX6_like 21 = .ok (.ldc 62, 2) := by decide +kernel
theorem dX6_like_23 : decode cX6_like 23 = .ok (.invokevirtual 63, 3) := by decide +kernel
theorem dX6_like_26 : decode cX6_like 26 = .ok (.ireturn, 1) := by decide +kernel
theorem dX6_like_27 : decode cX6_like 27 = .ok (.aload_n 0, 1) := by decide +kernel
theorem dX6_like_28 : decode cX6_like 28 = .ok (.getfield 12, 3) := by decide +kernel
theorem dX6_like_31 : decode cX6_like 31 = .ok (.iload_n 1, 1) := by decide +kernel
theorem dX6_like_32 : decode cX6_like 32 = .ok (.invokevirtual 70, 3) := by decide +kernel
theorem dX6_like_35 : decode cX6_like 35 = .ok (.astore 4, 2) := by decide +kernel
theorem dX6_like_37 : decode cX6_like 37 = .ok (.iload_n 2, 1) := by decide +kernel
theorem dX6_like_38 : decode cX6_like 38 = .ok (.aload 4, 2) := by decide +kernel
theorem dX6_like_40 : decode cX6_like 40 = .ok (.arraylength, 1) := by decide +kernel
theorem dX6_like_41 : decode cX6_like 41 = .ok (.invokestatic 58, 3) := by decide +kernel
theorem dX6_like_44 : decode cX6_like 44 = .ok (.ifCond .ne 10, 3) := by decide +kernel
theorem dX6_like_47 : decode cX6_like 47 = .ok (.aload_n 0, 1) := by decide +kernel
theorem dX6_like_48 : decode cX6_like 48 = .ok (.ldc 62, 2) := by decide +kernel
theorem dX6_like_50 : decode cX6_like 50 = .ok (.invokevirtual 63, 3) := by decide +kernel
theorem dX6_like_53 : decode cX6_like 53 = .ok (.ireturn, 1) := by decide +kernel
theorem dX6_like_54 : decode cX6_like 54 = .ok (.aload 4, 2) := by decide +kernel
theorem dX6_like_56 : decode cX6_like 56 = .ok (.iload_n 2, 1) := by decide +kernel
theorem dX6_like_57 : decode cX6_like 57 = .ok (.iaload, 1) := by decide +kernel
theorem dX6_like_58 : decode cX6_like 58 = .ok (.istore 5, 2) := by decide +kernel
theorem dX6_like_60 : decode cX6_like 60 = .ok (.aload 4, 2) := by decide +kernel
theorem dX6_like_62 : decode cX6_like 62 = .ok (.iload_n 2, 1) := by decide +kernel
theorem dX6_like_63 : decode cX6_like 63 = .ok (.iload_n 3, 1) := by decide +kernel
theorem dX6_like_64 : decode cX6_like 64 = .ok (.iastore, 1) := by decide +kernel
theorem dX6_like_65 : decode cX6_like 65 = .ok (.iload 5, 2) := by decide +kernel
theorem dX6_like_67 : decode cX6_like 67 = .ok (.ireturn, 1) := by decide +kernel
theorem dX6_edict_0 : decode cX6_edict 0 = .ok (.iload_n 1, 1) := by decide +kernel
theorem dX6_edict_1 : decode cX6_edict 1 = .ok (.iconst 2, 1) := by decide +kernel
theorem dX6_edict_2 : decode cX6_edict 2 = .ok (.invokestatic 58, 3) := by decide +kernel
theorem dX6_edict_5 : decode cX6_edict 5 = .ok (.ifCond .ne 10, 3) := by decide +kernel
theorem dX6_edict_8 : decode cX6_edict 8 = .ok (.aload_n 0, 1) := by decide +kernel
theorem dX6_edict_9 : decode cX6_edict 9 = .ok (.ldc 62, 2) := by decide +kernel
theorem dX6_edict_11 : decode cX6_edict 11 = .ok (.invokevirtual 63, 3) := by decide +kernel
theorem dX6_edict_14 : decode cX6_edict 14 = .ok (.ireturn, 1) := by decide +kernel
theorem dX6_edict_15 : decode cX6_edict 15 = .ok (.aload_n 0, 1) := by decide +kernel
theorem dX6_edict_16 : decode cX6_edict 16 = .ok (.getfield 12, 3) := by decide +kernel
theorem dX6_edict_19 : decode cX6_edict 19 = .ok (.iload_n 1, 1) := by decide +kernel
theorem dX6_edict_20 : decode cX6_edict 20 = .ok (.iload_n 2, 1) := by decide +kernel
theorem dX6_edict_21 : decode cX6_edict 21 = .ok (.invokevirtual 74, 3) := by decide +kernel
theorem dX6_edict_24 : decode cX6_edict 24 = .ok (.ifCond .eq 7, 3) := by decide +kernel
theorem dX6_edict_27 : decode cX6_edict 27 = .ok (.iconst 1, 1) := by decide +kernel
theorem dX6_edict_28 : decode cX6_edict 28 = .ok (.goto 4, 3) := by decide +kernel
theorem dX6_edict_31 : decode cX6_edict 31 = .ok (.iconst 0, 1) := by decide +kernel
theorem dX6_edict_32 : decode cX6_edict 32 = .ok (.ireturn, 1) := by decide +kernel
theorem dX6_dish_0 : decode cX6_dish 0 = .ok (.iload_n 1, 1) := by decide +kernel
theorem dX6_dish_1 : decode cX6_dish 1 = .ok (.invokestatic 78, 3) := by decide +kernel
theorem dX6_dish_4 : decode cX6_dish 4 = .ok (.ifCond .eq 19, 3) := by decide +kernel
theorem dX6_dish_7 : decode cX6_dish 7 = .ok (.iload_n 2, 1) := by decide +kernel
theorem dX6_dish_8 : decode cX6_dish 8 = .ok (.iconst 5, 1) := by decide +kernel
theorem dX6_dish_9 : decode cX6_dish 9 = .ok (.invokestatic 58, 3) := by decide +kernel
theorem dX6_dish_12 : decode cX6_dish 12 = .ok (.ifCond .eq 11, 3) := by decide +kernel
theorem dX6_dish_15 : decode cX6_dish 15 = .ok (.iload_n 3, 1) := by decide +kernel
theorem dX6_dish_16 : decode cX6_dish 16 = .ok (.iconst 4, 1) := by decide +kernel
theorem dX6_dish_17 : decode cX6_dish 17 = .ok (.invokestatic 58, 3) := by decide +kernel
theorem dX6_dish_20 : decode cX6_dish 20 = .ok (.ifCond .ne 10, 3) := by decide +kernel
theorem dX6_dish_23 : decode cX6_dish 23 = .ok (.aload_n 0, 1) := by decide +kernel
theorem dX6_dish_24 : decode cX6_dish 24 = .ok (.ldc 62, 2) := by decide +kernel
theorem dX6_dish_26 : decode cX6_dish 26 = .ok (.invokevirtual 63, 3) := by decide +kernel
theorem dX6_dish_29 : decode cX6_dish 29 = .ok (.ireturn, 1) := by decide +kernel
theorem dX6_dish_30 : decode cX6_dish 30 = .ok (.iload_n 1, 1) := by decide +kernel
theorem dX6_dish_31 : decode cX6_dish 31 = .ok (.iload_n 2, 1) := by decide +kernel
theorem dX6_dish_32 : decode cX6_dish 32 = .ok (.iload_n 3, 1) := by decide +kernel
theorem dX6_dish_33 : decode cX6_dish 33 = .ok (.invokestatic 82, 3) := by decide +kernel
theorem dX6_dish_36 : decode cX6_dish 36 = .ok (.ireturn, 1) := by decide +kernel
theorem dX6_of_0 : decode cX6_of 0 = .ok (.iload_n 1, 1) := by decide +kernel
theorem dX6_of_1 : decode cX6_of 1 = .ok (.invokestatic 86, 3) := by decide +kernel
theorem dX6_of_4 : decode cX6_of 4 = .ok (.ifCond .ne 10, 3) := by decide +kernel
theorem dX6_of_7 : decode cX6_of 7 = .ok (.aload_n 0, 1) := by decide +kernel
theorem dX6_of_8 : decode cX6_of 8 = .ok (.ldc 62, 2) := by decide +kernel
theorem dX6_of_10 : decode cX6_of 10 = .ok (.invokevirtual 63, 3) := by decide +kernel
theorem dX6_of_13 : decode cX6_of 13 = .ok (.ireturn, 1) := by decide +kernel
theorem dX6_of_14 : decode cX6_of 14 = .ok (.iload_n 2, 1) := by decide +kernel
theorem dX6_of_15 : decode cX6_of 15 = .ok (.tableswitch 95 0 5 #[37, 42, 47, 52, 61, 78], 37) := by decide +kernel
theorem dX6_of_52 : decode cX6_of 52 = .ok (.iload_n 1, 1) := by decide +kernel
theorem dX6_of_53 : decode cX6_of 53 = .ok (.invokestatic 89, 3) := by decide +kernel
theorem dX6_of_56 : decode cX6_of 56 = .ok (.ireturn, 1) := by decide +kernel
theorem dX6_of_57 : decode cX6_of 57 = .ok (.iload_n 1, 1) := by decide +kernel
theorem dX6_of_58 : decode cX6_of 58 = .ok (.invokestatic 92, 3) := by decide +kernel
theorem dX6_of_61 : decode cX6_of 61 = .ok (.ireturn, 1) := by decide +kernel
theorem dX6_of_62 : decode cX6_of 62 = .ok (.iload_n 1, 1) := by decide +kernel
theorem dX6_of_63 : decode cX6_of 63 = .ok (.invokestatic 95, 3) := by decide +kernel
theorem dX6_of_66 : decode cX6_of 66 = .ok (.ireturn, 1) := by decide +kernel
theorem dX6_of_67 : decode cX6_of 67 = .ok (.aload_n 0, 1) := by decide +kernel
theorem dX6_of_68 : decode cX6_of 68 = .ok (.getfield 12, 3) := by decide +kernel
theorem dX6_of_71 : decode cX6_of 71 = .ok (.iload_n 1, 1) := by decide +kernel
theorem dX6_of_72 : decode cX6_of 72 = .ok (.invokevirtual 98, 3) := by decide +kernel
theorem dX6_of_75 : decode cX6_of 75 = .ok (.ireturn, 1) := by decide +kernel
theorem dX6_of_76 : decode cX6_of 76 = .ok (.aload_n 0, 1) := by decide +kernel
theorem dX6_of_77 : decode cX6_of 77 = .ok (.getfield 12, 3) := by decide +kernel
theorem dX6_of_80 : decode cX6_of 80 = .ok (.iload_n 1, 1) := by decide +kernel
theorem dX6_of_81 : decode cX6_of 81 = .ok (.invokevirtual 101, 3) := by decide +kernel
theorem dX6_of_84 : decode cX6_of 84 = .ok (.ifCond .eq 7, 3) := by decide +kernel
theorem dX6_of_87 : decode cX6_of 87 = .ok (.iconst 1, 1) := by decide +kernel
theorem dX6_of_88 : decode cX6_of 88 = .ok (.goto 4, 3) := by decide +kernel
theorem dX6_of_91 : decode cX6_of 91 = .ok (.iconst 0, 1) := by decide +kernel
theorem dX6_of_92 : decode cX6_of 92 = .ok (.ireturn, 1) := by decide +kernel
theorem dX6_of_93 : decode cX6_of 93 = .ok (.aload_n 0, 1) := by decide +kernel
theorem dX6_of_94 : decode cX6_of 94 = .ok (.getfield 12, 3) := by decide +kernel
theorem dX6_of_97 : decode cX6_of 97 = .ok (.iload_n 1, 1) := by decide +kernel
theorem dX6_of_98 : decode cX6_of 98 = .ok (.invokevirtual 104, 3) := by decide +kernel
theorem dX6_of_101 : decode cX6_of 101 = .ok (.ifCond .eq 7, 3) := by decide +kernel
theorem dX6_of_104 : decode cX6_of 104 = .ok (.iconst 1, 1) := by decide +kernel
theorem dX6_of_105 : decode cX6_of 105 = .ok (.goto 4, 3) := by decide +kernel
theorem dX6_of_108 : decode cX6_of 108 = .ok (.iconst 0, 1) := by decide +kernel
theorem dX6_of_109 : decode cX6_of 109 = .ok (.ireturn, 1) := by decide +kernel
theorem dX6_of_110 : decode cX6_of 110 = .ok (.aload_n 0, 1) := by decide +kernel
theorem dX6_of_111 : decode cX6_of 111 = .ok (.ldc 62, 2) := by decide +kernel
theorem dX6_of_113 : decode cX6_of 113 = .ok (.invokevirtual 63, 3) := by decide +kernel
theorem dX6_of_116 : decode cX6_of 116 = .ok (.ireturn, 1) := by decide +kernel
theorem dX6_near_0 : decode cX6_near 0 = .ok (.iload_n 1, 1) := by decide +kernel
theorem dX6_near_1 : decode cX6_near 1 = .ok (.invokestatic 86, 3) := by decide +kernel
theorem dX6_near_4 : decode cX6_near 4 = .ok (.ifCond .eq 10, 3) := by decide +kernel
theorem dX6_near_7 : decode cX6_near 7 = .ok (.iload_n 2, 1) := by decide +kernel
theorem dX6_near_8 : decode cX6_near 8 = .ok (.invokestatic 86, 3) := by decide +kernel
theorem dX6_near_11 : decode cX6_near 11 = .ok (.ifCond .ne 10, 3) := by decide +kernel
theorem dX6_near_14 : decode cX6_near 14 = .ok (.aload_n 0, 1) := by decide +kernel
theorem dX6_near_15 : decode cX6_near 15 = .ok (.ldc 62, 2) := by decide +kernel
theorem dX6_near_17 : decode cX6_near 17 = .ok (.invokevirtual 63, 3) := by decide +kernel
theorem dX6_near_20 : decode cX6_near 20 = .ok (.ireturn, 1) := by decide +kernel
theorem dX6_near_21 : decode cX6_near 21 = .ok (.iload_n 1, 1) := by decide +kernel
theorem dX6_near_22 : decode cX6_near 22 = .ok (.iload_n 2, 1) := by decide +kernel
theorem dX6_near_23 : decode cX6_near 23 = .ok (.invokestatic 107, 3) := by decide +kernel
theorem dX6_near_26 : decode cX6_near 26 = .ok (.ireturn, 1) := by decide +kernel
theorem dX6_nearHad_0 : decode cX6_nearHad 0 = .ok (.iload_n 1, 1) := by decide +kernel
theorem dX6_nearHad_1 : decode cX6_nearHad 1 = .ok (.invokestatic 86, 3) := by decide +kernel
theorem dX6_nearHad_4 : decode cX6_nearHad 4 = .ok (.ifCond .eq 13, 3) := by decide +kernel
theorem dX6_nearHad_7 : decode cX6_nearHad 7 = .ok (.iload_n 2, 1) := by decide +kernel
theorem dX6_nearHad_8 : decode cX6_nearHad 8 = .ok (.ifCond .lt 9, 3) := by decide +kernel
theorem dX6_nearHad_11 : decode cX6_nearHad 11 = .ok (.iload_n 2, 1) := by decide +kernel
theorem dX6_nearHad_12 : decode cX6_nearHad 12 = .ok (.bipush 8, 2) := by decide +kernel
theorem dX6_nearHad_14 : decode cX6_nearHad 14 = .ok (.if_icmp .le 10, 3) := by decide +kernel
theorem dX6_nearHad_17 : decode cX6_nearHad 17 = .ok (.aload_n 0, 1) := by decide +kernel
theorem dX6_nearHad_18 : decode cX6_nearHad 18 = .ok (.ldc 62, 2) := by decide +kernel
theorem dX6_nearHad_20 : decode cX6_nearHad 20 = .ok (.invokevirtual 63, 3) := by decide +kernel
theorem dX6_nearHad_23 : decode cX6_nearHad 23 = .ok (.ireturn, 1) := by decide +kernel
theorem dX6_nearHad_24 : decode cX6_nearHad 24 = .ok (.aload_n 0, 1) := by decide +kernel
theorem dX6_nearHad_25 : decode cX6_nearHad 25 = .ok (.getfield 12, 3) := by decide +kernel
theorem dX6_nearHad_28 : decode cX6_nearHad 28 = .ok (.iload_n 1, 1) := by decide +kernel
theorem dX6_nearHad_29 : decode cX6_nearHad 29 = .ok (.iload_n 2, 1) := by decide +kernel
theorem dX6_nearHad_30 : decode cX6_nearHad 30 = .ok (.invokevirtual 111, 3) := by decide +kernel
theorem dX6_nearHad_33 : decode cX6_nearHad 33 = .ok (.ireturn, 1) := by decide +kernel
theorem dX6_many_0 : decode cX6_many 0 = .ok (.iload_n 1, 1) := by decide +kernel
theorem dX6_many_1 : decode cX6_many 1 = .ok (.iconst 4, 1) := by decide +kernel
theorem dX6_many_2 : decode cX6_many 2 = .ok (.invokestatic 58, 3) := by decide +kernel
theorem dX6_many_5 : decode cX6_many 5 = .ok (.ifCond .ne 10, 3) := by decide +kernel
theorem dX6_many_8 : decode cX6_many 8 = .ok (.aload_n 0, 1) := by decide +kernel
theorem dX6_many_9 : decode cX6_many 9 = .ok (.ldc 62, 2) := by decide +kernel
theorem dX6_many_11 : decode cX6_many 11 = .ok (.invokevirtual 63, 3) := by decide +kernel
theorem dX6_many_14 : decode cX6_many 14 = .ok (.ireturn, 1) := by decide +kernel
theorem dX6_many_15 : decode cX6_many 15 = .ok (.aload_n 0, 1) := by decide +kernel
theorem dX6_many_16 : decode cX6_many 16 = .ok (.getfield 29, 3) := by decide +kernel
theorem dX6_many_19 : decode cX6_many 19 = .ok (.aload_n 0, 1) := by decide +kernel
theorem dX6_many_20 : decode cX6_many 20 = .ok (.getfield 12, 3) := by decide +kernel
theorem dX6_many_23 : decode cX6_many 23 = .ok (.invokevirtual 114, 3) := by decide +kernel
theorem dX6_many_26 : decode cX6_many 26 = .ok (.iload_n 1, 1) := by decide +kernel
theorem dX6_many_27 : decode cX6_many 27 = .ok (.tableswitch 52 0 2 #[25, 33, 44], 25) := by decide +kernel
theorem dX6_many_52 : decode cX6_many 52 = .ok (.aload_n 0, 1) := by decide +kernel
theorem dX6_many_53 : decode cX6_many 53 = .ok (.getfield 29, 3) := by decide +kernel
theorem dX6_many_56 : decode cX6_many 56 = .ok (.invokevirtual 118, 3) := by decide +kernel
theorem dX6_many_59 : decode cX6_many 59 = .ok (.ireturn, 1) := by decide +kernel
theorem dX6_many_60 : decode cX6_many 60 = .ok (.aload_n 0, 1) := by decide +kernel
theorem dX6_many_61 : decode cX6_many 61 = .ok (.getfield 29, 3) := by decide +kernel
theorem dX6_many_64 : decode cX6_many 64 = .ok (.getfield 122, 3) := by decide +kernel
theorem dX6_many_67 : decode cX6_many 67 = .ok (.invokevirtual 126, 3) := by decide +kernel
theorem dX6_many_70 : decode cX6_many 70 = .ok (.ireturn, 1) := by decide +kernel
theorem dX6_many_71 : decode cX6_many 71 = .ok (.aload_n 0, 1) := by decide +kernel
theorem dX6_many_72 : decode cX6_many 72 = .ok (.getfield 29, 3) := by decide +kernel
theorem dX6_many_75 : decode cX6_many 75 = .ok (.invokevirtual 131, 3) := by decide +kernel
theorem dX6_many_78 : decode cX6_many 78 = .ok (.ireturn, 1) := by decide +kernel
theorem dX6_many_79 : decode cX6_many 79 = .ok (.sipush 1840, 3) := by decide +kernel
theorem dX6_many_82 : decode cX6_many 82 = .ok (.aload_n 0, 1) := by decide +kernel
theorem dX6_many_83 : decode cX6_many 83 = .ok (.getfield 29, 3) := by decide +kernel
theorem dX6_many_86 : decode cX6_many 86 = .ok (.invokevirtual 118, 3) := by decide +kernel
theorem dX6_many_89 : decode cX6_many 89 = .ok (.isub, 1) := by decide +kernel
theorem dX6_many_90 : decode cX6_many 90 = .ok (.aload_n 0, 1) := by decide +kernel
theorem dX6_many_91 : decode cX6_many 91 = .ok (.getfield 29, 3) := by decide +kernel
theorem dX6_many_94 : decode cX6_many 94 = .ok (.getfield 122, 3) := by decide +kernel
theorem dX6_many_97 : decode cX6_many 97 = .ok (.invokevirtual 126, 3) := by decide +kernel
theorem dX6_many_100 : decode cX6_many 100 = .ok (.isub, 1) := by decide +kernel
theorem dX6_many_101 : decode cX6_many 101 = .ok (.aload_n 0, 1) := by decide +kernel
theorem dX6_many_102 : decode cX6_many 102 = .ok (.getfield 29, 3) := by decide +kernel
theorem dX6_many_105 : decode cX6_many 105 = .ok (.invokevirtual 131, 3) := by decide +kernel
theorem dX6_many_108 : decode cX6_many 108 = .ok (.iadd, 1) := by decide +kernel
theorem dX6_many_109 : decode cX6_many 109 = .ok (.ireturn, 1) := by decide +kernel
theorem dX6_next_0 : decode cX6_next 0 = .ok (.iload_n 1, 1) := by decide +kernel
theorem dX6_next_1 : decode cX6_next 1 = .ok (.ifCond .ge 10, 3) := by decide +kernel
theorem dX6_next_4 : decode cX6_next 4 = .ok (.aload_n 0, 1) := by decide +kernel
theorem dX6_next_5 : decode cX6_next 5 = .ok (.ldc 62, 2) := by decide +kernel
theorem dX6_next_7 : decode cX6_next 7 = .ok (.invokevirtual 63, 3) := by decide +kernel
theorem dX6_next_10 : decode cX6_next 10 = .ok (.ireturn, 1) := by decide +kernel
theorem dX6_next_11 : decode cX6_next 11 = .ok (.aload_n 0, 1) := by decide +kernel
theorem dX6_next_12 : decode cX6_next 12 = .ok (.getfield 29, 3) := by decide +kernel
theorem dX6_next_15 : decode cX6_next 15 = .ok (.aload_n 0, 1) := by decide +kernel
theorem dX6_next_16 : decode cX6_next 16 = .ok (.getfield 12, 3) := by decide +kernel
theorem dX6_next_19 : decode cX6_next 19 = .ok (.invokevirtual 114, 3) := by decide +kernel
theorem dX6_next_22 : decode cX6_next 22 = .ok (.aload_n 0, 1) := by decide +kernel
theorem dX6_next_23 : decode cX6_next 23 = .ok (.aload_n 0, 1) := by decide +kernel
theorem dX6_next_24 : decode cX6_next 24 = .ok (.getfield 29, 3) := by decide +kernel
theorem dX6_next_27 : decode cX6_next 27 = .ok (.iload_n 1, 1) := by decide +kernel
theorem dX6_next_28 : decode cX6_next 28 = .ok (.invokevirtual 134, 3) := by decide +kernel
theorem dX6_next_31 : decode cX6_next 31 = .ok (.invokevirtual 137, 3) := by decide +kernel
theorem dX6_next_34 : decode cX6_next 34 = .ok (.ireturn, 1) := by decide +kernel
theorem dX6_enter_0 : decode cX6_enter 0 = .ok (.iload_n 1, 1) := by decide +kernel
theorem dX6_enter_1 : decode cX6_enter 1 = .ok (.bipush 6, 2) := by decide +kernel
theorem dX6_enter_3 : decode cX6_enter 3 = .ok (.invokestatic 58, 3) := by decide +kernel
theorem dX6_enter_6 : decode cX6_enter 6 = .ok (.ifCond .eq 10, 3) := by decide +kernel
theorem dX6_enter_9 : decode cX6_enter 9 = .ok (.iload_n 2, 1) := by decide +kernel
theorem dX6_enter_10 : decode cX6_enter 10 = .ok (.invokestatic 86, 3) := by decide +kernel
theorem dX6_enter_13 : decode cX6_enter 13 = .ok (.ifCond .ne 10, 3) := by decide +kernel
theorem dX6_enter_16 : decode cX6_enter 16 = .ok (.aload_n 0, 1) := by decide +kernel
theorem dX6_enter_17 : decode cX6_enter 17 = .ok (.ldc 62, 2) := by decide +kernel
theorem dX6_enter_19 : decode cX6_enter 19 = .ok (.invokevirtual 63, 3) := by decide +kernel
theorem dX6_enter_22 : decode cX6_enter 22 = .ok (.ireturn, 1) := by decide +kernel
theorem dX6_enter_23 : decode cX6_enter 23 = .ok (.aload_n 0, 1) := by decide +kernel
theorem dX6_enter_24 : decode cX6_enter 24 = .ok (.getfield 12, 3) := by decide +kernel
theorem dX6_enter_27 : decode cX6_enter 27 = .ok (.invokevirtual 140, 3) := by decide +kernel
theorem dX6_enter_30 : decode cX6_enter 30 = .ok (.ifCond .eq 10, 3) := by decide +kernel
theorem dX6_enter_33 : decode cX6_enter 33 = .ok (.aload_n 0, 1) := by decide +kernel
theorem dX6_enter_34 : decode cX6_enter 34 = .ok (.ldc 144, 2) := by decide +kernel
theorem dX6_enter_36 : decode cX6_enter 36 = .ok (.invokevirtual 63, 3) := by decide +kernel
theorem dX6_enter_39 : decode cX6_enter 39 = .ok (.ireturn, 1) := by decide +kernel
theorem dX6_enter_40 : decode cX6_enter 40 = .ok (.aload_n 0, 1) := by decide +kernel
theorem dX6_enter_41 : decode cX6_enter 41 = .ok (.getfield 12, 3) := by decide +kernel
theorem dX6_enter_44 : decode cX6_enter 44 = .ok (.iload_n 1, 1) := by decide +kernel
theorem dX6_enter_45 : decode cX6_enter 45 = .ok (.iload_n 2, 1) := by decide +kernel
theorem dX6_enter_46 : decode cX6_enter 46 = .ok (.invokevirtual 145, 3) := by decide +kernel
theorem dX6_enter_49 : decode cX6_enter 49 = .ok (.ireturn, 1) := by decide +kernel
theorem dX6_entryOf_0 : decode cX6_entryOf 0 = .ok (.iload_n 1, 1) := by decide +kernel
theorem dX6_entryOf_1 : decode cX6_entryOf 1 = .ok (.aload_n 0, 1) := by decide +kernel
theorem dX6_entryOf_2 : decode cX6_entryOf 2 = .ok (.getfield 12, 3) := by decide +kernel
theorem dX6_entryOf_5 : decode cX6_entryOf 5 = .ok (.getfield 148, 3) := by decide +kernel
theorem dX6_entryOf_8 : decode cX6_entryOf 8 = .ok (.invokestatic 58, 3) := by decide +kernel
theorem dX6_entryOf_11 : decode cX6_entryOf 11 = .ok (.ifCond .ne 10, 3) := by decide +kernel
theorem dX6_entryOf_14 : decode cX6_entryOf 14 = .ok (.aload_n 0, 1) := by decide +kernel
theorem dX6_entryOf_15 : decode cX6_entryOf 15 = .ok (.ldc 62, 2) := by decide +kernel
theorem dX6_entryOf_17 : decode cX6_entryOf 17 = .ok (.invokevirtual 63, 3) := by decide +kernel
theorem dX6_entryOf_20 : decode cX6_entryOf 20 = .ok (.ireturn, 1) := by decide +kernel
theorem dX6_entryOf_21 : decode cX6_entryOf 21 = .ok (.iload_n 2, 1) := by decide +kernel
theorem dX6_entryOf_22 : decode cX6_entryOf 22 = .ok (.tableswitch 89 0 3 #[30, 40, 50, 60], 30) := by decide +kernel
theorem dX6_entryOf_52 : decode cX6_entryOf 52 = .ok (.aload_n 0, 1) := by decide +kernel
theorem dX6_entryOf_53 : decode cX6_entryOf 53 = .ok (.getfield 12, 3) := by decide +kernel
theorem dX6_entryOf_56 : decode cX6_entryOf 56 = .ok (.getfield 152, 3) := by decide +kernel
theorem dX6_entryOf_59 : decode cX6_entryOf 59 = .ok (.iload_n 1, 1) := by decide +kernel
theorem dX6_entryOf_60 : decode cX6_entryOf 60 = .ok (.iaload, 1) := by decide +kernel
theorem dX6_entryOf_61 : decode cX6_entryOf 61 = .ok (.ireturn, 1) := by decide +kernel
theorem dX6_entryOf_62 : decode cX6_entryOf 62 = .ok (.aload_n 0, 1) := by decide +kernel
theorem dX6_entryOf_63 : decode cX6_entryOf 63 = .ok (.getfield 12, 3) := by decide +kernel
theorem dX6_entryOf_66 : decode cX6_entryOf 66 = .ok (.getfield 155, 3) := by decide +kernel
theorem dX6_entryOf_69 : decode cX6_entryOf 69 = .ok (.iload_n 1, 1) := by decide +kernel
theorem dX6_entryOf_70 : decode cX6_entryOf 70 = .ok (.iaload, 1) := by decide +kernel
theorem dX6_entryOf_71 : decode cX6_entryOf 71 = .ok (.ireturn, 1) := by decide +kernel
theorem dX6_entryOf_72 : decode cX6_entryOf 72 = .ok (.aload_n 0, 1) := by decide +kernel
theorem dX6_entryOf_73 : decode cX6_entryOf 73 = .ok (.getfield 12, 3) := by decide +kernel
theorem dX6_entryOf_76 : decode cX6_entryOf 76 = .ok (.getfield 158, 3) := by decide +kernel
theorem dX6_entryOf_79 : decode cX6_entryOf 79 = .ok (.iload_n 1, 1) := by decide +kernel
theorem dX6_entryOf_80 : decode cX6_entryOf 80 = .ok (.iaload, 1) := by decide +kernel
theorem dX6_entryOf_81 : decode cX6_entryOf 81 = .ok (.ireturn, 1) := by decide +kernel
theorem dX6_entryOf_82 : decode cX6_entryOf 82 = .ok (.aload_n 0, 1) := by decide +kernel
theorem dX6_entryOf_83 : decode cX6_entryOf 83 = .ok (.getfield 12, 3) := by decide +kernel
theorem dX6_entryOf_86 : decode cX6_entryOf 86 = .ok (.getfield 152, 3) := by decide +kernel
theorem dX6_entryOf_89 : decode cX6_entryOf 89 = .ok (.iload_n 1, 1) := by decide +kernel
theorem dX6_entryOf_90 : decode cX6_entryOf 90 = .ok (.iaload, 1) := by decide +kernel
theorem dX6_entryOf_91 : decode cX6_entryOf 91 = .ok (.aload_n 0, 1) := by decide +kernel
theorem dX6_entryOf_92 : decode cX6_entryOf 92 = .ok (.getfield 12, 3) := by decide +kernel
theorem dX6_entryOf_95 : decode cX6_entryOf 95 = .ok (.getfield 155, 3) := by decide +kernel
theorem dX6_entryOf_98 : decode cX6_entryOf 98 = .ok (.iload_n 1, 1) := by decide +kernel
theorem dX6_entryOf_99 : decode cX6_entryOf 99 = .ok (.iaload, 1) := by decide +kernel
theorem dX6_entryOf_100 : decode cX6_entryOf 100 = .ok (.aload_n 0, 1) := by decide +kernel
theorem dX6_entryOf_101 : decode cX6_entryOf 101 = .ok (.getfield 12, 3) := by decide +kernel
theorem dX6_entryOf_104 : decode cX6_entryOf 104 = .ok (.getfield 161, 3) := by decide +kernel
theorem dX6_entryOf_107 : decode cX6_entryOf 107 = .ok (.invokestatic 164, 3) := by decide +kernel
theorem dX6_entryOf_110 : decode cX6_entryOf 110 = .ok (.ireturn, 1) := by decide +kernel
theorem dX6_entryOf_111 : decode cX6_entryOf 111 = .ok (.aload_n 0, 1) := by decide +kernel
theorem dX6_entryOf_112 : decode cX6_entryOf 112 = .ok (.ldc 62, 2) := by decide +kernel
theorem dX6_entryOf_114 : decode cX6_entryOf 114 = .ok (.invokevirtual 63, 3) := by decide +kernel
theorem dX6_entryOf_117 : decode cX6_entryOf 117 = .ok (.ireturn, 1) := by decide +kernel
theorem dX6_turn_0 : decode cX6_turn 0 = .ok (.iload_n 1, 1) := by decide +kernel
theorem dX6_turn_1 : decode cX6_turn 1 = .ok (.aload_n 0, 1) := by decide +kernel
theorem dX6_turn_2 : decode cX6_turn 2 = .ok (.getfield 12, 3) := by decide +kernel
theorem dX6_turn_5 : decode cX6_turn 5 = .ok (.getfield 148, 3) := by decide +kernel
theorem dX6_turn_8 : decode cX6_turn 8 = .ok (.invokestatic 58, 3) := by decide +kernel
theorem dX6_turn_11 : decode cX6_turn 11 = .ok (.ifCond .eq 12, 3) := by decide +kernel
theorem dX6_turn_14 : decode cX6_turn 14 = .ok (.iload_n 2, 1) := by decide +kernel
theorem dX6_turn_15 : decode cX6_turn 15 = .ok (.bipush 6, 2) := by decide +kernel
theorem dX6_turn_17 : decode cX6_turn 17 = .ok (.invokestatic 58, 3) := by decide +kernel
theorem dX6_turn_20 : decode cX6_turn 20 = .ok (.ifCond .ne 10, 3) := by decide +kernel
theorem dX6_turn_23 : decode cX6_turn 23 = .ok (.aload_n 0, 1) := by decide +kernel
theorem dX6_turn_24 : decode cX6_turn 24 = .ok (.ldc 62, 2) := by decide +kernel
theorem dX6_turn_26 : decode cX6_turn 26 = .ok (.invokevirtual 63, 3) := by decide +kernel
theorem dX6_turn_29 : decode cX6_turn 29 = .ok (.ireturn, 1) := by decide +kernel
theorem dX6_turn_30 : decode cX6_turn 30 = .ok (.aload_n 0, 1) := by decide +kernel
theorem dX6_turn_31 : decode cX6_turn 31 = .ok (.getfield 12, 3) := by decide +kernel
theorem dX6_turn_34 : decode cX6_turn 34 = .ok (.getfield 152, 3) := by decide +kernel
theorem dX6_turn_37 : decode cX6_turn 37 = .ok (.iload_n 1, 1) := by decide +kernel
theorem dX6_turn_38 : decode cX6_turn 38 = .ok (.iaload, 1) := by decide +kernel
theorem dX6_turn_39 : decode cX6_turn 39 = .ok (.istore_n 3, 1) := by decide +kernel
theorem dX6_turn_40 : decode cX6_turn 40 = .ok (.aload_n 0, 1) := by decide +kernel
theorem dX6_turn_41 : decode cX6_turn 41 = .ok (.getfield 12, 3) := by decide +kernel
theorem dX6_turn_44 : decode cX6_turn 44 = .ok (.getfield 152, 3) := by decide +kernel
theorem dX6_turn_47 : decode cX6_turn 47 = .ok (.iload_n 1, 1) := by decide +kernel
theorem dX6_turn_48 : decode cX6_turn 48 = .ok (.iload_n 2, 1) := by decide +kernel
theorem dX6_turn_49 : decode cX6_turn 49 = .ok (.iastore, 1) := by decide +kernel
theorem dX6_turn_50 : decode cX6_turn 50 = .ok (.iload_n 3, 1) := by decide +kernel
theorem dX6_turn_51 : decode cX6_turn 51 = .ok (.ireturn, 1) := by decide +kernel
theorem dX6_as_0 : decode cX6_as 0 = .ok (.iload_n 1, 1) := by decide +kernel
theorem dX6_as_1 : decode cX6_as 1 = .ok (.aload_n 0, 1) := by decide +kernel
theorem dX6_as_2 : decode cX6_as 2 = .ok (.getfield 12, 3) := by decide +kernel
theorem dX6_as_5 : decode cX6_as 5 = .ok (.getfield 148, 3) := by decide +kernel
theorem dX6_as_8 : decode cX6_as 8 = .ok (.invokestatic 58, 3) := by decide +kernel
theorem dX6_as_11 : decode cX6_as 11 = .ok (.ifCond .eq 12, 3) := by decide +kernel
theorem dX6_as_14 : decode cX6_as 14 = .ok (.iload_n 2, 1) := by decide +kernel
theorem dX6_as_15 : decode cX6_as 15 = .ok (.bipush 6, 2) := by decide +kernel
theorem dX6_as_17 : decode cX6_as 17 = .ok (.invokestatic 58, 3) := by decide +kernel
theorem dX6_as_20 : decode cX6_as 20 = .ok (.ifCond .ne 10, 3) := by decide +kernel
theorem dX6_as_23 : decode cX6_as 23 = .ok (.aload_n 0, 1) := by decide +kernel
theorem dX6_as_24 : decode cX6_as 24 = .ok (.ldc 62, 2) := by decide +kernel
theorem dX6_as_26 : decode cX6_as 26 = .ok (.invokevirtual 63, 3) := by decide +kernel
theorem dX6_as_29 : decode cX6_as 29 = .ok (.ireturn, 1) := by decide +kernel
theorem dX6_as_30 : decode cX6_as 30 = .ok (.aload_n 0, 1) := by decide +kernel
theorem dX6_as_31 : decode cX6_as 31 = .ok (.getfield 12, 3) := by decide +kernel
theorem dX6_as_34 : decode cX6_as 34 = .ok (.getfield 152, 3) := by decide +kernel
theorem dX6_as_37 : decode cX6_as 37 = .ok (.iload_n 1, 1) := by decide +kernel
theorem dX6_as_38 : decode cX6_as 38 = .ok (.iaload, 1) := by decide +kernel
theorem dX6_as_39 : decode cX6_as 39 = .ok (.iload_n 2, 1) := by decide +kernel
theorem dX6_as_40 : decode cX6_as 40 = .ok (.invokestatic 167, 3) := by decide +kernel
theorem dX6_as_43 : decode cX6_as 43 = .ok (.ifCond .ne 10, 3) := by decide +kernel
theorem dX6_as_46 : decode cX6_as 46 = .ok (.aload_n 0, 1) := by decide +kernel
theorem dX6_as_47 : decode cX6_as 47 = .ok (.ldc 170, 2) := by decide +kernel
theorem dX6_as_49 : decode cX6_as 49 = .ok (.invokevirtual 63, 3) := by decide +kernel
theorem dX6_as_52 : decode cX6_as 52 = .ok (.ireturn, 1) := by decide +kernel
theorem dX6_as_53 : decode cX6_as 53 = .ok (.aload_n 0, 1) := by decide +kernel
theorem dX6_as_54 : decode cX6_as 54 = .ok (.getfield 12, 3) := by decide +kernel
theorem dX6_as_57 : decode cX6_as 57 = .ok (.getfield 155, 3) := by decide +kernel
theorem dX6_as_60 : decode cX6_as 60 = .ok (.iload_n 1, 1) := by decide +kernel
theorem dX6_as_61 : decode cX6_as 61 = .ok (.iaload, 1) := by decide +kernel
theorem dX6_as_62 : decode cX6_as 62 = .ok (.ireturn, 1) := by decide +kernel
theorem dX6_strike_0 : decode cX6_strike 0 = .ok (.aload_n 0, 1) := by decide +kernel
theorem dX6_strike_1 : decode cX6_strike 1 = .ok (.getfield 12, 3) := by decide +kernel
theorem dX6_strike_4 : decode cX6_strike 4 = .ok (.getfield 148, 3) := by decide +kernel
theorem dX6_strike_7 : decode cX6_strike 7 = .ok (.ifCond .gt 10, 3) := by decide +kernel
theorem dX6_strike_10 : decode cX6_strike 10 = .ok (.aload_n 0, 1) := by decide +kernel
theorem dX6_strike_11 : decode cX6_strike 11 = .ok (.ldc 171, 2) := by decide +kernel
theorem dX6_strike_13 : decode cX6_strike 13 = .ok (.invokevirtual 63, 3) := by decide +kernel
theorem dX6_strike_16 : decode cX6_strike 16 = .ok (.ireturn, 1) := by decide +kernel
theorem dX6_strike_17 : decode cX6_strike 17 = .ok (.aload_n 0, 1) := by decide +kernel
theorem dX6_strike_18 : decode cX6_strike 18 = .ok (.getfield 12, 3) := by decide +kernel
theorem dX6_strike_21 : decode cX6_strike 21 = .ok (.dup, 1) := by decide +kernel
theorem dX6_strike_22 : decode cX6_strike 22 = .ok (.getfield 148, 3) := by decide +kernel
theorem dX6_strike_25 : decode cX6_strike 25 = .ok (.iconst 1, 1) := by decide +kernel
theorem dX6_strike_26 : decode cX6_strike 26 = .ok (.isub, 1) := by decide +kernel
theorem dX6_strike_27 : decode cX6_strike 27 = .ok (.putfield 148, 3) := by decide +kernel
theorem dX6_strike_30 : decode cX6_strike 30 = .ok (.aload_n 0, 1) := by decide +kernel
theorem dX6_strike_31 : decode cX6_strike 31 = .ok (.getfield 12, 3) := by decide +kernel
theorem dX6_strike_34 : decode cX6_strike 34 = .ok (.getfield 155, 3) := by decide +kernel
theorem dX6_strike_37 : decode cX6_strike 37 = .ok (.aload_n 0, 1) := by decide +kernel
theorem dX6_strike_38 : decode cX6_strike 38 = .ok (.getfield 12, 3) := by decide +kernel
theorem dX6_strike_41 : decode cX6_strike 41 = .ok (.getfield 148, 3) := by decide +kernel
theorem dX6_strike_44 : decode cX6_strike 44 = .ok (.iaload, 1) := by decide +kernel
theorem dX6_strike_45 : decode cX6_strike 45 = .ok (.ireturn, 1) := by decide +kernel
theorem dX6_bars_0 : decode cX6_bars 0 = .ok (.iload_n 1, 1) := by decide +kernel
theorem dX6_bars_1 : decode cX6_bars 1 = .ok (.aload_n 0, 1) := by decide +kernel
theorem dX6_bars_2 : decode cX6_bars 2 = .ok (.getfield 12, 3) := by decide +kernel
theorem dX6_bars_5 : decode cX6_bars 5 = .ok (.getfield 148, 3) := by decide +kernel
theorem dX6_bars_8 : decode cX6_bars 8 = .ok (.invokestatic 58, 3) := by decide +kernel
theorem dX6_bars_11 : decode cX6_bars 11 = .ok (.ifCond .eq 10, 3) := by decide +kernel
theorem dX6_bars_14 : decode cX6_bars 14 = .ok (.iload_n 2, 1) := by decide +kernel
theorem dX6_bars_15 : decode cX6_bars 15 = .ok (.invokestatic 86, 3) := by decide +kernel
theorem dX6_bars_18 : decode cX6_bars 18 = .ok (.ifCond .ne 10, 3) := by decide +kernel
theorem dX6_bars_21 : decode cX6_bars 21 = .ok (.aload_n 0, 1) := by decide +kernel
theorem dX6_bars_22 : decode cX6_bars 22 = .ok (.ldc 62, 2) := by decide +kernel
theorem dX6_bars_24 : decode cX6_bars 24 = .ok (.invokevirtual 63, 3) := by decide +kernel
theorem dX6_bars_27 : decode cX6_bars 27 = .ok (.ireturn, 1) := by decide +kernel
theorem dX6_bars_28 : decode cX6_bars 28 = .ok (.aload_n 0, 1) := by decide +kernel
theorem dX6_bars_29 : decode cX6_bars 29 = .ok (.getfield 12, 3) := by decide +kernel
theorem dX6_bars_32 : decode cX6_bars 32 = .ok (.iload_n 1, 1) := by decide +kernel
theorem dX6_bars_33 : decode cX6_bars 33 = .ok (.iload_n 2, 1) := by decide +kernel
theorem dX6_bars_34 : decode cX6_bars 34 = .ok (.invokevirtual 172, 3) := by decide +kernel
theorem dX6_bars_37 : decode cX6_bars 37 = .ok (.ifCond .eq 7, 3) := by decide +kernel
theorem dX6_bars_40 : decode cX6_bars 40 = .ok (.iconst 1, 1) := by decide +kernel
theorem dX6_bars_41 : decode cX6_bars 41 = .ok (.goto 4, 3) := by decide +kernel
theorem dX6_bars_44 : decode cX6_bars 44 = .ok (.iconst 0, 1) := by decide +kernel
theorem dX6_bars_45 : decode cX6_bars 45 = .ok (.ireturn, 1) := by decide +kernel
theorem dX6_by_0 : decode cX6_by 0 = .ok (.iload_n 1, 1) := by decide +kernel
theorem dX6_by_1 : decode cX6_by 1 = .ok (.invokestatic 86, 3) := by decide +kernel
theorem dX6_by_4 : decode cX6_by 4 = .ok (.ifCond .ne 10, 3) := by decide +kernel
theorem dX6_by_7 : decode cX6_by 7 = .ok (.aload_n 0, 1) := by decide +kernel
theorem dX6_by_8 : decode cX6_by 8 = .ok (.ldc 62, 2) := by decide +kernel
theorem dX6_by_10 : decode cX6_by 10 = .ok (.invokevirtual 63, 3) := by decide +kernel
theorem dX6_by_13 : decode cX6_by 13 = .ok (.ireturn, 1) := by decide +kernel
theorem dX6_by_14 : decode cX6_by 14 = .ok (.aload_n 0, 1) := by decide +kernel
theorem dX6_by_15 : decode cX6_by 15 = .ok (.aload_n 0, 1) := by decide +kernel
theorem dX6_by_16 : decode cX6_by 16 = .ok (.getfield 12, 3) := by decide +kernel
theorem dX6_by_19 : decode cX6_by 19 = .ok (.iload_n 1, 1) := by decide +kernel
theorem dX6_by_20 : decode cX6_by 20 = .ok (.aload_n 0, 1) := by decide +kernel
theorem dX6_by_21 : decode cX6_by 21 = .ok (.getfield 12, 3) := by decide +kernel
theorem dX6_by_24 : decode cX6_by 24 = .ok (.getfield 148, 3) := by decide +kernel
theorem dX6_by_27 : decode cX6_by 27 = .ok (.invokevirtual 175, 3) := by decide +kernel
theorem dX6_by_30 : decode cX6_by 30 = .ok (.invokevirtual 137, 3) := by decide +kernel
theorem dX6_by_33 : decode cX6_by 33 = .ok (.ireturn, 1) := by decide +kernel
theorem dX6_breach_0 : decode cX6_breach 0 = .ok (.aload_n 0, 1) := by decide +kernel
theorem dX6_breach_1 : decode cX6_breach 1 = .ok (.aload_n 0, 1) := by decide +kernel
theorem dX6_breach_2 : decode cX6_breach 2 = .ok (.getfield 12, 3) := by decide +kernel
theorem dX6_breach_5 : decode cX6_breach 5 = .ok (.invokevirtual 178, 3) := by decide +kernel
theorem dX6_breach_8 : decode cX6_breach 8 = .ok (.invokevirtual 137, 3) := by decide +kernel
theorem dX6_breach_11 : decode cX6_breach 11 = .ok (.ireturn, 1) := by decide +kernel
theorem dX6_keenest_0 : decode cX6_keenest 0 = .ok (.aload_n 0, 1) := by decide +kernel
theorem dX6_keenest_1 : decode cX6_keenest 1 = .ok (.getfield 29, 3) := by decide +kernel
theorem dX6_keenest_4 : decode cX6_keenest 4 = .ok (.aload_n 0, 1) := by decide +kernel
theorem dX6_keenest_5 : decode cX6_keenest 5 = .ok (.getfield 12, 3) := by decide +kernel
theorem dX6_keenest_8 : decode cX6_keenest 8 = .ok (.invokevirtual 114, 3) := by decide +kernel
theorem dX6_keenest_11 : decode cX6_keenest 11 = .ok (.iconst (-1), 1) := by decide +kernel
theorem dX6_keenest_12 : decode cX6_keenest 12 = .ok (.istore_n 1, 1) := by decide +kernel
theorem dX6_keenest_13 : decode cX6_keenest 13 = .ok (.iconst (-1), 1) := by decide +kernel
theorem dX6_keenest_14 : decode cX6_keenest 14 = .ok (.istore_n 2, 1) := by decide +kernel
theorem dX6_keenest_15 : decode cX6_keenest 15 = .ok (.iconst 0, 1) := by decide +kernel
theorem dX6_keenest_16 : decode cX6_keenest 16 = .ok (.istore_n 3, 1) := by decide +kernel
theorem dX6_keenest_17 : decode cX6_keenest 17 = .ok (.iload_n 3, 1) := by decide +kernel
theorem dX6_keenest_18 : decode cX6_keenest 18 = .ok (.aload_n 0, 1) := by decide +kernel
theorem dX6_keenest_19 : decode cX6_keenest 19 = .ok (.getfield 12, 3) := by decide +kernel
theorem dX6_keenest_22 : decode cX6_keenest 22 = .ok (.getfield 148, 3) := by decide +kernel
theorem dX6_keenest_25 : decode cX6_keenest 25 = .ok (.if_icmp .ge 57, 3) := by decide +kernel
theorem dX6_keenest_28 : decode cX6_keenest 28 = .ok (.aload_n 0, 1) := by decide +kernel
theorem dX6_keenest_29 : decode cX6_keenest 29 = .ok (.getfield 29, 3) := by decide +kernel
theorem dX6_keenest_32 : decode cX6_keenest 32 = .ok (.getfield 122, 3) := by decide +kernel
theorem dX6_keenest_35 : decode cX6_keenest 35 = .ok (.aload_n 0, 1) := by decide +kernel
theorem dX6_keenest_36 : decode cX6_keenest 36 = .ok (.getfield 12, 3) := by decide +kernel
theorem dX6_keenest_39 : decode cX6_keenest 39 = .ok (.getfield 152, 3) := by decide +kernel
theorem dX6_keenest_42 : decode cX6_keenest 42 = .ok (.iload_n 3, 1) := by decide +kernel
theorem dX6_keenest_43 : decode cX6_keenest 43 = .ok (.iaload, 1) := by decide +kernel
theorem dX6_keenest_44 : decode cX6_keenest 44 = .ok (.aload_n 0, 1) := by decide +kernel
theorem dX6_keenest_45 : decode cX6_keenest 45 = .ok (.getfield 12, 3) := by decide +kernel
theorem dX6_keenest_48 : decode cX6_keenest 48 = .ok (.getfield 155, 3) := by decide +kernel
theorem dX6_keenest_51 : decode cX6_keenest 51 = .ok (.iload_n 3, 1) := by decide +kernel
theorem dX6_keenest_52 : decode cX6_keenest 52 = .ok (.iaload, 1) := by decide +kernel
theorem dX6_keenest_53 : decode cX6_keenest 53 = .ok (.aload_n 0, 1) := by decide +kernel
theorem dX6_keenest_54 : decode cX6_keenest 54 = .ok (.getfield 12, 3) := by decide +kernel
theorem dX6_keenest_57 : decode cX6_keenest 57 = .ok (.getfield 161, 3) := by decide +kernel
theorem dX6_keenest_60 : decode cX6_keenest 60 = .ok (.invokevirtual 181, 3) := by decide +kernel
theorem dX6_keenest_63 : decode cX6_keenest 63 = .ok (.istore 4, 2) := by decide +kernel
theorem dX6_keenest_65 : decode cX6_keenest 65 = .ok (.iload 4, 2) := by decide +kernel
theorem dX6_keenest_67 : decode cX6_keenest 67 = .ok (.iload_n 2, 1) := by decide +kernel
theorem dX6_keenest_68 : decode cX6_keenest 68 = .ok (.if_icmp .le 8, 3) := by decide +kernel
theorem dX6_keenest_71 : decode cX6_keenest 71 = .ok (.iload 4, 2) := by decide +kernel
theorem dX6_keenest_73 : decode cX6_keenest 73 = .ok (.istore_n 2, 1) := by decide +kernel
theorem dX6_keenest_74 : decode cX6_keenest 74 = .ok (.iload_n 3, 1) := by decide +kernel
theorem dX6_keenest_75 : decode cX6_keenest 75 = .ok (.istore_n 1, 1) := by decide +kernel
theorem dX6_keenest_76 : decode cX6_keenest 76 = .ok (.iinc 3 1, 3) := by decide +kernel
theorem dX6_keenest_79 : decode cX6_keenest 79 = .ok (.goto (-62), 3) := by decide +kernel
theorem dX6_keenest_82 : decode cX6_keenest 82 = .ok (.aload_n 0, 1) := by decide +kernel
theorem dX6_keenest_83 : decode cX6_keenest 83 = .ok (.iload_n 1, 1) := by decide +kernel
theorem dX6_keenest_84 : decode cX6_keenest 84 = .ok (.invokevirtual 137, 3) := by decide +kernel
theorem dX6_keenest_87 : decode cX6_keenest 87 = .ok (.ireturn, 1) := by decide +kernel
theorem dX6_wouldBe_0 : decode cX6_wouldBe 0 = .ok (.iload_n 1, 1) := by decide +kernel
theorem dX6_wouldBe_1 : decode cX6_wouldBe 1 = .ok (.iconst 2, 1) := by decide +kernel
theorem dX6_wouldBe_2 : decode cX6_wouldBe 2 = .ok (.invokestatic 58, 3) := by decide +kernel
theorem dX6_wouldBe_5 : decode cX6_wouldBe 5 = .ok (.ifCond .ne 10, 3) := by decide +kernel
theorem dX6_wouldBe_8 : decode cX6_wouldBe 8 = .ok (.aload_n 0, 1) := by decide +kernel
theorem dX6_wouldBe_9 : decode cX6_wouldBe 9 = .ok (.ldc 62, 2) := by decide +kernel
theorem dX6_wouldBe_11 : decode cX6_wouldBe 11 = .ok (.invokevirtual 63, 3) := by decide +kernel
theorem dX6_wouldBe_14 : decode cX6_wouldBe 14 = .ok (.ireturn, 1) := by decide +kernel
theorem dX6_wouldBe_15 : decode cX6_wouldBe 15 = .ok (.aload_n 0, 1) := by decide +kernel
theorem dX6_wouldBe_16 : decode cX6_wouldBe 16 = .ok (.getfield 29, 3) := by decide +kernel
theorem dX6_wouldBe_19 : decode cX6_wouldBe 19 = .ok (.getfield 122, 3) := by decide +kernel
theorem dX6_wouldBe_22 : decode cX6_wouldBe 22 = .ok (.aload_n 0, 1) := by decide +kernel
theorem dX6_wouldBe_23 : decode cX6_wouldBe 23 = .ok (.getfield 12, 3) := by decide +kernel
theorem dX6_wouldBe_26 : decode cX6_wouldBe 26 = .ok (.aload_n 0, 1) := by decide +kernel
theorem dX6_wouldBe_27 : decode cX6_wouldBe 27 = .ok (.getfield 12, 3) := by decide +kernel
theorem dX6_wouldBe_30 : decode cX6_wouldBe 30 = .ok (.getfield 161, 3) := by decide +kernel
theorem dX6_wouldBe_33 : decode cX6_wouldBe 33 = .ok (.invokevirtual 184, 3) := by decide +kernel
theorem dX6_wouldBe_36 : decode cX6_wouldBe 36 = .ok (.aload_n 0, 1) := by decide +kernel
theorem dX6_wouldBe_37 : decode cX6_wouldBe 37 = .ok (.getfield 29, 3) := by decide +kernel
theorem dX6_wouldBe_40 : decode cX6_wouldBe 40 = .ok (.getfield 122, 3) := by decide +kernel
theorem dX6_wouldBe_43 : decode cX6_wouldBe 43 = .ok (.invokevirtual 126, 3) := by decide +kernel
theorem dX6_wouldBe_46 : decode cX6_wouldBe 46 = .ok (.istore_n 2, 1) := by decide +kernel
theorem dX6_wouldBe_47 : decode cX6_wouldBe 47 = .ok (.aload_n 0, 1) := by decide +kernel
theorem dX6_wouldBe_48 : decode cX6_wouldBe 48 = .ok (.getfield 29, 3) := by decide +kernel
theorem dX6_wouldBe_51 : decode cX6_wouldBe 51 = .ok (.getfield 122, 3) := by decide +kernel
theorem dX6_wouldBe_54 : decode cX6_wouldBe 54 = .ok (.aload_n 0, 1) := by decide +kernel
theorem dX6_wouldBe_55 : decode cX6_wouldBe 55 = .ok (.getfield 12, 3) := by decide +kernel
theorem dX6_wouldBe_58 : decode cX6_wouldBe 58 = .ok (.aload_n 0, 1) := by decide +kernel
theorem dX6_wouldBe_59 : decode cX6_wouldBe 59 = .ok (.getfield 12, 3) := by decide +kernel
theorem dX6_wouldBe_62 : decode cX6_wouldBe 62 = .ok (.getfield 161, 3) := by decide +kernel
theorem dX6_wouldBe_65 : decode cX6_wouldBe 65 = .ok (.iconst 1, 1) := by decide +kernel
theorem dX6_wouldBe_66 : decode cX6_wouldBe 66 = .ok (.iload_n 1, 1) := by decide +kernel
theorem dX6_wouldBe_67 : decode cX6_wouldBe 67 = .ok (.ishl, 1) := by decide +kernel
theorem dX6_wouldBe_68 : decode cX6_wouldBe 68 = .ok (.ixor, 1) := by decide +kernel
theorem dX6_wouldBe_69 : decode cX6_wouldBe 69 = .ok (.invokevirtual 184, 3) := by decide +kernel
theorem dX6_wouldBe_72 : decode cX6_wouldBe 72 = .ok (.aload_n 0, 1) := by decide +kernel
theorem dX6_wouldBe_73 : decode cX6_wouldBe 73 = .ok (.getfield 29, 3) := by decide +kernel
theorem dX6_wouldBe_76 : decode cX6_wouldBe 76 = .ok (.getfield 122, 3) := by decide +kernel
theorem dX6_wouldBe_79 : decode cX6_wouldBe 79 = .ok (.invokevirtual 126, 3) := by decide +kernel
theorem dX6_wouldBe_82 : decode cX6_wouldBe 82 = .ok (.iload_n 2, 1) := by decide +kernel
theorem dX6_wouldBe_83 : decode cX6_wouldBe 83 = .ok (.isub, 1) := by decide +kernel
theorem dX6_wouldBe_84 : decode cX6_wouldBe 84 = .ok (.ireturn, 1) := by decide +kernel
theorem dX6_best_0 : decode cX6_best 0 = .ok (.aload_n 0, 1) := by decide +kernel
theorem dX6_best_1 : decode cX6_best 1 = .ok (.getfield 29, 3) := by decide +kernel
theorem dX6_best_4 : decode cX6_best 4 = .ok (.aload_n 0, 1) := by decide +kernel
theorem dX6_best_5 : decode cX6_best 5 = .ok (.getfield 12, 3) := by decide +kernel
theorem dX6_best_8 : decode cX6_best 8 = .ok (.invokevirtual 114, 3) := by decide +kernel
theorem dX6_best_11 : decode cX6_best 11 = .ok (.aload_n 0, 1) := by decide +kernel
theorem dX6_best_12 : decode cX6_best 12 = .ok (.aload_n 0, 1) := by decide +kernel
theorem dX6_best_13 : decode cX6_best 13 = .ok (.getfield 29, 3) := by decide +kernel
theorem dX6_best_16 : decode cX6_best 16 = .ok (.invokevirtual 188, 3) := by decide +kernel
theorem dX6_best_19 : decode cX6_best 19 = .ok (.invokevirtual 137, 3) := by decide +kernel
theorem dX6_best_22 : decode cX6_best 22 = .ok (.ireturn, 1) := by decide +kernel
theorem dX6_serve_0 : decode cX6_serve 0 = .ok (.iload_n 1, 1) := by decide +kernel
theorem dX6_serve_1 : decode cX6_serve 1 = .ok (.bipush 6, 2) := by decide +kernel
theorem dX6_serve_3 : decode cX6_serve 3 = .ok (.invokestatic 58, 3) := by decide +kernel
theorem dX6_serve_6 : decode cX6_serve 6 = .ok (.ifCond .eq 10, 3) := by decide +kernel
theorem dX6_serve_9 : decode cX6_serve 9 = .ok (.iload_n 2, 1) := by decide +kernel
theorem dX6_serve_10 : decode cX6_serve 10 = .ok (.invokestatic 86, 3) := by decide +kernel
theorem dX6_serve_13 : decode cX6_serve 13 = .ok (.ifCond .ne 10, 3) := by decide +kernel
theorem dX6_serve_16 : decode cX6_serve 16 = .ok (.aload_n 0, 1) := by decide +kernel
theorem dX6_serve_17 : decode cX6_serve 17 = .ok (.ldc 62, 2) := by decide +kernel
theorem dX6_serve_19 : decode cX6_serve 19 = .ok (.invokevirtual 63, 3) := by decide +kernel
theorem dX6_serve_22 : decode cX6_serve 22 = .ok (.ireturn, 1) := by decide +kernel
theorem dX6_serve_23 : decode cX6_serve 23 = .ok (.aload_n 0, 1) := by decide +kernel
theorem dX6_serve_24 : decode cX6_serve 24 = .ok (.getfield 12, 3) := by decide +kernel
theorem dX6_serve_27 : decode cX6_serve 27 = .ok (.iload_n 1, 1) := by decide +kernel
theorem dX6_serve_28 : decode cX6_serve 28 = .ok (.iload_n 2, 1) := by decide +kernel
theorem dX6_serve_29 : decode cX6_serve 29 = .ok (.invokevirtual 191, 3) := by decide +kernel
theorem dX6_serve_32 : decode cX6_serve 32 = .ok (.ifCond .eq 16, 3) := by decide +kernel
theorem dX6_serve_35 : decode cX6_serve 35 = .ok (.aload_n 0, 1) := by decide +kernel
theorem dX6_serve_36 : decode cX6_serve 36 = .ok (.getfield 12, 3) := by decide +kernel
theorem dX6_serve_39 : decode cX6_serve 39 = .ok (.getfield 194, 3) := by decide +kernel
theorem dX6_serve_42 : decode cX6_serve 42 = .ok (.sipush 9999, 3) := by decide +kernel
theorem dX6_serve_45 : decode cX6_serve 45 = .ok (.if_icmp .lt 10, 3) := by decide +kernel
theorem dX6_serve_48 : decode cX6_serve 48 = .ok (.aload_n 0, 1) := by decide +kernel
theorem dX6_serve_49 : decode cX6_serve 49 = .ok (.ldc 197, 2) := by decide +kernel
theorem dX6_serve_51 : decode cX6_serve 51 = .ok (.invokevirtual 63, 3) := by decide +kernel
theorem dX6_serve_54 : decode cX6_serve 54 = .ok (.ireturn, 1) := by decide +kernel
theorem dX6_serve_55 : decode cX6_serve 55 = .ok (.aload_n 0, 1) := by decide +kernel
theorem dX6_serve_56 : decode cX6_serve 56 = .ok (.getfield 12, 3) := by decide +kernel
theorem dX6_serve_59 : decode cX6_serve 59 = .ok (.invokevirtual 140, 3) := by decide +kernel
theorem dX6_serve_62 : decode cX6_serve 62 = .ok (.ifCond .eq 10, 3) := by decide +kernel
theorem dX6_serve_65 : decode cX6_serve 65 = .ok (.aload_n 0, 1) := by decide +kernel
theorem dX6_serve_66 : decode cX6_serve 66 = .ok (.ldc 144, 2) := by decide +kernel
theorem dX6_serve_68 : decode cX6_serve 68 = .ok (.invokevirtual 63, 3) := by decide +kernel
theorem dX6_serve_71 : decode cX6_serve 71 = .ok (.ireturn, 1) := by decide +kernel
theorem dX6_serve_72 : decode cX6_serve 72 = .ok (.aload_n 0, 1) := by decide +kernel
theorem dX6_serve_73 : decode cX6_serve 73 = .ok (.getfield 12, 3) := by decide +kernel
theorem dX6_serve_76 : decode cX6_serve 76 = .ok (.iload_n 1, 1) := by decide +kernel
theorem dX6_serve_77 : decode cX6_serve 77 = .ok (.iload_n 2, 1) := by decide +kernel
theorem dX6_serve_78 : decode cX6_serve 78 = .ok (.invokevirtual 198, 3) := by decide +kernel
theorem dX6_serve_81 : decode cX6_serve 81 = .ok (.ireturn, 1) := by decide +kernel
theorem dX6_meals_0 : decode cX6_meals 0 = .ok (.iload_n 1, 1) := by decide +kernel
theorem dX6_meals_1 : decode cX6_meals 1 = .ok (.bipush 6, 2) := by decide +kernel
theorem dX6_meals_3 : decode cX6_meals 3 = .ok (.invokestatic 58, 3) := by decide +kernel
theorem dX6_meals_6 : decode cX6_meals 6 = .ok (.ifCond .eq 14, 3) := by decide +kernel
theorem dX6_meals_9 : decode cX6_meals 9 = .ok (.iload_n 2, 1) := by decide +kernel
theorem dX6_meals_10 : decode cX6_meals 10 = .ok (.iconst 1, 1) := by decide +kernel
theorem dX6_meals_11 : decode cX6_meals 11 = .ok (.if_icmp .lt 9, 3) := by decide +kernel
theorem dX6_meals_14 : decode cX6_meals 14 = .ok (.iload_n 2, 1) := by decide +kernel
theorem dX6_meals_15 : decode cX6_meals 15 = .ok (.bipush 30, 2) := by decide +kernel
theorem dX6_meals_17 : decode cX6_meals 17 = .ok (.if_icmp .le 10, 3) := by decide +kernel
theorem dX6_meals_20 : decode cX6_meals 20 = .ok (.aload_n 0, 1) := by decide +kernel
theorem dX6_meals_21 : decode cX6_meals 21 = .ok (.ldc 62, 2) := by decide +kernel
theorem dX6_meals_23 : decode cX6_meals 23 = .ok (.invokevirtual 63, 3) := by decide +kernel
theorem dX6_meals_26 : decode cX6_meals 26 = .ok (.ireturn, 1) := by decide +kernel
theorem dX6_meals_27 : decode cX6_meals 27 = .ok (.aload_n 0, 1) := by decide +kernel
theorem dX6_meals_28 : decode cX6_meals 28 = .ok (.getfield 12, 3) := by decide +kernel
theorem dX6_meals_31 : decode cX6_meals 31 = .ok (.getfield 194, 3) := by decide +kernel
theorem dX6_meals_34 : decode cX6_meals 34 = .ok (.iload_n 2, 1) := by decide +kernel
theorem dX6_meals_35 : decode cX6_meals 35 = .ok (.iadd, 1) := by decide +kernel
theorem dX6_meals_36 : decode cX6_meals 36 = .ok (.sipush 9999, 3) := by decide +kernel
theorem dX6_meals_39 : decode cX6_meals 39 = .ok (.if_icmp .le 10, 3) := by decide +kernel
theorem dX6_meals_42 : decode cX6_meals 42 = .ok (.aload_n 0, 1) := by decide +kernel
theorem dX6_meals_43 : decode cX6_meals 43 = .ok (.ldc 197, 2) := by decide +kernel
theorem dX6_meals_45 : decode cX6_meals 45 = .ok (.invokevirtual 63, 3) := by decide +kernel
theorem dX6_meals_48 : decode cX6_meals 48 = .ok (.ireturn, 1) := by decide +kernel
theorem dX6_meals_49 : decode cX6_meals 49 = .ok (.aload_n 0, 1) := by decide +kernel
theorem dX6_meals_50 : decode cX6_meals 50 = .ok (.getfield 29, 3) := by decide +kernel
theorem dX6_meals_53 : decode cX6_meals 53 = .ok (.aload_n 0, 1) := by decide +kernel
theorem dX6_meals_54 : decode cX6_meals 54 = .ok (.getfield 12, 3) := by decide +kernel
theorem dX6_meals_57 : decode cX6_meals 57 = .ok (.invokevirtual 114, 3) := by decide +kernel
theorem dX6_meals_60 : decode cX6_meals 60 = .ok (.iconst 0, 1) := by decide +kernel
theorem dX6_meals_61 : decode cX6_meals 61 = .ok (.istore_n 3, 1) := by decide +kernel
theorem dX6_meals_62 : decode cX6_meals 62 = .ok (.iload_n 3, 1) := by decide +kernel
theorem dX6_meals_63 : decode cX6_meals 63 = .ok (.iload_n 2, 1) := by decide +kernel
theorem dX6_meals_64 : decode cX6_meals 64 = .ok (.if_icmp .ge 51, 3) := by decide +kernel
theorem dX6_meals_67 : decode cX6_meals 67 = .ok (.aload_n 0, 1) := by decide +kernel
theorem dX6_meals_68 : decode cX6_meals 68 = .ok (.getfield 12, 3) := by decide +kernel
theorem dX6_meals_71 : decode cX6_meals 71 = .ok (.invokevirtual 140, 3) := by decide +kernel
theorem dX6_meals_74 : decode cX6_meals 74 = .ok (.ifCond .eq 7, 3) := by decide +kernel
theorem dX6_meals_77 : decode cX6_meals 77 = .ok (.iconst (-1), 1) := by decide +kernel
theorem dX6_meals_78 : decode cX6_meals 78 = .ok (.goto 11, 3) := by decide +kernel
theorem dX6_meals_81 : decode cX6_meals 81 = .ok (.aload_n 0, 1) := by decide +kernel
theorem dX6_meals_82 : decode cX6_meals 82 = .ok (.getfield 29, 3) := by decide +kernel
theorem dX6_meals_85 : decode cX6_meals 85 = .ok (.iload_n 1, 1) := by decide +kernel
theorem dX6_meals_86 : decode cX6_meals 86 = .ok (.invokevirtual 201, 3) := by decide +kernel
theorem dX6_meals_89 : decode cX6_meals 89 = .ok (.istore 4, 2) := by decide +kernel
theorem dX6_meals_91 : decode cX6_meals 91 = .ok (.iload 4, 2) := by decide +kernel
theorem dX6_meals_93 : decode cX6_meals 93 = .ok (.ifCond .ge 5, 3) := by decide +kernel
theorem dX6_meals_96 : decode cX6_meals 96 = .ok (.iload_n 3, 1) := by decide +kernel
theorem dX6_meals_97 : decode cX6_meals 97 = .ok (.ireturn, 1) := by decide +kernel
theorem dX6_meals_98 : decode cX6_meals 98 = .ok (.aload_n 0, 1) := by decide +kernel
theorem dX6_meals_99 : decode cX6_meals 99 = .ok (.getfield 12, 3) := by decide +kernel
theorem dX6_meals_102 : decode cX6_meals 102 = .ok (.iload_n 1, 1) := by decide +kernel
theorem dX6_meals_103 : decode cX6_meals 103 = .ok (.iload 4, 2) := by decide +kernel
theorem dX6_meals_105 : decode cX6_meals 105 = .ok (.invokevirtual 198, 3) := by decide +kernel
theorem dX6_meals_108 : decode cX6_meals 108 = .ok (.pop, 1) := by decide +kernel
theorem dX6_meals_109 : decode cX6_meals 109 = .ok (.iinc 3 1, 3) := by decide +kernel
theorem dX6_meals_112 : decode cX6_meals 112 = .ok (.goto (-50), 3) := by decide +kernel
theorem dX6_meals_115 : decode cX6_meals 115 = .ok (.iload_n 2, 1) := by decide +kernel
theorem dX6_meals_116 : decode cX6_meals 116 = .ok (.ireturn, 1) := by decide +kernel
theorem dX6_on_0 : decode cX6_on 0 = .ok (.iload_n 1, 1) := by decide +kernel
theorem dX6_on_1 : decode cX6_on 1 = .ok (.bipush 6, 2) := by decide +kernel
theorem dX6_on_3 : decode cX6_on 3 = .ok (.invokestatic 58, 3) := by decide +kernel
theorem dX6_on_6 : decode cX6_on 6 = .ok (.ifCond .eq 14, 3) := by decide +kernel
theorem dX6_on_9 : decode cX6_on 9 = .ok (.iload_n 2, 1) := by decide +kernel
theorem dX6_on_10 : decode cX6_on 10 = .ok (.iconst 1, 1) := by decide +kernel
theorem dX6_on_11 : decode cX6_on 11 = .ok (.if_icmp .lt 9, 3) := by decide +kernel
theorem dX6_on_14 : decode cX6_on 14 = .ok (.iload_n 2, 1) := by decide +kernel
theorem dX6_on_15 : decode cX6_on 15 = .ok (.bipush 30, 2) := by decide +kernel
theorem dX6_on_17 : decode cX6_on 17 = .ok (.if_icmp .le 10, 3) := by decide +kernel
theorem dX6_on_20 : decode cX6_on 20 = .ok (.aload_n 0, 1) := by decide +kernel
theorem dX6_on_21 : decode cX6_on 21 = .ok (.ldc 62, 2) := by decide +kernel
theorem dX6_on_23 : decode cX6_on 23 = .ok (.invokevirtual 63, 3) := by decide +kernel
theorem dX6_on_26 : decode cX6_on 26 = .ok (.ireturn, 1) := by decide +kernel
theorem dX6_on_27 : decode cX6_on 27 = .ok (.aload_n 0, 1) := by decide +kernel
theorem dX6_on_28 : decode cX6_on 28 = .ok (.getfield 29, 3) := by decide +kernel
theorem dX6_on_31 : decode cX6_on 31 = .ok (.aload_n 0, 1) := by decide +kernel
theorem dX6_on_32 : decode cX6_on 32 = .ok (.getfield 12, 3) := by decide +kernel
theorem dX6_on_35 : decode cX6_on 35 = .ok (.invokevirtual 114, 3) := by decide +kernel
theorem dX6_on_38 : decode cX6_on 38 = .ok (.iconst (-1), 1) := by decide +kernel
theorem dX6_on_39 : decode cX6_on 39 = .ok (.istore_n 3, 1) := by decide +kernel
theorem dX6_on_40 : decode cX6_on 40 = .ok (.iconst 0, 1) := by decide +kernel
theorem dX6_on_41 : decode cX6_on 41 = .ok (.istore 4, 2) := by decide +kernel
theorem dX6_on_43 : decode cX6_on 43 = .ok (.iload 4, 2) := by decide +kernel
theorem dX6_on_45 : decode cX6_on 45 = .ok (.iload_n 2, 1) := by decide +kernel
theorem dX6_on_46 : decode cX6_on 46 = .ok (.if_icmp .ge 29, 3) := by decide +kernel
theorem dX6_on_49 : decode cX6_on 49 = .ok (.aload_n 0, 1) := by decide +kernel
theorem dX6_on_50 : decode cX6_on 50 = .ok (.getfield 29, 3) := by decide +kernel
theorem dX6_on_53 : decode cX6_on 53 = .ok (.iload_n 1, 1) := by decide +kernel
theorem dX6_on_54 : decode cX6_on 54 = .ok (.invokevirtual 201, 3) := by decide +kernel
theorem dX6_on_57 : decode cX6_on 57 = .ok (.istore_n 3, 1) := by decide +kernel
theorem dX6_on_58 : decode cX6_on 58 = .ok (.iload_n 3, 1) := by decide +kernel
theorem dX6_on_59 : decode cX6_on 59 = .ok (.ifCond .ge 10, 3) := by decide +kernel
theorem dX6_on_62 : decode cX6_on 62 = .ok (.aload_n 0, 1) := by decide +kernel
theorem dX6_on_63 : decode cX6_on 63 = .ok (.ldc 171, 2) := by decide +kernel
theorem dX6_on_65 : decode cX6_on 65 = .ok (.invokevirtual 63, 3) := by decide +kernel
theorem dX6_on_68 : decode cX6_on 68 = .ok (.ireturn, 1) := by decide +kernel
theorem dX6_on_69 : decode cX6_on 69 = .ok (.iinc 4 1, 3) := by decide +kernel
theorem dX6_on_72 : decode cX6_on 72 = .ok (.goto (-29), 3) := by decide +kernel
theorem dX6_on_75 : decode cX6_on 75 = .ok (.iload_n 3, 1) := by decide +kernel
theorem dX6_on_76 : decode cX6_on 76 = .ok (.ireturn, 1) := by decide +kernel
theorem dX6_lasts_0 : decode cX6_lasts 0 = .ok (.iload_n 1, 1) := by decide +kernel
theorem dX6_lasts_1 : decode cX6_lasts 1 = .ok (.bipush 6, 2) := by decide +kernel
theorem dX6_lasts_3 : decode cX6_lasts 3 = .ok (.invokestatic 58, 3) := by decide +kernel
theorem dX6_lasts_6 : decode cX6_lasts 6 = .ok (.ifCond .ne 10, 3) := by decide +kernel
theorem dX6_lasts_9 : decode cX6_lasts 9 = .ok (.aload_n 0, 1) := by decide +kernel
theorem dX6_lasts_10 : decode cX6_lasts 10 = .ok (.ldc 62, 2) := by decide +kernel
theorem dX6_lasts_12 : decode cX6_lasts 12 = .ok (.invokevirtual 63, 3) := by decide +kernel
theorem dX6_lasts_15 : decode cX6_lasts 15 = .ok (.ireturn, 1) := by decide +kernel
theorem dX6_lasts_16 : decode cX6_lasts 16 = .ok (.aload_n 0, 1) := by decide +kernel
theorem dX6_lasts_17 : decode cX6_lasts 17 = .ok (.getfield 29, 3) := by decide +kernel
theorem dX6_lasts_20 : decode cX6_lasts 20 = .ok (.aload_n 0, 1) := by decide +kernel
theorem dX6_lasts_21 : decode cX6_lasts 21 = .ok (.getfield 12, 3) := by decide +kernel
theorem dX6_lasts_24 : decode cX6_lasts 24 = .ok (.invokevirtual 114, 3) := by decide +kernel
theorem dX6_lasts_27 : decode cX6_lasts 27 = .ok (.aload_n 0, 1) := by decide +kernel
theorem dX6_lasts_28 : decode cX6_lasts 28 = .ok (.getfield 29, 3) := by decide +kernel
theorem dX6_lasts_31 : decode cX6_lasts 31 = .ok (.iload_n 1, 1) := by decide +kernel
theorem dX6_lasts_32 : decode cX6_lasts 32 = .ok (.invokevirtual 204, 3) := by decide +kernel
theorem dX6_lasts_35 : decode cX6_lasts 35 = .ok (.ireturn, 1) := by decide +kernel
theorem dX6_buy_0 : decode cX6_buy 0 = .ok (.iload_n 1, 1) := by decide +kernel
theorem dX6_buy_1 : decode cX6_buy 1 = .ok (.bipush 6, 2) := by decide +kernel
theorem dX6_buy_3 : decode cX6_buy 3 = .ok (.invokestatic 58, 3) := by decide +kernel
theorem dX6_buy_6 : decode cX6_buy 6 = .ok (.ifCond .ne 10, 3) := by decide +kernel
theorem dX6_buy_9 : decode cX6_buy 9 = .ok (.aload_n 0, 1) := by decide +kernel
theorem dX6_buy_10 : decode cX6_buy 10 = .ok (.ldc 62, 2) := by decide +kernel
theorem dX6_buy_12 : decode cX6_buy 12 = .ok (.invokevirtual 63, 3) := by decide +kernel
theorem dX6_buy_15 : decode cX6_buy 15 = .ok (.ireturn, 1) := by decide +kernel
theorem dX6_buy_16 : decode cX6_buy 16 = .ok (.aload_n 0, 1) := by decide +kernel
theorem dX6_buy_17 : decode cX6_buy 17 = .ok (.getfield 29, 3) := by decide +kernel
theorem dX6_buy_20 : decode cX6_buy 20 = .ok (.aload_n 0, 1) := by decide +kernel
theorem dX6_buy_21 : decode cX6_buy 21 = .ok (.getfield 12, 3) := by decide +kernel
theorem dX6_buy_24 : decode cX6_buy 24 = .ok (.invokevirtual 114, 3) := by decide +kernel
theorem dX6_buy_27 : decode cX6_buy 27 = .ok (.aload_n 0, 1) := by decide +kernel
theorem dX6_buy_28 : decode cX6_buy 28 = .ok (.getfield 29, 3) := by decide +kernel
theorem dX6_buy_31 : decode cX6_buy 31 = .ok (.iload_n 1, 1) := by decide +kernel
theorem dX6_buy_32 : decode cX6_buy 32 = .ok (.invokevirtual 204, 3) := by decide +kernel
theorem dX6_buy_35 : decode cX6_buy 35 = .ok (.istore_n 2, 1) := by decide +kernel
theorem dX6_buy_36 : decode cX6_buy 36 = .ok (.iconst (-1), 1) := by decide +kernel
theorem dX6_buy_37 : decode cX6_buy 37 = .ok (.istore_n 3, 1) := by decide +kernel
theorem dX6_buy_38 : decode cX6_buy 38 = .ok (.iconst 0, 1) := by decide +kernel
theorem dX6_buy_39 : decode cX6_buy 39 = .ok (.istore 4, 2) := by decide +kernel
theorem dX6_buy_41 : decode cX6_buy 41 = .ok (.iload 4, 2) := by decide +kernel
theorem dX6_buy_43 : decode cX6_buy 43 = .ok (.bipush 8, 2) := by decide +kernel
theorem dX6_buy_45 : decode cX6_buy 45 = .ok (.if_icmp .ge 56, 3) := by decide +kernel
theorem dX6_buy_48 : decode cX6_buy 48 = .ok (.aload_n 0, 1) := by decide +kernel
theorem dX6_buy_49 : decode cX6_buy 49 = .ok (.getfield 29, 3) := by decide +kernel
theorem dX6_buy_52 : decode cX6_buy 52 = .ok (.aload_n 0, 1) := by decide +kernel
theorem dX6_buy_53 : decode cX6_buy 53 = .ok (.getfield 12, 3) := by decide +kernel
theorem dX6_buy_56 : decode cX6_buy 56 = .ok (.invokevirtual 114, 3) := by decide +kernel
theorem dX6_buy_59 : decode cX6_buy 59 = .ok (.aload_n 0, 1) := by decide +kernel
theorem dX6_buy_60 : decode cX6_buy 60 = .ok (.getfield 29, 3) := by decide +kernel
theorem dX6_buy_63 : decode cX6_buy 63 = .ok (.getfield 207, 3) := by decide +kernel
theorem dX6_buy_66 : decode cX6_buy 66 = .ok (.iload 4, 2) := by decide +kernel
theorem dX6_buy_68 : decode cX6_buy 68 = .ok (.dup2, 1) := by decide +kernel
theorem dX6_buy_69 : decode cX6_buy 69 = .ok (.iaload, 1) := by decide +kernel
theorem dX6_buy_70 : decode cX6_buy 70 = .ok (.iconst 1, 1) := by decide +kernel
theorem dX6_buy_71 : decode cX6_buy 71 = .ok (.iadd, 1) := by decide +kernel
theorem dX6_buy_72 : decode cX6_buy 72 = .ok (.iastore, 1) := by decide +kernel
theorem dX6_buy_73 : decode cX6_buy 73 = .ok (.aload_n 0, 1) := by decide +kernel
theorem dX6_buy_74 : decode cX6_buy 74 = .ok (.getfield 29, 3) := by decide +kernel
theorem dX6_buy_77 : decode cX6_buy 77 = .ok (.iload_n 1, 1) := by decide +kernel
theorem dX6_buy_78 : decode cX6_buy 78 = .ok (.invokevirtual 204, 3) := by decide +kernel
theorem dX6_buy_81 : decode cX6_buy 81 = .ok (.istore 5, 2) := by decide +kernel
theorem dX6_buy_83 : decode cX6_buy 83 = .ok (.iload 5, 2) := by decide +kernel
theorem dX6_buy_85 : decode cX6_buy 85 = .ok (.iload_n 2, 1) := by decide +kernel
theorem dX6_buy_86 : decode cX6_buy 86 = .ok (.if_icmp .le 9, 3) := by decide +kernel
theorem dX6_buy_89 : decode cX6_buy 89 = .ok (.iload 5, 2) := by decide +kernel
theorem dX6_buy_91 : decode cX6_buy 91 = .ok (.istore_n 2, 1) := by decide +kernel
theorem dX6_buy_92 : decode cX6_buy 92 = .ok (.iload 4, 2) := by decide +kernel
theorem dX6_buy_94 : decode cX6_buy 94 = .ok (.istore_n 3, 1) := by decide +kernel
theorem dX6_buy_95 : decode cX6_buy 95 = .ok (.iinc 4 1, 3) := by decide +kernel
theorem dX6_buy_98 : decode cX6_buy 98 = .ok (.goto (-57), 3) := by decide +kernel
theorem dX6_buy_101 : decode cX6_buy 101 = .ok (.aload_n 0, 1) := by decide +kernel
theorem dX6_buy_102 : decode cX6_buy 102 = .ok (.iload_n 3, 1) := by decide +kernel
theorem dX6_buy_103 : decode cX6_buy 103 = .ok (.invokevirtual 137, 3) := by decide +kernel
theorem dX6_buy_106 : decode cX6_buy 106 = .ok (.ireturn, 1) := by decide +kernel
theorem dX6_steps_0 : decode cX6_steps 0 = .ok (.iload_n 1, 1) := by decide +kernel
theorem dX6_steps_1 : decode cX6_steps 1 = .ok (.invokestatic 86, 3) := by decide +kernel
theorem dX6_steps_4 : decode cX6_steps 4 = .ok (.ifCond .eq 10, 3) := by decide +kernel
theorem dX6_steps_7 : decode cX6_steps 7 = .ok (.iload_n 2, 1) := by decide +kernel
theorem dX6_steps_8 : decode cX6_steps 8 = .ok (.invokestatic 86, 3) := by decide +kernel
theorem dX6_steps_11 : decode cX6_steps 11 = .ok (.ifCond .ne 10, 3) := by decide +kernel
theorem dX6_steps_14 : decode cX6_steps 14 = .ok (.aload_n 0, 1) := by decide +kernel
theorem dX6_steps_15 : decode cX6_steps 15 = .ok (.ldc 62, 2) := by decide +kernel
theorem dX6_steps_17 : decode cX6_steps 17 = .ok (.invokevirtual 63, 3) := by decide +kernel
theorem dX6_steps_20 : decode cX6_steps 20 = .ok (.ireturn, 1) := by decide +kernel
theorem dX6_steps_21 : decode cX6_steps 21 = .ok (.aload_n 0, 1) := by decide +kernel
theorem dX6_steps_22 : decode cX6_steps 22 = .ok (.getfield 29, 3) := by decide +kernel
theorem dX6_steps_25 : decode cX6_steps 25 = .ok (.aload_n 0, 1) := by decide +kernel
theorem dX6_steps_26 : decode cX6_steps 26 = .ok (.getfield 12, 3) := by decide +kernel
theorem dX6_steps_29 : decode cX6_steps 29 = .ok (.invokevirtual 114, 3) := by decide +kernel
theorem dX6_steps_32 : decode cX6_steps 32 = .ok (.aload_n 0, 1) := by decide +kernel
theorem dX6_steps_33 : decode cX6_steps 33 = .ok (.aload_n 0, 1) := by decide +kernel
theorem dX6_steps_34 : decode cX6_steps 34 = .ok (.getfield 36, 3) := by decide +kernel
theorem dX6_steps_37 : decode cX6_steps 37 = .ok (.iload_n 1, 1) := by decide +kernel
theorem dX6_steps_38 : decode cX6_steps 38 = .ok (.iload_n 2, 1) := by decide +kernel
theorem dX6_steps_39 : decode cX6_steps 39 = .ok (.aload_n 0, 1) := by decide +kernel
theorem dX6_steps_40 : decode cX6_steps 40 = .ok (.getfield 29, 3) := by decide +kernel
theorem dX6_steps_43 : decode cX6_steps 43 = .ok (.invokevirtual 210, 3) := by decide +kernel
theorem dX6_steps_46 : decode cX6_steps 46 = .ok (.invokevirtual 137, 3) := by decide +kernel
theorem dX6_steps_49 : decode cX6_steps 49 = .ok (.ireturn, 1) := by decide +kernel
theorem dX6_within_0 : decode cX6_within 0 = .ok (.iload_n 1, 1) := by decide +kernel
theorem dX6_within_1 : decode cX6_within 1 = .ok (.invokestatic 86, 3) := by decide +kernel
theorem dX6_within_4 : decode cX6_within 4 = .ok (.ifCond .eq 13, 3) := by decide +kernel
theorem dX6_within_7 : decode cX6_within 7 = .ok (.iload_n 2, 1) := by decide +kernel
theorem dX6_within_8 : decode cX6_within 8 = .ok (.ifCond .lt 9, 3) := by decide +kernel
theorem dX6_within_11 : decode cX6_within 11 = .ok (.iload_n 2, 1) := by decide +kernel
theorem dX6_within_12 : decode cX6_within 12 = .ok (.bipush 12, 2) := by decide +kernel
theorem dX6_within_14 : decode cX6_within 14 = .ok (.if_icmp .le 10, 3) := by decide +kernel
theorem dX6_within_17 : decode cX6_within 17 = .ok (.aload_n 0, 1) := by decide +kernel
theorem dX6_within_18 : decode cX6_within 18 = .ok (.ldc 62, 2) := by decide +kernel
theorem dX6_within_20 : decode cX6_within 20 = .ok (.invokevirtual 63, 3) := by decide +kernel
theorem dX6_within_23 : decode cX6_within 23 = .ok (.ireturn, 1) := by decide +kernel
theorem dX6_within_24 : decode cX6_within 24 = .ok (.aload_n 0, 1) := by decide +kernel
theorem dX6_within_25 : decode cX6_within 25 = .ok (.getfield 29, 3) := by decide +kernel
theorem dX6_within_28 : decode cX6_within 28 = .ok (.aload_n 0, 1) := by decide +kernel
theorem dX6_within_29 : decode cX6_within 29 = .ok (.getfield 12, 3) := by decide +kernel
theorem dX6_within_32 : decode cX6_within 32 = .ok (.invokevirtual 114, 3) := by decide +kernel
theorem dX6_within_35 : decode cX6_within 35 = .ok (.aload_n 0, 1) := by decide +kernel
theorem dX6_within_36 : decode cX6_within 36 = .ok (.getfield 36, 3) := by decide +kernel
theorem dX6_within_39 : decode cX6_within 39 = .ok (.iload_n 1, 1) := by decide +kernel
theorem dX6_within_40 : decode cX6_within 40 = .ok (.iload_n 2, 1) := by decide +kernel
theorem dX6_within_41 : decode cX6_within 41 = .ok (.aload_n 0, 1) := by decide +kernel
theorem dX6_within_42 : decode cX6_within 42 = .ok (.getfield 29, 3) := by decide +kernel
theorem dX6_within_45 : decode cX6_within 45 = .ok (.invokevirtual 214, 3) := by decide +kernel
theorem dX6_within_48 : decode cX6_within 48 = .ok (.aload_n 0, 1) := by decide +kernel
theorem dX6_within_49 : decode cX6_within 49 = .ok (.getfield 36, 3) := by decide +kernel
theorem dX6_within_52 : decode cX6_within 52 = .ok (.getfield 218, 3) := by decide +kernel
theorem dX6_within_55 : decode cX6_within 55 = .ok (.invokestatic 221, 3) := by decide +kernel
theorem dX6_within_58 : decode cX6_within 58 = .ok (.ireturn, 1) := by decide +kernel
theorem dX6_walk_0 : decode cX6_walk 0 = .ok (.iload_n 1, 1) := by decide +kernel
theorem dX6_walk_1 : decode cX6_walk 1 = .ok (.invokestatic 86, 3) := by decide +kernel
theorem dX6_walk_4 : decode cX6_walk 4 = .ok (.ifCond .eq 14, 3) := by decide +kernel
theorem dX6_walk_7 : decode cX6_walk 7 = .ok (.iload_n 2, 1) := by decide +kernel
theorem dX6_walk_8 : decode cX6_walk 8 = .ok (.iconst 1, 1) := by decide +kernel
theorem dX6_walk_9 : decode cX6_walk 9 = .ok (.if_icmp .lt 9, 3) := by decide +kernel
theorem dX6_walk_12 : decode cX6_walk 12 = .ok (.iload_n 2, 1) := by decide +kernel
theorem dX6_walk_13 : decode cX6_walk 13 = .ok (.bipush 12, 2) := by decide +kernel
theorem dX6_walk_15 : decode cX6_walk 15 = .ok (.if_icmp .le 10, 3) := by decide +kernel
theorem dX6_walk_18 : decode cX6_walk 18 = .ok (.aload_n 0, 1) := by decide +kernel
theorem dX6_walk_19 : decode cX6_walk 19 = .ok (.ldc 62, 2) := by decide +kernel
theorem dX6_walk_21 : decode cX6_walk 21 = .ok (.invokevirtual 63, 3) := by decide +kernel
theorem dX6_walk_24 : decode cX6_walk 24 = .ok (.ireturn, 1) := by decide +kernel
theorem dX6_walk_25 : decode cX6_walk 25 = .ok (.aload_n 0, 1) := by decide +kernel
theorem dX6_walk_26 : decode cX6_walk 26 = .ok (.getfield 29, 3) := by decide +kernel
theorem dX6_walk_29 : decode cX6_walk 29 = .ok (.aload_n 0, 1) := by decide +kernel
theorem dX6_walk_30 : decode cX6_walk 30 = .ok (.getfield 12, 3) := by decide +kernel
theorem dX6_walk_33 : decode cX6_walk 33 = .ok (.invokevirtual 114, 3) := by decide +kernel
theorem dX6_walk_36 : decode cX6_walk 36 = .ok (.aload_n 0, 1) := by decide +kernel
theorem dX6_walk_37 : decode cX6_walk 37 = .ok (.getfield 36, 3) := by decide +kernel
theorem dX6_walk_40 : decode cX6_walk 40 = .ok (.iload_n 1, 1) := by decide +kernel
theorem dX6_walk_41 : decode cX6_walk 41 = .ok (.iload_n 2, 1) := by decide +kernel
theorem dX6_walk_42 : decode cX6_walk 42 = .ok (.aload_n 0, 1) := by decide +kernel
theorem dX6_walk_43 : decode cX6_walk 43 = .ok (.getfield 29, 3) := by decide +kernel
theorem dX6_walk_46 : decode cX6_walk 46 = .ok (.invokevirtual 214, 3) := by decide +kernel
theorem dX6_walk_49 : decode cX6_walk 49 = .ok (.aload_n 0, 1) := by decide +kernel
theorem dX6_walk_50 : decode cX6_walk 50 = .ok (.aload_n 0, 1) := by decide +kernel
theorem dX6_walk_51 : decode cX6_walk 51 = .ok (.getfield 29, 3) := by decide +kernel
theorem dX6_walk_54 : decode cX6_walk 54 = .ok (.aload_n 0, 1) := by decide +kernel
theorem dX6_walk_55 : decode cX6_walk 55 = .ok (.getfield 36, 3) := by decide +kernel
theorem dX6_walk_58 : decode cX6_walk 58 = .ok (.getfield 218, 3) := by decide +kernel
theorem dX6_walk_61 : decode cX6_walk 61 = .ok (.invokevirtual 225, 3) := by decide +kernel
theorem dX6_walk_64 : decode cX6_walk 64 = .ok (.invokevirtual 137, 3) := by decide +kernel
theorem dX6_walk_67 : decode cX6_walk 67 = .ok (.ireturn, 1) := by decide +kernel
theorem dX6_now_0 : decode cX6_now 0 = .ok (.iload_n 1, 1) := by decide +kernel
theorem dX6_now_1 : decode cX6_now 1 = .ok (.tableswitch 63 0 3 #[31, 39, 47, 55], 31) := by decide +kernel
theorem dX6_now_32 : decode cX6_now 32 = .ok (.aload_n 0, 1) := by decide +kernel
theorem dX6_now_33 : decode cX6_now 33 = .ok (.getfield 12, 3) := by decide +kernel
theorem dX6_now_36 : decode cX6_now 36 = .ok (.getfield 194, 3) := by decide +kernel
theorem dX6_now_39 : decode cX6_now 39 = .ok (.ireturn, 1) := by decide +kernel
theorem dX6_now_40 : decode cX6_now 40 = .ok (.aload_n 0, 1) := by decide +kernel
theorem dX6_now_41 : decode cX6_now 41 = .ok (.getfield 12, 3) := by decide +kernel
theorem dX6_now_44 : decode cX6_now 44 = .ok (.getfield 148, 3) := by decide +kernel
theorem dX6_now_47 : decode cX6_now 47 = .ok (.ireturn, 1) := by decide +kernel
theorem dX6_now_48 : decode cX6_now 48 = .ok (.aload_n 0, 1) := by decide +kernel
theorem dX6_now_49 : decode cX6_now 49 = .ok (.getfield 12, 3) := by decide +kernel
theorem dX6_now_52 : decode cX6_now 52 = .ok (.invokevirtual 228, 3) := by decide +kernel
theorem dX6_now_55 : decode cX6_now 55 = .ok (.ireturn, 1) := by decide +kernel
theorem dX6_now_56 : decode cX6_now 56 = .ok (.aload_n 0, 1) := by decide +kernel
theorem dX6_now_57 : decode cX6_now 57 = .ok (.getfield 12, 3) := by decide +kernel
theorem dX6_now_60 : decode cX6_now 60 = .ok (.invokevirtual 231, 3) := by decide +kernel
theorem dX6_now_63 : decode cX6_now 63 = .ok (.ireturn, 1) := by decide +kernel
theorem dX6_now_64 : decode cX6_now 64 = .ok (.aload_n 0, 1) := by decide +kernel
theorem dX6_now_65 : decode cX6_now 65 = .ok (.ldc 62, 2) := by decide +kernel
theorem dX6_now_67 : decode cX6_now 67 = .ok (.invokevirtual 63, 3) := by decide +kernel
theorem dX6_now_70 : decode cX6_now 70 = .ok (.ireturn, 1) := by decide +kernel
theorem dX6_feed_0 : decode cX6_feed 0 = .ok (.iload_n 2, 1) := by decide +kernel
theorem dX6_feed_1 : decode cX6_feed 1 = .ok (.iconst 1, 1) := by decide +kernel
theorem dX6_feed_2 : decode cX6_feed 2 = .ok (.if_icmp .lt 8, 3) := by decide +kernel
theorem dX6_feed_5 : decode cX6_feed 5 = .ok (.iload_n 2, 1) := by decide +kernel
theorem dX6_feed_6 : decode cX6_feed 6 = .ok (.iconst 4, 1) := by decide +kernel
theorem dX6_feed_7 : decode cX6_feed 7 = .ok (.if_icmp .le 10, 3) := by decide +kernel
theorem dX6_feed_10 : decode cX6_feed 10 = .ok (.aload_n 0, 1) := by decide +kernel
theorem dX6_feed_11 : decode cX6_feed 11 = .ok (.ldc 62, 2) := by decide +kernel
theorem dX6_feed_13 : decode cX6_feed 13 = .ok (.invokevirtual 63, 3) := by decide +kernel
theorem dX6_feed_16 : decode cX6_feed 16 = .ok (.ireturn, 1) := by decide +kernel
theorem dX6_feed_17 : decode cX6_feed 17 = .ok (.aload_n 0, 1) := by decide +kernel
theorem dX6_feed_18 : decode cX6_feed 18 = .ok (.getfield 43, 3) := by decide +kernel
theorem dX6_feed_21 : decode cX6_feed 21 = .ok (.getfield 234, 3) := by decide +kernel
theorem dX6_feed_24 : decode cX6_feed 24 = .ok (.iload_n 2, 1) := by decide +kernel
theorem dX6_feed_25 : decode cX6_feed 25 = .ok (.iadd, 1) := by decide +kernel
theorem dX6_feed_26 : decode cX6_feed 26 = .ok (.bipush 120, 2) := by decide +kernel
theorem dX6_feed_28 : decode cX6_feed 28 = .ok (.if_icmp .le 10, 3) := by decide +kernel
theorem dX6_feed_31 : decode cX6_feed 31 = .ok (.aload_n 0, 1) := by decide +kernel
theorem dX6_feed_32 : decode cX6_feed 32 = .ok (.ldc 144, 2) := by decide +kernel
theorem dX6_feed_34 : decode cX6_feed 34 = .ok (.invokevirtual 63, 3) := by decide +kernel
theorem dX6_feed_37 : decode cX6_feed 37 = .ok (.ireturn, 1) := by decide +kernel
theorem dX6_feed_38 : decode cX6_feed 38 = .ok (.iload_n 2, 1) := by decide +kernel
theorem dX6_feed_39 : decode cX6_feed 39 = .ok (.iconst 1, 1) := by decide +kernel
theorem dX6_feed_40 : decode cX6_feed 40 = .ok (.isub, 1) := by decide +kernel
theorem dX6_feed_41 : decode cX6_feed 41 = .ok (.istore_n 3, 1) := by decide +kernel
theorem dX6_feed_42 : decode cX6_feed 42 = .ok (.iload_n 3, 1) := by decide +kernel
theorem dX6_feed_43 : decode cX6_feed 43 = .ok (.ifCond .lt 26, 3) := by decide +kernel
theorem dX6_feed_46 : decode cX6_feed 46 = .ok (.aload_n 0, 1) := by decide +kernel
theorem dX6_feed_47 : decode cX6_feed 47 = .ok (.getfield 43, 3) := by decide +kernel
theorem dX6_feed_50 : decode cX6_feed 50 = .ok (.iload_n 1, 1) := by decide +kernel
theorem dX6_feed_51 : decode cX6_feed 51 = .ok (.bipush 8, 2) := by decide +kernel
theorem dX6_feed_53 : decode cX6_feed 53 = .ok (.iload_n 3, 1) := by decide +kernel
theorem dX6_feed_54 : decode cX6_feed 54 = .ok (.imul, 1) := by decide +kernel
theorem dX6_feed_55 : decode cX6_feed 55 = .ok (.ishr, 1) := by decide +kernel
theorem dX6_feed_56 : decode cX6_feed 56 = .ok (.sipush 255, 3) := by decide +kernel
theorem dX6_feed_59 : decode cX6_feed 59 = .ok (.iand, 1) := by decide +kernel
theorem dX6_feed_60 : decode cX6_feed 60 = .ok (.invokevirtual 237, 3) := by decide +kernel
theorem dX6_feed_63 : decode cX6_feed 63 = .ok (.iinc 3 (-1), 3) := by decide +kernel
theorem dX6_feed_66 : decode cX6_feed 66 = .ok (.goto (-24), 3) := by decide +kernel
theorem dX6_feed_69 : decode cX6_feed 69 = .ok (.aload_n 0, 1) := by decide +kernel
theorem dX6_feed_70 : decode cX6_feed 70 = .ok (.getfield 43, 3) := by decide +kernel
theorem dX6_feed_73 : decode cX6_feed 73 = .ok (.getfield 234, 3) := by decide +kernel
theorem dX6_feed_76 : decode cX6_feed 76 = .ok (.ireturn, 1) := by decide +kernel
theorem dX6_wipe_0 : decode cX6_wipe 0 = .ok (.aload_n 0, 1) := by decide +kernel
theorem dX6_wipe_1 : decode cX6_wipe 1 = .ok (.getfield 43, 3) := by decide +kernel
theorem dX6_wipe_4 : decode cX6_wipe 4 = .ok (.getfield 234, 3) := by decide +kernel
theorem dX6_wipe_7 : decode cX6_wipe 7 = .ok (.istore_n 1, 1) := by decide +kernel
theorem dX6_wipe_8 : decode cX6_wipe 8 = .ok (.aload_n 0, 1) := by decide +kernel
theorem dX6_wipe_9 : decode cX6_wipe 9 = .ok (.getfield 43, 3) := by decide +kernel
theorem dX6_wipe_12 : decode cX6_wipe 12 = .ok (.iconst 0, 1) := by decide +kernel
theorem dX6_wipe_13 : decode cX6_wipe 13 = .ok (.putfield 234, 3) := by decide +kernel
theorem dX6_wipe_16 : decode cX6_wipe 16 = .ok (.iload_n 1, 1) := by decide +kernel
theorem dX6_wipe_17 : decode cX6_wipe 17 = .ok (.ireturn, 1) := by decide +kernel
theorem dX6_book_0 : decode cX6_book 0 = .ok (.aload_n 0, 1) := by decide +kernel
theorem dX6_book_1 : decode cX6_book 1 = .ok (.getfield 19, 3) := by decide +kernel
theorem dX6_book_4 : decode cX6_book 4 = .ok (.aload_n 0, 1) := by decide +kernel
theorem dX6_book_5 : decode cX6_book 5 = .ok (.getfield 12, 3) := by decide +kernel
theorem dX6_book_8 : decode cX6_book 8 = .ok (.invokevirtual 241, 3) := by decide +kernel
theorem dX6_book_11 : decode cX6_book 11 = .ok (.aload_n 0, 1) := by decide +kernel
theorem dX6_book_12 : decode cX6_book 12 = .ok (.getfield 43, 3) := by decide +kernel
theorem dX6_book_15 : decode cX6_book 15 = .ok (.aload_n 0, 1) := by decide +kernel
theorem dX6_book_16 : decode cX6_book 16 = .ok (.getfield 19, 3) := by decide +kernel
theorem dX6_book_19 : decode cX6_book 19 = .ok (.invokevirtual 244, 3) := by decide +kernel
theorem dX6_book_22 : decode cX6_book 22 = .ok (.istore_n 1, 1) := by decide +kernel
theorem dX6_book_23 : decode cX6_book 23 = .ok (.aload_n 0, 1) := by decide +kernel
theorem dX6_book_24 : decode cX6_book 24 = .ok (.getfield 43, 3) := by decide +kernel
theorem dX6_book_27 : decode cX6_book 27 = .ok (.iconst 0, 1) := by decide +kernel
theorem dX6_book_28 : decode cX6_book 28 = .ok (.putfield 234, 3) := by decide +kernel
theorem dX6_book_31 : decode cX6_book 31 = .ok (.iload_n 1, 1) := by decide +kernel
theorem dX6_book_32 : decode cX6_book 32 = .ok (.ifCond .lt 14, 3) := by decide +kernel
theorem dX6_book_35 : decode cX6_book 35 = .ok (.aload_n 0, 1) := by decide +kernel
theorem dX6_book_36 : decode cX6_book 36 = .ok (.getfield 12, 3) := by decide +kernel
theorem dX6_book_39 : decode cX6_book 39 = .ok (.aload_n 0, 1) := by decide +kernel
theorem dX6_book_40 : decode cX6_book 40 = .ok (.getfield 19, 3) := by decide +kernel
theorem dX6_book_43 : decode cX6_book 43 = .ok (.invokevirtual 241, 3) := by decide +kernel
theorem dX6_book_46 : decode cX6_book 46 = .ok (.iload_n 1, 1) := by decide +kernel
theorem dX6_book_47 : decode cX6_book 47 = .ok (.ireturn, 1) := by decide +kernel
theorem dX6_sheet_0 : decode cX6_sheet 0 = .ok (.iload_n 1, 1) := by decide +kernel
theorem dX6_sheet_1 : decode cX6_sheet 1 = .ok (.iconst 4, 1) := by decide +kernel
theorem dX6_sheet_2 : decode cX6_sheet 2 = .ok (.invokestatic 58, 3) := by decide +kernel
theorem dX6_sheet_5 : decode cX6_sheet 5 = .ok (.ifCond .eq 25, 3) := by decide +kernel
theorem dX6_sheet_8 : decode cX6_sheet 8 = .ok (.iload_n 2, 1) := by decide +kernel
theorem dX6_sheet_9 : decode cX6_sheet 9 = .ok (.ifCond .eq 28, 3) := by decide +kernel
theorem dX6_sheet_12 : decode cX6_sheet 12 = .ok (.iload_n 2, 1) := by decide +kernel
theorem dX6_sheet_13 : decode cX6_sheet 13 = .ok (.bipush 8, 2) := by decide +kernel
theorem dX6_sheet_15 : decode cX6_sheet 15 = .ok (.if_icmp .eq 22, 3) := by decide +kernel
theorem dX6_sheet_18 : decode cX6_sheet 18 = .ok (.iload_n 2, 1) := by decide +kernel
theorem dX6_sheet_19 : decode cX6_sheet 19 = .ok (.bipush 16, 2) := by decide +kernel
theorem dX6_sheet_21 : decode cX6_sheet 21 = .ok (.if_icmp .eq 16, 3) := by decide +kernel
theorem dX6_sheet_24 : decode cX6_sheet 24 = .ok (.iload_n 2, 1) := by decide +kernel
theorem dX6_sheet_25 : decode cX6_sheet 25 = .ok (.bipush 64, 2) := by decide +kernel
theorem dX6_sheet_27 : decode cX6_sheet 27 = .ok (.if_icmp .eq 10, 3) := by decide +kernel
theorem dX6_sheet_30 : decode cX6_sheet 30 = .ok (.aload_n 0, 1) := by decide +kernel
theorem dX6_sheet_31 : decode cX6_sheet 31 = .ok (.ldc 62, 2) := by decide +kernel
theorem dX6_sheet_33 : decode cX6_sheet 33 = .ok (.invokevirtual 63, 3) := by decide +kernel
theorem dX6_sheet_36 : decode cX6_sheet 36 = .ok (.ireturn, 1) := by decide +kernel
theorem dX6_sheet_37 : decode cX6_sheet 37 = .ok (.iload_n 3, 1) := by decide +kernel
theorem dX6_sheet_38 : decode cX6_sheet 38 = .ok (.ifCond .ge 10, 3) := by decide +kernel
theorem dX6_sheet_41 : decode cX6_sheet 41 = .ok (.aload_n 0, 1) := by decide +kernel
theorem dX6_sheet_42 : decode cX6_sheet 42 = .ok (.ldc 248, 2) := by decide +kernel
theorem dX6_sheet_44 : decode cX6_sheet 44 = .ok (.invokevirtual 63, 3) := by decide +kernel
theorem dX6_sheet_47 : decode cX6_sheet 47 = .ok (.ireturn, 1) := by decide +kernel
theorem dX6_sheet_48 : decode cX6_sheet 48 = .ok (.iload_n 3, 1) := by decide +kernel
theorem dX6_sheet_49 : decode cX6_sheet 49 = .ok (.bipush 40, 2) := by decide +kernel
theorem dX6_sheet_51 : decode cX6_sheet 51 = .ok (.if_icmp .le 10, 3) := by decide +kernel
theorem dX6_sheet_54 : decode cX6_sheet 54 = .ok (.aload_n 0, 1) := by decide +kernel
theorem dX6_sheet_55 : decode cX6_sheet 55 = .ok (.ldc 62, 2) := by decide +kernel
theorem dX6_sheet_57 : decode cX6_sheet 57 = .ok (.invokevirtual 63, 3) := by decide +kernel
theorem dX6_sheet_60 : decode cX6_sheet 60 = .ok (.ireturn, 1) := by decide +kernel
theorem dX6_sheet_61 : decode cX6_sheet 61 = .ok (.aload_n 0, 1) := by decide +kernel
theorem dX6_sheet_62 : decode cX6_sheet 62 = .ok (.getfield 49, 3) := by decide +kernel
theorem dX6_sheet_65 : decode cX6_sheet 65 = .ok (.iload_n 1, 1) := by decide +kernel
theorem dX6_sheet_66 : decode cX6_sheet 66 = .ok (.aaload, 1) := by decide +kernel
theorem dX6_sheet_67 : decode cX6_sheet 67 = .ok (.iload_n 2, 1) := by decide +kernel
theorem dX6_sheet_68 : decode cX6_sheet 68 = .ok (.iload_n 3, 1) := by decide +kernel
theorem dX6_sheet_69 : decode cX6_sheet 69 = .ok (.invokevirtual 249, 3) := by decide +kernel
theorem dX6_sheet_72 : decode cX6_sheet 72 = .ok (.aload_n 0, 1) := by decide +kernel
theorem dX6_sheet_73 : decode cX6_sheet 73 = .ok (.getfield 49, 3) := by decide +kernel
theorem dX6_sheet_76 : decode cX6_sheet 76 = .ok (.iload_n 1, 1) := by decide +kernel
theorem dX6_sheet_77 : decode cX6_sheet 77 = .ok (.aaload, 1) := by decide +kernel
theorem dX6_sheet_78 : decode cX6_sheet 78 = .ok (.getfield 253, 3) := by decide +kernel
theorem dX6_sheet_81 : decode cX6_sheet 81 = .ok (.ireturn, 1) := by decide +kernel
theorem dX6_write_0 : decode cX6_write 0 = .ok (.aload_n 0, 1) := by decide +kernel
theorem dX6_write_1 : decode cX6_write 1 = .ok (.iload_n 1, 1) := by decide +kernel
theorem dX6_write_2 : decode cX6_write 2 = .ok (.invokevirtual 254, 3) := by decide +kernel
theorem dX6_write_5 : decode cX6_write 5 = .ok (.istore 5, 2) := by decide +kernel
theorem dX6_write_7 : decode cX6_write 7 = .ok (.iload 5, 2) := by decide +kernel
theorem dX6_write_9 : decode cX6_write 9 = .ok (.ifCond .eq 11, 3) := by decide +kernel
theorem dX6_write_12 : decode cX6_write 12 = .ok (.aload_n 0, 1) := by decide +kernel
theorem dX6_write_13 : decode cX6_write 13 = .ok (.iload 5, 2) := by decide +kernel
theorem dX6_write_15 : decode cX6_write 15 = .ok (.invokevirtual 63, 3) := by decide +kernel
theorem dX6_write_18 : decode cX6_write 18 = .ok (.i2l, 1) := by decide +kernel
theorem dX6_write_19 : decode cX6_write 19 = .ok (.lreturn, 1) := by decide +kernel
theorem dX6_write_20 : decode cX6_write 20 = .ok (.aload_n 0, 1) := by decide +kernel
theorem dX6_write_21 : decode cX6_write 21 = .ok (.getfield 49, 3) := by decide +kernel
theorem dX6_write_24 : decode cX6_write 24 = .ok (.iload_n 1, 1) := by decide +kernel
theorem dX6_write_25 : decode cX6_write 25 = .ok (.aaload, 1) := by decide +kernel
theorem dX6_write_26 : decode cX6_write 26 = .ok (.astore 6, 2) := by decide +kernel
theorem dX6_write_28 : decode cX6_write 28 = .ok (.iload_n 2, 1) := by decide +kernel
theorem dX6_write_29 : decode cX6_write 29 = .ok (.aload 6, 2) := by decide +kernel
theorem dX6_write_31 : decode cX6_write 31 = .ok (.getfield 253, 3) := by decide +kernel
theorem dX6_write_34 : decode cX6_write 34 = .ok (.invokestatic 58, 3) := by decide +kernel
theorem dX6_write_37 : decode cX6_write 37 = .ok (.ifCond .ne 11, 3) := by decide +kernel
theorem dX6_write_40 : decode cX6_write 40 = .ok (.aload_n 0, 1) := by decide +kernel
theorem dX6_write_41 : decode cX6_write 41 = .ok (.ldc 62, 2) := by decide +kernel
theorem dX6_write_43 : decode cX6_write 43 = .ok (.invokevirtual 63, 3) := by decide +kernel
theorem dX6_write_46 : decode cX6_write 46 = .ok (.i2l, 1) := by decide +kernel
theorem dX6_write_47 : decode cX6_write 47 = .ok (.lreturn, 1) := by decide +kernel
theorem dX6_write_48 : decode cX6_write 48 = .ok (.aload 6, 2) := by decide +kernel
theorem dX6_write_50 : decode cX6_write 50 = .ok (.getfield 257, 3) := by decide +kernel
theorem dX6_write_53 : decode cX6_write 53 = .ok (.iload_n 2, 1) := by decide +kernel
theorem dX6_write_54 : decode cX6_write 54 = .ok (.laload, 1) := by decide +kernel
theorem dX6_write_55 : decode cX6_write 55 = .ok (.lstore 7, 2) := by decide +kernel
theorem dX6_write_57 : decode cX6_write 57 = .ok (.aload 6, 2) := by decide +kernel
theorem dX6_write_59 : decode cX6_write 59 = .ok (.iload_n 2, 1) := by decide +kernel
theorem dX6_write_60 : decode cX6_write 60 = .ok (.lload_n 3, 1) := by decide +kernel
theorem dX6_write_61 : decode cX6_write 61 = .ok (.invokevirtual 261, 3) := by decide +kernel
theorem dX6_write_64 : decode cX6_write 64 = .ok (.lload 7, 2) := by decide +kernel
theorem dX6_write_66 : decode cX6_write 66 = .ok (.lreturn, 1) := by decide +kernel
theorem dX6_copy_0 : decode cX6_copy 0 = .ok (.iload_n 1, 1) := by decide +kernel
theorem dX6_copy_1 : decode cX6_copy 1 = .ok (.iconst 4, 1) := by decide +kernel
theorem dX6_copy_2 : decode cX6_copy 2 = .ok (.invokestatic 58, 3) := by decide +kernel
theorem dX6_copy_5 : decode cX6_copy 5 = .ok (.ifCond .eq 11, 3) := by decide +kernel
theorem dX6_copy_8 : decode cX6_copy 8 = .ok (.iload_n 3, 1) := by decide +kernel
theorem dX6_copy_9 : decode cX6_copy 9 = .ok (.iconst 4, 1) := by decide +kernel
theorem dX6_copy_10 : decode cX6_copy 10 = .ok (.invokestatic 58, 3) := by decide +kernel
theorem dX6_copy_13 : decode cX6_copy 13 = .ok (.ifCond .ne 10, 3) := by decide +kernel
theorem dX6_copy_16 : decode cX6_copy 16 = .ok (.aload_n 0, 1) := by decide +kernel
theorem dX6_copy_17 : decode cX6_copy 17 = .ok (.ldc 62, 2) := by decide +kernel
theorem dX6_copy_19 : decode cX6_copy 19 = .ok (.invokevirtual 63, 3) := by decide +kernel
theorem dX6_copy_22 : decode cX6_copy 22 = .ok (.ireturn, 1) := by decide +kernel
theorem dX6_copy_23 : decode cX6_copy 23 = .ok (.aload_n 0, 1) := by decide +kernel
theorem dX6_copy_24 : decode cX6_copy 24 = .ok (.getfield 49, 3) := by decide +kernel
theorem dX6_copy_27 : decode cX6_copy 27 = .ok (.iload_n 1, 1) := by decide +kernel
theorem dX6_copy_28 : decode cX6_copy 28 = .ok (.aaload, 1) := by decide +kernel
theorem dX6_copy_29 : decode cX6_copy 29 = .ok (.astore 6, 2) := by decide +kernel
theorem dX6_copy_31 : decode cX6_copy 31 = .ok (.aload_n 0, 1) := by decide +kernel
theorem dX6_copy_32 : decode cX6_copy 32 = .ok (.getfield 49, 3) := by decide +kernel
theorem dX6_copy_35 : decode cX6_copy 35 = .ok (.iload_n 3, 1) := by decide +kernel
theorem dX6_copy_36 : decode cX6_copy 36 = .ok (.aaload, 1) := by decide +kernel
theorem dX6_copy_37 : decode cX6_copy 37 = .ok (.astore 7, 2) := by decide +kernel
theorem dX6_copy_39 : decode cX6_copy 39 = .ok (.aload 6, 2) := by decide +kernel
theorem dX6_copy_41 : decode cX6_copy 41 = .ok (.invokevirtual 264, 3) := by decide +kernel
theorem dX6_copy_44 : decode cX6_copy 44 = .ok (.ifCond .ne 11, 3) := by decide +kernel
theorem dX6_copy_47 : decode cX6_copy 47 = .ok (.aload 7, 2) := by decide +kernel
theorem dX6_copy_49 : decode cX6_copy 49 = .ok (.invokevirtual 264, 3) := by decide +kernel
theorem dX6_copy_52 : decode cX6_copy 52 = .ok (.ifCond .eq 11, 3) := by decide +kernel
theorem dX6_copy_55 : decode cX6_copy 55 = .ok (.aload_n 0, 1) := by decide +kernel
theorem dX6_copy_56 : decode cX6_copy 56 = .ok (.ldc_w 267, 3) := by decide +kernel
theorem dX6_copy_59 : decode cX6_copy 59 = .ok (.invokevirtual 63, 3) := by decide +kernel
theorem dX6_copy_62 : decode cX6_copy 62 = .ok (.ireturn, 1) := by decide +kernel
theorem dX6_copy_63 : decode cX6_copy 63 = .ok (.aload 6, 2) := by decide +kernel
theorem dX6_copy_65 : decode cX6_copy 65 = .ok (.getfield 268, 3) := by decide +kernel
theorem dX6_copy_68 : decode cX6_copy 68 = .ok (.aload 7, 2) := by decide +kernel
theorem dX6_copy_70 : decode cX6_copy 70 = .ok (.getfield 268, 3) := by decide +kernel
theorem dX6_copy_73 : decode cX6_copy 73 = .ok (.if_icmp .eq 10, 3) := by decide +kernel
theorem dX6_copy_76 : decode cX6_copy 76 = .ok (.aload_n 0, 1) := by decide +kernel
theorem dX6_copy_77 : decode cX6_copy 77 = .ok (.ldc 170, 2) := by decide +kernel
theorem dX6_copy_79 : decode cX6_copy 79 = .ok (.invokevirtual 63, 3) := by decide +kernel
theorem dX6_copy_82 : decode cX6_copy 82 = .ok (.ireturn, 1) := by decide +kernel
theorem dX6_copy_83 : decode cX6_copy 83 = .ok (.aload 6, 2) := by decide +kernel
theorem dX6_copy_85 : decode cX6_copy 85 = .ok (.iload_n 2, 1) := by decide +kernel
theorem dX6_copy_86 : decode cX6_copy 86 = .ok (.iload 5, 2) := by decide +kernel
theorem dX6_copy_88 : decode cX6_copy 88 = .ok (.invokevirtual 271, 3) := by decide +kernel
theorem dX6_copy_91 : decode cX6_copy 91 = .ok (.ifCond .eq 15, 3) := by decide +kernel
theorem dX6_copy_94 : decode cX6_copy 94 = .ok (.aload 7, 2) := by decide +kernel
theorem dX6_copy_96 : decode cX6_copy 96 = .ok (.iload 4, 2) := by decide +kernel
theorem dX6_copy_98 : decode cX6_copy 98 = .ok (.iload 5, 2) := by decide +kernel
theorem dX6_copy_100 : decode cX6_copy 100 = .ok (.invokevirtual 271, 3) := by decide +kernel
theorem dX6_copy_103 : decode cX6_copy 103 = .ok (.ifCond .ne 10, 3) := by decide +kernel
theorem dX6_copy_106 : decode cX6_copy 106 = .ok (.aload_n 0, 1) := by decide +kernel
theorem dX6_copy_107 : decode cX6_copy 107 = .ok (.ldc 62, 2) := by decide +kernel
theorem dX6_copy_109 : decode cX6_copy 109 = .ok (.invokevirtual 63, 3) := by decide +kernel
theorem dX6_copy_112 : decode cX6_copy 112 = .ok (.ireturn, 1) := by decide +kernel
theorem dX6_copy_113 : decode cX6_copy 113 = .ok (.aload 6, 2) := by decide +kernel
theorem dX6_copy_115 : decode cX6_copy 115 = .ok (.getfield 257, 3) := by decide +kernel
theorem dX6_copy_118 : decode cX6_copy 118 = .ok (.iload_n 2, 1) := by decide +kernel
theorem dX6_copy_119 : decode cX6_copy 119 = .ok (.aload 7, 2) := by decide +kernel
theorem dX6_copy_121 : decode cX6_copy 121 = .ok (.getfield 257, 3) := by decide +kernel
theorem dX6_copy_124 : decode cX6_copy 124 = .ok (.iload 4, 2) := by decide +kernel
theorem dX6_copy_126 : decode cX6_copy 126 = .ok (.iload 5, 2) := by decide +kernel
theorem dX6_copy_128 : decode cX6_copy 128 = .ok (.invokestatic 274, 3) := by decide +kernel
theorem dX6_copy_131 : decode cX6_copy 131 = .ok (.iload 5, 2) := by decide +kernel
theorem dX6_copy_133 : decode cX6_copy 133 = .ok (.ireturn, 1) := by decide +kernel
theorem dX6_lays_0 : decode cX6_lays 0 = .ok (.aload_n 0, 1) := by decide +kernel
theorem dX6_lays_1 : decode cX6_lays 1 = .ok (.iload_n 1, 1) := by decide +kernel
theorem dX6_lays_2 : decode cX6_lays 2 = .ok (.invokevirtual 254, 3) := by decide +kernel
theorem dX6_lays_5 : decode cX6_lays 5 = .ok (.istore_n 2, 1) := by decide +kernel
theorem dX6_lays_6 : decode cX6_lays 6 = .ok (.iload_n 2, 1) := by decide +kernel
theorem dX6_lays_7 : decode cX6_lays 7 = .ok (.ifCond .eq 9, 3) := by decide +kernel
theorem dX6_lays_10 : decode cX6_lays 10 = .ok (.aload_n 0, 1) := by decide +kernel
theorem dX6_lays_11 : decode cX6_lays 11 = .ok (.iload_n 2, 1) := by decide +kernel
theorem dX6_lays_12 : decode cX6_lays 12 = .ok (.invokevirtual 63, 3) := by decide +kernel
theorem dX6_lays_15 : decode cX6_lays 15 = .ok (.ireturn, 1) := by decide +kernel
theorem dX6_lays_16 : decode cX6_lays 16 = .ok (.aload_n 0, 1) := by decide +kernel
theorem dX6_lays_17 : decode cX6_lays 17 = .ok (.getfield 49, 3) := by decide +kernel
theorem dX6_lays_20 : decode cX6_lays 20 = .ok (.iload_n 1, 1) := by decide +kernel
theorem dX6_lays_21 : decode cX6_lays 21 = .ok (.aaload, 1) := by decide +kernel
theorem dX6_lays_22 : decode cX6_lays 22 = .ok (.astore_n 3, 1) := by decide +kernel
theorem dX6_lays_23 : decode cX6_lays 23 = .ok (.iconst 0, 1) := by decide +kernel
theorem dX6_lays_24 : decode cX6_lays 24 = .ok (.istore 4, 2) := by decide +kernel
theorem dX6_lays_26 : decode cX6_lays 26 = .ok (.iconst 0, 1) := by decide +kernel
theorem dX6_lays_27 : decode cX6_lays 27 = .ok (.istore 5, 2) := by decide +kernel
theorem dX6_lays_29 : decode cX6_lays 29 = .ok (.iload 5, 2) := by decide +kernel
theorem dX6_lays_31 : decode cX6_lays 31 = .ok (.aload_n 3, 1) := by decide +kernel
theorem dX6_lays_32 : decode cX6_lays 32 = .ok (.getfield 253, 3) := by decide +kernel
theorem dX6_lays_35 : decode cX6_lays 35 = .ok (.if_icmp .ge 57, 3) := by decide +kernel
theorem dX6_lays_38 : decode cX6_lays 38 = .ok (.iload 5, 2) := by decide +kernel
theorem dX6_lays_40 : decode cX6_lays 40 = .ok (.bipush 8, 2) := by decide +kernel
theorem dX6_lays_42 : decode cX6_lays 42 = .ok (.if_icmp .ge 50, 3) := by decide +kernel
theorem dX6_lays_45 : decode cX6_lays 45 = .ok (.aload_n 3, 1) := by decide +kernel
theorem dX6_lays_46 : decode cX6_lays 46 = .ok (.getfield 257, 3) := by decide +kernel
theorem dX6_lays_49 : decode cX6_lays 49 = .ok (.iload 5, 2) := by decide +kernel
theorem dX6_lays_51 : decode cX6_lays 51 = .ok (.laload, 1) := by decide +kernel
theorem dX6_lays_52 : decode cX6_lays 52 = .ok (.lstore 6, 2) := by decide +kernel
theorem dX6_lays_54 : decode cX6_lays 54 = .ok (.lload 6, 2) := by decide +kernel
theorem dX6_lays_56 : decode cX6_lays 56 = .ok (.lconst 0, 1) := by decide +kernel
theorem dX6_lays_57 : decode cX6_lays 57 = .ok (.lcmp, 1) := by decide +kernel
theorem dX6_lays_58 : decode cX6_lays 58 = .ok (.ifCond .lt 28, 3) := by decide +kernel
theorem dX6_lays_61 : decode cX6_lays 61 = .ok (.lload 6, 2) := by decide +kernel
theorem dX6_lays_63 : decode cX6_lays 63 = .ok (.ldc2_w 280, 3) := by decide +kernel
theorem dX6_lays_66 : decode cX6_lays 66 = .ok (.lcmp, 1) := by decide +kernel
theorem dX6_lays_67 : decode cX6_lays 67 = .ok (.ifCond .gt 19, 3) := by decide +kernel
theorem dX6_lays_70 : decode cX6_lays 70 = .ok (.aload_n 0, 1) := by decide +kernel
theorem dX6_lays_71 : decode cX6_lays 71 = .ok (.getfield 12, 3) := by decide +kernel
theorem dX6_lays_74 : decode cX6_lays 74 = .ok (.getfield 67, 3) := by decide +kernel
theorem dX6_lays_77 : decode cX6_lays 77 = .ok (.iload 5, 2) := by decide +kernel
theorem dX6_lays_79 : decode cX6_lays 79 = .ok (.lload 6, 2) := by decide +kernel
theorem dX6_lays_81 : decode cX6_lays 81 = .ok (.l2i, 1) := by decide +kernel
theorem dX6_lays_82 : decode cX6_lays 82 = .ok (.iastore, 1) := by decide +kernel
theorem dX6_lays_83 : decode cX6_lays 83 = .ok (.iinc 4 1, 3) := by decide +kernel
theorem dX6_lays_86 : decode cX6_lays 86 = .ok (.iinc 5 1, 3) := by decide +kernel
theorem dX6_lays_89 : decode cX6_lays 89 = .ok (.goto (-60), 3) := by decide +kernel
theorem dX6_lays_92 : decode cX6_lays 92 = .ok (.iload 4, 2) := by decide +kernel
theorem dX6_lays_94 : decode cX6_lays 94 = .ok (.ireturn, 1) := by decide +kernel
theorem dX6_menu_0 : decode cX6_menu 0 = .ok (.aload_n 0, 1) := by decide +kernel
theorem dX6_menu_1 : decode cX6_menu 1 = .ok (.iload_n 1, 1) := by decide +kernel
theorem dX6_menu_2 : decode cX6_menu 2 = .ok (.iload_n 2, 1) := by decide +kernel
theorem dX6_menu_3 : decode cX6_menu 3 = .ok (.invokevirtual 282, 3) := by decide +kernel
theorem dX6_menu_6 : decode cX6_menu 6 = .ok (.istore_n 3, 1) := by decide +kernel
theorem dX6_menu_7 : decode cX6_menu 7 = .ok (.iload_n 3, 1) := by decide +kernel
theorem dX6_menu_8 : decode cX6_menu 8 = .ok (.ifCond .eq 9, 3) := by decide +kernel
theorem dX6_menu_11 : decode cX6_menu 11 = .ok (.aload_n 0, 1) := by decide +kernel
theorem dX6_menu_12 : decode cX6_menu 12 = .ok (.iload_n 3, 1) := by decide +kernel
theorem dX6_menu_13 : decode cX6_menu 13 = .ok (.invokevirtual 63, 3) := by decide +kernel
theorem dX6_menu_16 : decode cX6_menu 16 = .ok (.ireturn, 1) := by decide +kernel
theorem dX6_menu_17 : decode cX6_menu 17 = .ok (.aload_n 0, 1) := by decide +kernel
theorem dX6_menu_18 : decode cX6_menu 18 = .ok (.getfield 49, 3) := by decide +kernel
theorem dX6_menu_21 : decode cX6_menu 21 = .ok (.iload_n 1, 1) := by decide +kernel
theorem dX6_menu_22 : decode cX6_menu 22 = .ok (.aaload, 1) := by decide +kernel
theorem dX6_menu_23 : decode cX6_menu 23 = .ok (.astore 4, 2) := by decide +kernel
theorem dX6_menu_25 : decode cX6_menu 25 = .ok (.aload_n 0, 1) := by decide +kernel
theorem dX6_menu_26 : decode cX6_menu 26 = .ok (.getfield 29, 3) := by decide +kernel
theorem dX6_menu_29 : decode cX6_menu 29 = .ok (.aload_n 0, 1) := by decide +kernel
theorem dX6_menu_30 : decode cX6_menu 30 = .ok (.getfield 12, 3) := by decide +kernel
theorem dX6_menu_33 : decode cX6_menu 33 = .ok (.invokevirtual 114, 3) := by decide +kernel
theorem dX6_menu_36 : decode cX6_menu 36 = .ok (.iconst 0, 1) := by decide +kernel
theorem dX6_menu_37 : decode cX6_menu 37 = .ok (.istore 5, 2) := by decide +kernel
theorem dX6_menu_39 : decode cX6_menu 39 = .ok (.iload 5, 2) := by decide +kernel
theorem dX6_menu_41 : decode cX6_menu 41 = .ok (.aload 4, 2) := by decide +kernel
theorem dX6_menu_43 : decode cX6_menu 43 = .ok (.getfield 253, 3) := by decide +kernel
theorem dX6_menu_46 : decode cX6_menu 46 = .ok (.if_icmp .ge 37, 3) := by decide +kernel
theorem dX6_menu_49 : decode cX6_menu 49 = .ok (.aload_n 0, 1) := by decide +kernel
theorem dX6_menu_50 : decode cX6_menu 50 = .ok (.getfield 29, 3) := by decide +kernel
theorem dX6_menu_53 : decode cX6_menu 53 = .ok (.iload_n 2, 1) := by decide +kernel
theorem dX6_menu_54 : decode cX6_menu 54 = .ok (.invokevirtual 201, 3) := by decide +kernel
theorem dX6_menu_57 : decode cX6_menu 57 = .ok (.istore 6, 2) := by decide +kernel
theorem dX6_menu_59 : decode cX6_menu 59 = .ok (.iload 6, 2) := by decide +kernel
theorem dX6_menu_61 : decode cX6_menu 61 = .ok (.ifCond .ge 6, 3) := by decide +kernel
theorem dX6_menu_64 : decode cX6_menu 64 = .ok (.iload 5, 2) := by decide +kernel
theorem dX6_menu_66 : decode cX6_menu 66 = .ok (.ireturn, 1) := by decide +kernel
theorem dX6_menu_67 : decode cX6_menu 67 = .ok (.aload 4, 2) := by decide +kernel
theorem dX6_menu_69 : decode cX6_menu 69 = .ok (.iload 5, 2) := by decide +kernel
theorem dX6_menu_71 : decode cX6_menu 71 = .ok (.iload 6, 2) := by decide +kernel
theorem dX6_menu_73 : decode cX6_menu 73 = .ok (.i2l, 1) := by decide +kernel
theorem dX6_menu_74 : decode cX6_menu 74 = .ok (.invokevirtual 261, 3) := by decide +kernel
theorem dX6_menu_77 : decode cX6_menu 77 = .ok (.iinc 5 1, 3) := by decide +kernel
theorem dX6_menu_80 : decode cX6_menu 80 = .ok (.goto (-41), 3) := by decide +kernel
theorem dX6_menu_83 : decode cX6_menu 83 = .ok (.aload 4, 2) := by decide +kernel
theorem dX6_menu_85 : decode cX6_menu 85 = .ok (.getfield 253, 3) := by decide +kernel
theorem dX6_menu_88 : decode cX6_menu 88 = .ok (.ireturn, 1) := by decide +kernel
theorem dX6_read_0 : decode cX6_read 0 = .ok (.aload_n 0, 1) := by decide +kernel
theorem dX6_read_1 : decode cX6_read 1 = .ok (.iload_n 1, 1) := by decide +kernel
theorem dX6_read_2 : decode cX6_read 2 = .ok (.iload_n 2, 1) := by decide +kernel
theorem dX6_read_3 : decode cX6_read 3 = .ok (.invokevirtual 282, 3) := by decide +kernel
theorem dX6_read_6 : decode cX6_read 6 = .ok (.istore_n 3, 1) := by decide +kernel
theorem dX6_read_7 : decode cX6_read 7 = .ok (.iload_n 3, 1) := by decide +kernel
theorem dX6_read_8 : decode cX6_read 8 = .ok (.ifCond .eq 9, 3) := by decide +kernel
theorem dX6_read_11 : decode cX6_read 11 = .ok (.aload_n 0, 1) := by decide +kernel
theorem dX6_read_12 : decode cX6_read 12 = .ok (.iload_n 3, 1) := by decide +kernel
theorem dX6_read_13 : decode cX6_read 13 = .ok (.invokevirtual 63, 3) := by decide +kernel
theorem dX6_read_16 : decode cX6_read 16 = .ok (.ireturn, 1) := by decide +kernel
theorem dX6_read_17 : decode cX6_read 17 = .ok (.aload_n 0, 1) := by decide +kernel
theorem dX6_read_18 : decode cX6_read 18 = .ok (.getfield 49, 3) := by decide +kernel
theorem dX6_read_21 : decode cX6_read 21 = .ok (.iload_n 1, 1) := by decide +kernel
theorem dX6_read_22 : decode cX6_read 22 = .ok (.aaload, 1) := by decide +kernel
theorem dX6_read_23 : decode cX6_read 23 = .ok (.astore 4, 2) := by decide +kernel
theorem dX6_read_25 : decode cX6_read 25 = .ok (.aload_n 0, 1) := by decide +kernel
theorem dX6_read_26 : decode cX6_read 26 = .ok (.getfield 29, 3) := by decide +kernel
theorem dX6_read_29 : decode cX6_read 29 = .ok (.aload_n 0, 1) := by decide +kernel
theorem dX6_read_30 : decode cX6_read 30 = .ok (.getfield 12, 3) := by decide +kernel
theorem dX6_read_33 : decode cX6_read 33 = .ok (.invokevirtual 114, 3) := by decide +kernel
theorem dX6_read_36 : decode cX6_read 36 = .ok (.iconst 0, 1) := by decide +kernel
theorem dX6_read_37 : decode cX6_read 37 = .ok (.istore 5, 2) := by decide +kernel
theorem dX6_read_39 : decode cX6_read 39 = .ok (.iload 5, 2) := by decide +kernel
theorem dX6_read_41 : decode cX6_read 41 = .ok (.aload 4, 2) := by decide +kernel
theorem dX6_read_43 : decode cX6_read 43 = .ok (.getfield 253, 3) := by decide +kernel
theorem dX6_read_46 : decode cX6_read 46 = .ok (.if_icmp .ge 74, 3) := by decide +kernel
theorem dX6_read_49 : decode cX6_read 49 = .ok (.aload 4, 2) := by decide +kernel
theorem dX6_read_51 : decode cX6_read 51 = .ok (.getfield 257, 3) := by decide +kernel
theorem dX6_read_54 : decode cX6_read 54 = .ok (.iload 5, 2) := by decide +kernel
theorem dX6_read_56 : decode cX6_read 56 = .ok (.laload, 1) := by decide +kernel
theorem dX6_read_57 : decode cX6_read 57 = .ok (.lstore 6, 2) := by decide +kernel
theorem dX6_read_59 : decode cX6_read 59 = .ok (.lload 6, 2) := by decide +kernel
theorem dX6_read_61 : decode cX6_read 61 = .ok (.lconst 0, 1) := by decide +kernel
theorem dX6_read_62 : decode cX6_read 62 = .ok (.lcmp, 1) := by decide +kernel
theorem dX6_read_63 : decode cX6_read 63 = .ok (.ifCond .lt 35, 3) := by decide +kernel
theorem dX6_read_66 : decode cX6_read 66 = .ok (.lload 6, 2) := by decide +kernel
theorem dX6_read_68 : decode cX6_read 68 = .ok (.ldc2_w 285, 3) := by decide +kernel
theorem dX6_read_71 : decode cX6_read 71 = .ok (.lcmp, 1) := by decide +kernel
theorem dX6_read_72 : decode cX6_read 72 = .ok (.ifCond .gt 26, 3) := by decide +kernel
theorem dX6_read_75 : decode cX6_read 75 = .ok (.lload 6, 2) := by decide +kernel
theorem dX6_read_77 : decode cX6_read 77 = .ok (.l2i, 1) := by decide +kernel
theorem dX6_read_78 : decode cX6_read 78 = .ok (.invokestatic 86, 3) := by decide +kernel
theorem dX6_read_81 : decode cX6_read 81 = .ok (.ifCond .eq 17, 3) := by decide +kernel
theorem dX6_read_84 : decode cX6_read 84 = .ok (.aload_n 0, 1) := by decide +kernel
theorem dX6_read_85 : decode cX6_read 85 = .ok (.getfield 29, 3) := by decide +kernel
theorem dX6_read_88 : decode cX6_read 88 = .ok (.iload_n 2, 1) := by decide +kernel
theorem dX6_read_89 : decode cX6_read 89 = .ok (.lload 6, 2) := by decide +kernel
theorem dX6_read_91 : decode cX6_read 91 = .ok (.l2i, 1) := by decide +kernel
theorem dX6_read_92 : decode cX6_read 92 = .ok (.invokevirtual 287, 3) := by decide +kernel
theorem dX6_read_95 : decode cX6_read 95 = .ok (.ifCond .ne 8, 3) := by decide +kernel
theorem dX6_read_98 : decode cX6_read 98 = .ok (.iconst 1, 1) := by decide +kernel
theorem dX6_read_99 : decode cX6_read 99 = .ok (.iload 5, 2) := by decide +kernel
theorem dX6_read_101 : decode cX6_read 101 = .ok (.iadd, 1) := by decide +kernel
theorem dX6_read_102 : decode cX6_read 102 = .ok (.ireturn, 1) := by decide +kernel
theorem dX6_read_103 : decode cX6_read 103 = .ok (.aload_n 0, 1) := by decide +kernel
theorem dX6_read_104 : decode cX6_read 104 = .ok (.getfield 29, 3) := by decide +kernel
theorem dX6_read_107 : decode cX6_read 107 = .ok (.iload_n 2, 1) := by decide +kernel
theorem dX6_read_108 : decode cX6_read 108 = .ok (.lload 6, 2) := by decide +kernel
theorem dX6_read_110 : decode cX6_read 110 = .ok (.l2i, 1) := by decide +kernel
theorem dX6_read_111 : decode cX6_read 111 = .ok (.invokevirtual 290, 3) := by decide +kernel
theorem dX6_read_114 : decode cX6_read 114 = .ok (.iinc 5 1, 3) := by decide +kernel
theorem dX6_read_117 : decode cX6_read 117 = .ok (.goto (-78), 3) := by decide +kernel
theorem dX6_read_120 : decode cX6_read 120 = .ok (.iconst 0, 1) := by decide +kernel
theorem dX6_read_121 : decode cX6_read 121 = .ok (.ireturn, 1) := by decide +kernel
theorem dX6_image_0 : decode cX6_image 0 = .ok (.aload_n 0, 1) := by decide +kernel
theorem dX6_image_1 : decode cX6_image 1 = .ok (.getfield 16, 3) := by decide +kernel
theorem dX6_image_4 : decode cX6_image 4 = .ok (.aload_n 0, 1) := by decide +kernel
theorem dX6_image_5 : decode cX6_image 5 = .ok (.getfield 12, 3) := by decide +kernel
theorem dX6_image_8 : decode cX6_image 8 = .ok (.invokevirtual 241, 3) := by decide +kernel
theorem dX6_image_11 : decode cX6_image 11 = .ok (.aload_n 0, 1) := by decide +kernel
theorem dX6_image_12 : decode cX6_image 12 = .ok (.iconst 1, 1) := by decide +kernel
theorem dX6_image_13 : decode cX6_image 13 = .ok (.putfield 22, 3) := by decide +kernel
theorem dX6_image_16 : decode cX6_image 16 = .ok (.iconst 1, 1) := by decide +kernel
theorem dX6_image_17 : decode cX6_image 17 = .ok (.ireturn, 1) := by decide +kernel
theorem dX6_undo_0 : decode cX6_undo 0 = .ok (.aload_n 0, 1) := by decide +kernel
theorem dX6_undo_1 : decode cX6_undo 1 = .ok (.getfield 22, 3) := by decide +kernel
theorem dX6_undo_4 : decode cX6_undo 4 = .ok (.ifCond .ne 10, 3) := by decide +kernel
theorem dX6_undo_7 : decode cX6_undo 7 = .ok (.aload_n 0, 1) := by decide +kernel
theorem dX6_undo_8 : decode cX6_undo 8 = .ok (.ldc 171, 2) := by decide +kernel
theorem dX6_undo_10 : decode cX6_undo 10 = .ok (.invokevirtual 63, 3) := by decide +kernel
theorem dX6_undo_13 : decode cX6_undo 13 = .ok (.ireturn, 1) := by decide +kernel
theorem dX6_undo_14 : decode cX6_undo 14 = .ok (.aload_n 0, 1) := by decide +kernel
theorem dX6_undo_15 : decode cX6_undo 15 = .ok (.getfield 12, 3) := by decide +kernel
theorem dX6_undo_18 : decode cX6_undo 18 = .ok (.aload_n 0, 1) := by decide +kernel
theorem dX6_undo_19 : decode cX6_undo 19 = .ok (.getfield 16, 3) := by decide +kernel
theorem dX6_undo_22 : decode cX6_undo 22 = .ok (.invokevirtual 241, 3) := by decide +kernel
theorem dX6_undo_25 : decode cX6_undo 25 = .ok (.aload_n 0, 1) := by decide +kernel
theorem dX6_undo_26 : decode cX6_undo 26 = .ok (.getfield 12, 3) := by decide +kernel
theorem dX6_undo_29 : decode cX6_undo 29 = .ok (.getfield 148, 3) := by decide +kernel
theorem dX6_undo_32 : decode cX6_undo 32 = .ok (.ireturn, 1) := by decide +kernel
theorem dX6_tear_0 : decode cX6_tear 0 = .ok (.aload_n 0, 1) := by decide +kernel
theorem dX6_tear_1 : decode cX6_tear 1 = .ok (.getfield 22, 3) := by decide +kernel
theorem dX6_tear_4 : decode cX6_tear 4 = .ok (.ifCond .eq 7, 3) := by decide +kernel
theorem dX6_tear_7 : decode cX6_tear 7 = .ok (.iconst 1, 1) := by decide +kernel
theorem dX6_tear_8 : decode cX6_tear 8 = .ok (.goto 4, 3) := by decide +kernel
theorem dX6_tear_11 : decode cX6_tear 11 = .ok (.iconst 0, 1) := by decide +kernel
theorem dX6_tear_12 : decode cX6_tear 12 = .ok (.istore_n 1, 1) := by decide +kernel
theorem dX6_tear_13 : decode cX6_tear 13 = .ok (.aload_n 0, 1) := by decide +kernel
theorem dX6_tear_14 : decode cX6_tear 14 = .ok (.iconst 0, 1) := by decide +kernel
theorem dX6_tear_15 : decode cX6_tear 15 = .ok (.putfield 22, 3) := by decide +kernel
theorem dX6_tear_18 : decode cX6_tear 18 = .ok (.iload_n 1, 1) := by decide +kernel
theorem dX6_tear_19 : decode cX6_tear 19 = .ok (.ireturn, 1) := by decide +kernel
theorem dX6_count_0 : decode cX6_count 0 = .ok (.iload_n 1, 1) := by decide +kernel
theorem dX6_count_1 : decode cX6_count 1 = .ok (.lookupswitch 46 #[(0, 27), (1, 35)], 27) := by decide +kernel
theorem dX6_count_28 : decode cX6_count 28 = .ok (.aload_n 0, 1) := by decide +kernel
theorem dX6_count_29 : decode cX6_count 29 = .ok (.getfield 43, 3) := by decide +kernel
theorem dX6_count_32 : decode cX6_count 32 = .ok (.getfield 234, 3) := by decide +kernel
theorem dX6_count_35 : decode cX6_count 35 = .ok (.ireturn, 1) := by decide +kernel
theorem dX6_count_36 : decode cX6_count 36 = .ok (.aload_n 0, 1) := by decide +kernel
theorem dX6_count_37 : decode cX6_count 37 = .ok (.getfield 12, 3) := by decide +kernel
theorem dX6_count_40 : decode cX6_count 40 = .ok (.getfield 161, 3) := by decide +kernel
theorem dX6_count_43 : decode cX6_count 43 = .ok (.invokestatic 293, 3) := by decide +kernel
theorem dX6_count_46 : decode cX6_count 46 = .ok (.ireturn, 1) := by decide +kernel
theorem dX6_count_47 : decode cX6_count 47 = .ok (.aload_n 0, 1) := by decide +kernel
theorem dX6_count_48 : decode cX6_count 48 = .ok (.ldc 62, 2) := by decide +kernel
theorem dX6_count_50 : decode cX6_count 50 = .ok (.invokevirtual 63, 3) := by decide +kernel
theorem dX6_count_53 : decode cX6_count 53 = .ok (.ireturn, 1) := by decide +kernel
theorem dX6_status_0 : decode cX6_status 0 = .ok (.iload_n 1, 1) := by decide +kernel
theorem dX6_status_1 : decode cX6_status 1 = .ok (.iconst (-1), 1) := by decide +kernel
theorem dX6_status_2 : decode cX6_status 2 = .ok (.if_icmp .lt 9, 3) := by decide +kernel
theorem dX6_status_5 : decode cX6_status 5 = .ok (.iload_n 1, 1) := by decide +kernel
theorem dX6_status_6 : decode cX6_status 6 = .ok (.bipush 7, 2) := by decide +kernel
theorem dX6_status_8 : decode cX6_status 8 = .ok (.if_icmp .lt 10, 3) := by decide +kernel
theorem dX6_status_11 : decode cX6_status 11 = .ok (.aload_n 0, 1) := by decide +kernel
theorem dX6_status_12 : decode cX6_status 12 = .ok (.ldc 62, 2) := by decide +kernel
theorem dX6_status_14 : decode cX6_status 14 = .ok (.invokevirtual 63, 3) := by decide +kernel
theorem dX6_status_17 : decode cX6_status 17 = .ok (.ireturn, 1) := by decide +kernel
theorem dX6_status_18 : decode cX6_status 18 = .ok (.iload_n 1, 1) := by decide +kernel
theorem dX6_status_19 : decode cX6_status 19 = .ok (.ifCond .lt 10, 3) := by decide +kernel
theorem dX6_status_22 : decode cX6_status 22 = .ok (.aload_n 0, 1) := by decide +kernel
theorem dX6_status_23 : decode cX6_status 23 = .ok (.getfield 53, 3) := by decide +kernel
theorem dX6_status_26 : decode cX6_status 26 = .ok (.iload_n 1, 1) := by decide +kernel
theorem dX6_status_27 : decode cX6_status 27 = .ok (.iaload, 1) := by decide +kernel
theorem dX6_status_28 : decode cX6_status 28 = .ok (.ireturn, 1) := by decide +kernel
theorem dX6_status_29 : decode cX6_status 29 = .ok (.iconst 0, 1) := by decide +kernel
theorem dX6_status_30 : decode cX6_status 30 = .ok (.istore_n 2, 1) := by decide +kernel
theorem dX6_status_31 : decode cX6_status 31 = .ok (.iconst 0, 1) := by decide +kernel
theorem dX6_status_32 : decode cX6_status 32 = .ok (.istore_n 3, 1) := by decide +kernel
theorem dX6_status_33 : decode cX6_status 33 = .ok (.iload_n 3, 1) := by decide +kernel
theorem dX6_status_34 : decode cX6_status 34 = .ok (.bipush 7, 2) := by decide +kernel
theorem dX6_status_36 : decode cX6_status 36 = .ok (.if_icmp .ge 18, 3) := by decide +kernel
theorem dX6_status_39 : decode cX6_status 39 = .ok (.iload_n 2, 1) := by decide +kernel
theorem dX6_status_40 : decode cX6_status 40 = .ok (.aload_n 0, 1) := by decide +kernel
theorem dX6_status_41 : decode cX6_status 41 = .ok (.getfield 53, 3) := by decide +kernel
theorem dX6_status_44 : decode cX6_status 44 = .ok (.iload_n 3, 1) := by decide +kernel
theorem dX6_status_45 : decode cX6_status 45 = .ok (.iaload, 1) := by decide +kernel
theorem dX6_status_46 : decode cX6_status 46 = .ok (.iadd, 1) := by decide +kernel
theorem dX6_status_47 : decode cX6_status 47 = .ok (.istore_n 2, 1) := by decide +kernel
theorem dX6_status_48 : decode cX6_status 48 = .ok (.iinc 3 1, 3) := by decide +kernel
theorem dX6_status_51 : decode cX6_status 51 = .ok (.goto (-18), 3) := by decide +kernel
theorem dX6_status_54 : decode cX6_status 54 = .ok (.iload_n 2, 1) := by decide +kernel
theorem dX6_status_55 : decode cX6_status 55 = .ok (.ireturn, 1) := by decide +kernel
theorem dX6_finding_0 : decode cX6_finding 0 = .ok (.ldc 62, 2) := by decide +kernel
theorem dX6_finding_2 : decode cX6_finding 2 = .ok (.iload_n 1, 1) := by decide +kernel
theorem dX6_finding_3 : decode cX6_finding 3 = .ok (.isub, 1) := by decide +kernel
theorem dX6_finding_4 : decode cX6_finding 4 = .ok (.istore_n 2, 1) := by decide +kernel
theorem dX6_finding_5 : decode cX6_finding 5 = .ok (.iload_n 2, 1) := by decide +kernel
theorem dX6_finding_6 : decode cX6_finding 6 = .ok (.bipush 7, 2) := by decide +kernel
theorem dX6_finding_8 : decode cX6_finding 8 = .ok (.invokestatic 58, 3) := by decide +kernel
theorem dX6_finding_11 : decode cX6_finding 11 = .ok (.ifCond .eq 13, 3) := by decide +kernel
theorem dX6_finding_14 : decode cX6_finding 14 = .ok (.aload_n 0, 1) := by decide +kernel
theorem dX6_finding_15 : decode cX6_finding 15 = .ok (.getfield 53, 3) := by decide +kernel
theorem dX6_finding_18 : decode cX6_finding 18 = .ok (.iload_n 2, 1) := by decide +kernel
theorem dX6_finding_19 : decode cX6_finding 19 = .ok (.dup2, 1) := by decide +kernel
theorem dX6_finding_20 : decode cX6_finding 20 = .ok (.iaload, 1) := by decide +kernel
theorem dX6_finding_21 : decode cX6_finding 21 = .ok (.iconst 1, 1) := by decide +kernel
theorem dX6_finding_22 : decode cX6_finding 22 = .ok (.iadd, 1) := by decide +kernel
theorem dX6_finding_23 : decode cX6_finding 23 = .ok (.iastore, 1) := by decide +kernel
theorem dX6_finding_24 : decode cX6_finding 24 = .ok (.iload_n 1, 1) := by decide +kernel
theorem dX6_finding_25 : decode cX6_finding 25 = .ok (.ireturn, 1) := by decide +kernel
theorem dX6_orNone_0 : decode cX6_orNone 0 = .ok (.iload_n 1, 1) := by decide +kernel
theorem dX6_orNone_1 : decode cX6_orNone 1 = .ok (.ifCond .ge 12, 3) := by decide +kernel
theorem dX6_orNone_4 : decode cX6_orNone 4 = .ok (.aload_n 0, 1) := by decide +kernel
theorem dX6_orNone_5 : decode cX6_orNone 5 = .ok (.ldc 171, 2) := by decide +kernel
theorem dX6_orNone_7 : decode cX6_orNone 7 = .ok (.invokevirtual 63, 3) := by decide +kernel
theorem dX6_orNone_10 : decode cX6_orNone 10 = .ok (.goto 4, 3) := by decide +kernel
theorem dX6_orNone_13 : decode cX6_orNone 13 = .ok (.iload_n 1, 1) := by decide +kernel
theorem dX6_orNone_14 : decode cX6_orNone 14 = .ok (.ireturn, 1) := by decide +kernel
theorem dX6_sheetFault_0 : decode cX6_sheetFault 0 = .ok (.iload_n 1, 1) := by decide +kernel
theorem dX6_sheetFault_1 : decode cX6_sheetFault 1 = .ok (.iconst 4, 1) := by decide +kernel
theorem dX6_sheetFault_2 : decode cX6_sheetFault 2 = .ok (.invokestatic 58, 3) := by decide +kernel
theorem dX6_sheetFault_5 : decode cX6_sheetFault 5 = .ok (.ifCond .ne 6, 3) := by decide +kernel
theorem dX6_sheetFault_8 : decode cX6_sheetFault 8 = .ok (.ldc 62, 2) := by decide +kernel
theorem dX6_sheetFault_10 : decode cX6_sheetFault 10 = .ok (.ireturn, 1) := by decide +kernel
theorem dX6_sheetFault_11 : decode cX6_sheetFault 11 = .ok (.aload_n 0, 1) := by decide +kernel
theorem dX6_sheetFault_12 : decode cX6_sheetFault 12 = .ok (.getfield 49, 3) := by decide +kernel
theorem dX6_sheetFault_15 : decode cX6_sheetFault 15 = .ok (.iload_n 1, 1) := by decide +kernel
theorem dX6_sheetFault_16 : decode cX6_sheetFault 16 = .ok (.aaload, 1) := by decide +kernel
theorem dX6_sheetFault_17 : decode cX6_sheetFault 17 = .ok (.invokevirtual 264, 3) := by decide +kernel
theorem dX6_sheetFault_20 : decode cX6_sheetFault 20 = .ok (.ifCond .eq 9, 3) := by decide +kernel
theorem dX6_sheetFault_23 : decode cX6_sheetFault 23 = .ok (.ldc_w 267, 3) := by decide +kernel
theorem dX6_sheetFault_26 : decode cX6_sheetFault 26 = .ok (.goto 4, 3) := by decide +kernel
theorem dX6_sheetFault_29 : decode cX6_sheetFault 29 = .ok (.iconst 0, 1) := by decide +kernel
theorem dX6_sheetFault_30 : decode cX6_sheetFault 30 = .ok (.ireturn, 1) := by decide +kernel
theorem dX6_menuFault_0 : decode cX6_menuFault 0 = .ok (.aload_n 0, 1) := by decide +kernel
theorem dX6_menuFault_1 : decode cX6_menuFault 1 = .ok (.iload_n 1, 1) := by decide +kernel
theorem dX6_menuFault_2 : decode cX6_menuFault 2 = .ok (.invokevirtual 254, 3) := by decide +kernel
theorem dX6_menuFault_5 : decode cX6_menuFault 5 = .ok (.istore_n 3, 1) := by decide +kernel
theorem dX6_menuFault_6 : decode cX6_menuFault 6 = .ok (.iload_n 3, 1) := by decide +kernel
theorem dX6_menuFault_7 : decode cX6_menuFault 7 = .ok (.ifCond .ne 17, 3) := by decide +kernel
theorem dX6_menuFault_10 : decode cX6_menuFault 10 = .ok (.iload_n 2, 1) := by decide +kernel
theorem dX6_menuFault_11 : decode cX6_menuFault 11 = .ok (.bipush 6, 2) := by decide +kernel
theorem dX6_menuFault_13 : decode cX6_menuFault 13 = .ok (.invokestatic 58, 3) := by decide +kernel
theorem dX6_menuFault_16 : decode cX6_menuFault 16 = .ok (.ifCond .ne 8, 3) := by decide +kernel
theorem dX6_menuFault_19 : decode cX6_menuFault 19 = .ok (.ldc 62, 2) := by decide +kernel
theorem dX6_menuFault_21 : decode cX6_menuFault 21 = .ok (.goto 4, 3) := by decide +kernel
theorem dX6_menuFault_24 : decode cX6_menuFault 24 = .ok (.iload_n 3, 1) := by decide +kernel
theorem dX6_menuFault_25 : decode cX6_menuFault 25 = .ok (.ireturn, 1) := by decide +kernel
theorem dX6_isBelow_0 : decode cX6_isBelow 0 = .ok (.iload_n 0, 1) := by decide +kernel
theorem dX6_isBelow_1 : decode cX6_isBelow 1 = .ok (.ifCond .lt 12, 3) := by decide +kernel
theorem dX6_isBelow_4 : decode cX6_isBelow 4 = .ok (.iload_n 0, 1) := by decide +kernel
theorem dX6_isBelow_5 : decode cX6_isBelow 5 = .ok (.iload_n 1, 1) := by decide +kernel
theorem dX6_isBelow_6 : decode cX6_isBelow 6 = .ok (.if_icmp .ge 7, 3) := by decide +kernel
theorem dX6_isBelow_9 : decode cX6_isBelow 9 = .ok (.iconst 1, 1) := by decide +kernel
theorem dX6_isBelow_10 : decode cX6_isBelow 10 = .ok (.goto 4, 3) := by decide +kernel
theorem dX6_isBelow_13 : decode cX6_isBelow 13 = .ok (.iconst 0, 1) := by decide +kernel
theorem dX6_isBelow_14 : decode cX6_isBelow 14 = .ok (.ireturn, 1) := by decide +kernel
theorem dX6_isSet_0 : decode cX6_isSet 0 = .ok (.iload_n 0, 1) := by decide +kernel
theorem dX6_isSet_1 : decode cX6_isSet 1 = .ok (.ifCond .le 22, 3) := by decide +kernel
theorem dX6_isSet_4 : decode cX6_isSet 4 = .ok (.iload_n 0, 1) := by decide +kernel
theorem dX6_isSet_5 : decode cX6_isSet 5 = .ok (.sipush 256, 3) := by decide +kernel
theorem dX6_isSet_8 : decode cX6_isSet 8 = .ok (.if_icmp .ge 15, 3) := by decide +kernel
theorem dX6_isSet_11 : decode cX6_isSet 11 = .ok (.iload_n 0, 1) := by decide +kernel
theorem dX6_isSet_12 : decode cX6_isSet 12 = .ok (.invokestatic 293, 3) := by decide +kernel
theorem dX6_isSet_15 : decode cX6_isSet 15 = .ok (.iconst 3, 1) := by decide +kernel
theorem dX6_isSet_16 : decode cX6_isSet 16 = .ok (.if_icmp .gt 7, 3) := by decide +kernel
theorem dX6_isSet_19 : decode cX6_isSet 19 = .ok (.iconst 1, 1) := by decide +kernel
theorem dX6_isSet_20 : decode cX6_isSet 20 = .ok (.goto 4, 3) := by decide +kernel
theorem dX6_isSet_23 : decode cX6_isSet 23 = .ok (.iconst 0, 1) := by decide +kernel
theorem dX6_isSet_24 : decode cX6_isSet 24 = .ok (.ireturn, 1) := by decide +kernel
theorem dX6_isDish_0 : decode cX6_isDish 0 = .ok (.iload_n 0, 1) := by decide +kernel
theorem dX6_isDish_1 : decode cX6_isDish 1 = .ok (.ifCond .lt 17, 3) := by decide +kernel
theorem dX6_isDish_4 : decode cX6_isDish 4 = .ok (.iload_n 0, 1) := by decide +kernel
theorem dX6_isDish_5 : decode cX6_isDish 5 = .ok (.invokestatic 89, 3) := by decide +kernel
theorem dX6_isDish_8 : decode cX6_isDish 8 = .ok (.invokestatic 78, 3) := by decide +kernel
theorem dX6_isDish_11 : decode cX6_isDish 11 = .ok (.ifCond .eq 7, 3) := by decide +kernel
theorem dX6_isDish_14 : decode cX6_isDish 14 = .ok (.iconst 1, 1) := by decide +kernel
theorem dX6_isDish_15 : decode cX6_isDish 15 = .ok (.goto 4, 3) := by decide +kernel
theorem dX6_isDish_18 : decode cX6_isDish 18 = .ok (.iconst 0, 1) := by decide +kernel
theorem dX6_isDish_19 : decode cX6_isDish 19 = .ok (.ireturn, 1) := by decide +kernel
theorem dX6_dishNumber_0 : decode cX6_dishNumber 0 = .ok (.bipush 20, 2) := by decide +kernel
theorem dX6_dishNumber_2 : decode cX6_dishNumber 2 = .ok (.iload_n 0, 1) := by decide +kernel
theorem dX6_dishNumber_3 : decode cX6_dishNumber 3 = .ok (.imul, 1) := by decide +kernel
theorem dX6_dishNumber_4 : decode cX6_dishNumber 4 = .ok (.iconst 4, 1) := by decide +kernel
theorem dX6_dishNumber_5 : decode cX6_dishNumber 5 = .ok (.iload_n 1, 1) := by decide +kernel
theorem dX6_dishNumber_6 : decode cX6_dishNumber 6 = .ok (.imul, 1) := by decide +kernel
theorem dX6_dishNumber_7 : decode cX6_dishNumber 7 = .ok (.iadd, 1) := by decide +kernel
theorem dX6_dishNumber_8 : decode cX6_dishNumber 8 = .ok (.iload_n 2, 1) := by decide +kernel
theorem dX6_dishNumber_9 : decode cX6_dishNumber 9 = .ok (.iadd, 1) := by decide +kernel
theorem dX6_dishNumber_10 : decode cX6_dishNumber 10 = .ok (.ireturn, 1) := by decide +kernel
theorem dX6_setOf_0 : decode cX6_setOf 0 = .ok (.iload_n 0, 1) := by decide +kernel
theorem dX6_setOf_1 : decode cX6_setOf 1 = .ok (.bipush 20, 2) := by decide +kernel
theorem dX6_setOf_3 : decode cX6_setOf 3 = .ok (.idiv, 1) := by decide +kernel
theorem dX6_setOf_4 : decode cX6_setOf 4 = .ok (.ireturn, 1) := by decide +kernel
theorem dX6_mannerOf_0 : decode cX6_mannerOf 0 = .ok (.iload_n 0, 1) := by decide +kernel
theorem dX6_mannerOf_1 : decode cX6_mannerOf 1 = .ok (.bipush 20, 2) := by decide +kernel
theorem dX6_mannerOf_3 : decode cX6_mannerOf 3 = .ok (.irem, 1) := by decide +kernel
theorem dX6_mannerOf_4 : decode cX6_mannerOf 4 = .ok (.ireturn, 1) := by decide +kernel
theorem dX6_wayOf_0 : decode cX6_wayOf 0 = .ok (.iload_n 0, 1) := by decide +kernel
theorem dX6_wayOf_1 : decode cX6_wayOf 1 = .ok (.bipush 20, 2) := by decide +kernel
theorem dX6_wayOf_3 : decode cX6_wayOf 3 = .ok (.irem, 1) := by decide +kernel
theorem dX6_wayOf_4 : decode cX6_wayOf 4 = .ok (.iconst 4, 1) := by decide +kernel
theorem dX6_wayOf_5 : decode cX6_wayOf 5 = .ok (.idiv, 1) := by decide +kernel
theorem dX6_wayOf_6 : decode cX6_wayOf 6 = .ok (.ireturn, 1) := by decide +kernel
theorem dX6_sauceOf_0 : decode cX6_sauceOf 0 = .ok (.iload_n 0, 1) := by decide +kernel
theorem dX6_sauceOf_1 : decode cX6_sauceOf 1 = .ok (.iconst 4, 1) := by decide +kernel
theorem dX6_sauceOf_2 : decode cX6_sauceOf 2 = .ok (.irem, 1) := by decide +kernel
theorem dX6_sauceOf_3 : decode cX6_sauceOf 3 = .ok (.ireturn, 1) := by decide +kernel
theorem dX6_nearness_0 : decode cX6_nearness 0 = .ok (.iload_n 0, 1) := by decide +kernel
theorem dX6_nearness_1 : decode cX6_nearness 1 = .ok (.invokestatic 89, 3) := by decide +kernel
theorem dX6_nearness_4 : decode cX6_nearness 4 = .ok (.iload_n 1, 1) := by decide +kernel
theorem dX6_nearness_5 : decode cX6_nearness 5 = .ok (.invokestatic 89, 3) := by decide +kernel
theorem dX6_nearness_8 : decode cX6_nearness 8 = .ok (.ixor, 1) := by decide +kernel
theorem dX6_nearness_9 : decode cX6_nearness 9 = .ok (.invokestatic 293, 3) := by decide +kernel
theorem dX6_nearness_12 : decode cX6_nearness 12 = .ok (.iload_n 0, 1) := by decide +kernel
theorem dX6_nearness_13 : decode cX6_nearness 13 = .ok (.invokestatic 92, 3) := by decide +kernel
theorem dX6_nearness_16 : decode cX6_nearness 16 = .ok (.iload_n 1, 1) := by decide +kernel
theorem dX6_nearness_17 : decode cX6_nearness 17 = .ok (.invokestatic 92, 3) := by decide +kernel
theorem dX6_nearness_20 : decode cX6_nearness 20 = .ok (.if_icmp .ne 7, 3) := by decide +kernel
theorem dX6_nearness_23 : decode cX6_nearness 23 = .ok (.iconst 0, 1) := by decide +kernel
theorem dX6_nearness_24 : decode cX6_nearness 24 = .ok (.goto 4, 3) := by decide +kernel
theorem dX6_nearness_27 : decode cX6_nearness 27 = .ok (.iconst 1, 1) := by decide +kernel
theorem dX6_nearness_28 : decode cX6_nearness 28 = .ok (.iadd, 1) := by decide +kernel
theorem dX6_nearness_29 : decode cX6_nearness 29 = .ok (.iload_n 0, 1) := by decide +kernel
theorem dX6_nearness_30 : decode cX6_nearness 30 = .ok (.invokestatic 95, 3) := by decide +kernel
theorem dX6_nearness_33 : decode cX6_nearness 33 = .ok (.iload_n 1, 1) := by decide +kernel
theorem dX6_nearness_34 : decode cX6_nearness 34 = .ok (.invokestatic 95, 3) := by decide +kernel
theorem dX6_nearness_37 : decode cX6_nearness 37 = .ok (.if_icmp .ne 7, 3) := by decide +kernel
theorem dX6_nearness_40 : decode cX6_nearness 40 = .ok (.iconst 0, 1) := by decide +kernel
theorem dX6_nearness_41 : decode cX6_nearness 41 = .ok (.goto 4, 3) := by decide +kernel
theorem dX6_nearness_44 : decode cX6_nearness 44 = .ok (.iconst 1, 1) := by decide +kernel
theorem dX6_nearness_45 : decode cX6_nearness 45 = .ok (.iadd, 1) := by decide +kernel
theorem dX6_nearness_46 : decode cX6_nearness 46 = .ok (.ireturn, 1) := by decide +kernel
theorem dX6_hasBit_0 : decode cX6_hasBit 0 = .ok (.iload_n 0, 1) := by decide +kernel
theorem dX6_hasBit_1 : decode cX6_hasBit 1 = .ok (.iload_n 1, 1) := by decide +kernel
theorem dX6_hasBit_2 : decode cX6_hasBit 2 = .ok (.ishr, 1) := by decide +kernel
theorem dX6_hasBit_3 : decode cX6_hasBit 3 = .ok (.iconst 1, 1) := by decide +kernel
theorem dX6_hasBit_4 : decode cX6_hasBit 4 = .ok (.iand, 1) := by decide +kernel
theorem dX6_hasBit_5 : decode cX6_hasBit 5 = .ok (.ifCond .eq 7, 3) := by decide +kernel
theorem dX6_hasBit_8 : decode cX6_hasBit 8 = .ok (.iconst 1, 1) := by decide +kernel
theorem dX6_hasBit_9 : decode cX6_hasBit 9 = .ok (.goto 4, 3) := by decide +kernel
theorem dX6_hasBit_12 : decode cX6_hasBit 12 = .ok (.iconst 0, 1) := by decide +kernel
theorem dX6_hasBit_13 : decode cX6_hasBit 13 = .ok (.ireturn, 1) := by decide +kernel
theorem dX6_countOf_0 : decode cX6_countOf 0 = .ok (.iconst 0, 1) := by decide +kernel
theorem dX6_countOf_1 : decode cX6_countOf 1 = .ok (.istore_n 1, 1) := by decide +kernel
theorem dX6_countOf_2 : decode cX6_countOf 2 = .ok (.iconst 0, 1) := by decide +kernel
theorem dX6_countOf_3 : decode cX6_countOf 3 = .ok (.istore_n 2, 1) := by decide +kernel
theorem dX6_countOf_4 : decode cX6_countOf 4 = .ok (.iload_n 2, 1) := by decide +kernel
theorem dX6_countOf_5 : decode cX6_countOf 5 = .ok (.aload_n 0, 1) := by decide +kernel
theorem dX6_countOf_6 : decode cX6_countOf 6 = .ok (.arraylength, 1) := by decide +kernel
theorem dX6_countOf_7 : decode cX6_countOf 7 = .ok (.if_icmp .ge 18, 3) := by decide +kernel
theorem dX6_countOf_10 : decode cX6_countOf 10 = .ok (.iload_n 1, 1) := by decide +kernel
theorem dX6_countOf_11 : decode cX6_countOf 11 = .ok (.aload_n 0, 1) := by decide +kernel
theorem dX6_countOf_12 : decode cX6_countOf 12 = .ok (.iload_n 2, 1) := by decide +kernel
theorem dX6_countOf_13 : decode cX6_countOf 13 = .ok (.iaload, 1) := by decide +kernel
theorem dX6_countOf_14 : decode cX6_countOf 14 = .ok (.invokestatic 293, 3) := by decide +kernel
theorem dX6_countOf_17 : decode cX6_countOf 17 = .ok (.iadd, 1) := by decide +kernel
theorem dX6_countOf_18 : decode cX6_countOf 18 = .ok (.istore_n 1, 1) := by decide +kernel
theorem dX6_countOf_19 : decode cX6_countOf 19 = .ok (.iinc 2 1, 3) := by decide +kernel
theorem dX6_countOf_22 : decode cX6_countOf 22 = .ok (.goto (-18), 3) := by decide +kernel
theorem dX6_countOf_25 : decode cX6_countOf 25 = .ok (.iload_n 1, 1) := by decide +kernel
theorem dX6_countOf_26 : decode cX6_countOf 26 = .ok (.ireturn, 1) := by decide +kernel
theorem dX6_isOfKind_0 : decode cX6_isOfKind 0 = .ok (.iload_n 0, 1) := by decide +kernel
theorem dX6_isOfKind_1 : decode cX6_isOfKind 1 = .ok (.istore_n 2, 1) := by decide +kernel
theorem dX6_isOfKind_2 : decode cX6_isOfKind 2 = .ok (.iconst 0, 1) := by decide +kernel
theorem dX6_isOfKind_3 : decode cX6_isOfKind 3 = .ok (.istore_n 3, 1) := by decide +kernel
theorem dX6_isOfKind_4 : decode cX6_isOfKind 4 = .ok (.iload_n 3, 1) := by decide +kernel
theorem dX6_isOfKind_5 : decode cX6_isOfKind 5 = .ok (.bipush 6, 2) := by decide +kernel
theorem dX6_isOfKind_7 : decode cX6_isOfKind 7 = .ok (.if_icmp .ge 31, 3) := by decide +kernel
theorem dX6_isOfKind_10 : decode cX6_isOfKind 10 = .ok (.iload_n 2, 1) := by decide +kernel
theorem dX6_isOfKind_11 : decode cX6_isOfKind 11 = .ok (.bipush 6, 2) := by decide +kernel
theorem dX6_isOfKind_13 : decode cX6_isOfKind 13 = .ok (.invokestatic 58, 3) := by decide +kernel
theorem dX6_isOfKind_16 : decode cX6_isOfKind 16 = .ok (.ifCond .eq 22, 3) := by decide +kernel
theorem dX6_isOfKind_19 : decode cX6_isOfKind 19 = .ok (.iload_n 2, 1) := by decide +kernel
theorem dX6_isOfKind_20 : decode cX6_isOfKind 20 = .ok (.iload_n 1, 1) := by decide +kernel
theorem dX6_isOfKind_21 : decode cX6_isOfKind 21 = .ok (.if_icmp .ne 5, 3) := by decide +kernel
theorem dX6_isOfKind_24 : decode cX6_isOfKind 24 = .ok (.iconst 1, 1) := by decide +kernel
theorem dX6_isOfKind_25 : decode cX6_isOfKind 25 = .ok (.ireturn, 1) := by decide +kernel
theorem dX6_isOfKind_26 : decode cX6_isOfKind 26 = .ok (.getstatic 298, 3) := by decide +kernel
theorem dX6_isOfKind_29 : decode cX6_isOfKind 29 = .ok (.iload_n 2, 1) := by decide +kernel
theorem dX6_isOfKind_30 : decode cX6_isOfKind 30 = .ok (.iaload, 1) := by decide +kernel
theorem dX6_isOfKind_31 : decode cX6_isOfKind 31 = .ok (.istore_n 2, 1) := by decide +kernel
theorem dX6_isOfKind_32 : decode cX6_isOfKind 32 = .ok (.iinc 3 1, 3) := by decide +kernel
theorem dX6_isOfKind_35 : decode cX6_isOfKind 35 = .ok (.goto (-31), 3) := by decide +kernel
theorem dX6_isOfKind_38 : decode cX6_isOfKind 38 = .ok (.iconst 0, 1) := by decide +kernel
theorem dX6_isOfKind_39 : decode cX6_isOfKind 39 = .ok (.ireturn, 1) := by decide +kernel
theorem dX6_mannersBarred_0 : decode cX6_mannersBarred 0 = .ok (.iload_n 0, 1) := by decide +kernel
theorem dX6_mannersBarred_1 : decode cX6_mannersBarred 1 = .ok (.iconst 2, 1) := by decide +kernel
theorem dX6_mannersBarred_2 : decode cX6_mannersBarred 2 = .ok (.if_icmp .ne 5, 3) := by decide +kernel
theorem dX6_mannersBarred_5 : decode cX6_mannersBarred 5 = .ok (.iconst 0, 1) := by decide +kernel
theorem dX6_mannersBarred_6 : decode cX6_mannersBarred 6 = .ok (.ireturn, 1) := by decide +kernel
theorem dX6_mannersBarred_7 : decode cX6_mannersBarred 7 = .ok (.iload_n 0, 1) := by decide +kernel
theorem dX6_mannersBarred_8 : decode cX6_mannersBarred 8 = .ok (.ifCond .eq 8, 3) := by decide +kernel
theorem dX6_mannersBarred_11 : decode cX6_mannersBarred 11 = .ok (.iload_n 0, 1) := by decide +kernel
theorem dX6_mannersBarred_12 : decode cX6_mannersBarred 12 = .ok (.iconst 1, 1) := by decide +kernel
theorem dX6_mannersBarred_13 : decode cX6_mannersBarred 13 = .ok (.if_icmp .ne 7, 3) := by decide +kernel
theorem dX6_mannersBarred_16 : decode cX6_mannersBarred 16 = .ok (.iconst 1, 1) := by decide +kernel
theorem dX6_mannersBarred_17 : decode cX6_mannersBarred 17 = .ok (.goto 4, 3) := by decide +kernel
theorem dX6_mannersBarred_20 : decode cX6_mannersBarred 20 = .ok (.iconst 0, 1) := by decide +kernel
theorem dX6_mannersBarred_21 : decode cX6_mannersBarred 21 = .ok (.istore_n 3, 1) := by decide +kernel
theorem dX6_mannersBarred_22 : decode cX6_mannersBarred 22 = .ok (.iload_n 0, 1) := by decide +kernel
theorem dX6_mannersBarred_23 : decode cX6_mannersBarred 23 = .ok (.iconst 3, 1) := by decide +kernel
theorem dX6_mannersBarred_24 : decode cX6_mannersBarred 24 = .ok (.if_icmp .eq 18, 3) := by decide +kernel
theorem dX6_mannersBarred_27 : decode cX6_mannersBarred 27 = .ok (.iload_n 0, 1) := by decide +kernel
theorem dX6_mannersBarred_28 : decode cX6_mannersBarred 28 = .ok (.iconst 5, 1) := by decide +kernel
theorem dX6_mannersBarred_29 : decode cX6_mannersBarred 29 = .ok (.if_icmp .eq 13, 3) := by decide +kernel
theorem dX6_mannersBarred_32 : decode cX6_mannersBarred 32 = .ok (.iload_n 3, 1) := by decide +kernel
theorem dX6_mannersBarred_33 : decode cX6_mannersBarred 33 = .ok (.ifCond .eq 13, 3) := by decide +kernel
theorem dX6_mannersBarred_36 : decode cX6_mannersBarred 36 = .ok (.iload_n 2, 1) := by decide +kernel
theorem dX6_mannersBarred_37 : decode cX6_mannersBarred 37 = .ok (.iconst 2, 1) := by decide +kernel
theorem dX6_mannersBarred_38 : decode cX6_mannersBarred 38 = .ok (.iand, 1) := by decide +kernel
theorem dX6_mannersBarred_39 : decode cX6_mannersBarred 39 = .ok (.ifCond .eq 7, 3) := by decide +kernel
theorem dX6_mannersBarred_42 : decode cX6_mannersBarred 42 = .ok (.iconst 1, 1) := by decide +kernel
theorem dX6_mannersBarred_43 : decode cX6_mannersBarred 43 = .ok (.goto 4, 3) := by decide +kernel
theorem dX6_mannersBarred_46 : decode cX6_mannersBarred 46 = .ok (.iconst 0, 1) := by decide +kernel
theorem dX6_mannersBarred_47 : decode cX6_mannersBarred 47 = .ok (.istore 4, 2) := by decide +kernel
theorem dX6_mannersBarred_49 : decode cX6_mannersBarred 49 = .ok (.iload_n 0, 1) := by decide +kernel
theorem dX6_mannersBarred_50 : decode cX6_mannersBarred 50 = .ok (.iconst 3, 1) := by decide +kernel
theorem dX6_mannersBarred_51 : decode cX6_mannersBarred 51 = .ok (.if_icmp .eq 13, 3) := by decide +kernel
theorem dX6_mannersBarred_54 : decode cX6_mannersBarred 54 = .ok (.iload_n 3, 1) := by decide +kernel
theorem dX6_mannersBarred_55 : decode cX6_mannersBarred 55 = .ok (.ifCond .eq 13, 3) := by decide +kernel
theorem dX6_mannersBarred_58 : decode cX6_mannersBarred 58 = .ok (.iload_n 2, 1) := by decide +kernel
theorem dX6_mannersBarred_59 : decode cX6_mannersBarred 59 = .ok (.iconst 1, 1) := by decide +kernel
theorem dX6_mannersBarred_60 : decode cX6_mannersBarred 60 = .ok (.iand, 1) := by decide +kernel
theorem dX6_mannersBarred_61 : decode cX6_mannersBarred 61 = .ok (.ifCond .eq 7, 3) := by decide +kernel
theorem dX6_mannersBarred_64 : decode cX6_mannersBarred 64 = .ok (.iconst 1, 1) := by decide +kernel
theorem dX6_mannersBarred_65 : decode cX6_mannersBarred 65 = .ok (.goto 4, 3) := by decide +kernel
theorem dX6_mannersBarred_68 : decode cX6_mannersBarred 68 = .ok (.iconst 0, 1) := by decide +kernel
theorem dX6_mannersBarred_69 : decode cX6_mannersBarred 69 = .ok (.istore 5, 2) := by decide +kernel
theorem dX6_mannersBarred_71 : decode cX6_mannersBarred 71 = .ok (.ldc_w 301, 3) := by decide +kernel
theorem dX6_mannersBarred_74 : decode cX6_mannersBarred 74 = .ok (.istore 6, 2) := by decide +kernel
theorem dX6_mannersBarred_76 : decode cX6_mannersBarred 76 = .ok (.iload 4, 2) := by decide +kernel
theorem dX6_mannersBarred_78 : decode cX6_mannersBarred 78 = .ok (.ifCond .eq 16, 3) := by decide +kernel
theorem dX6_mannersBarred_81 : decode cX6_mannersBarred 81 = .ok (.iload 6, 2) := by decide +kernel
theorem dX6_mannersBarred_83 : decode cX6_mannersBarred 83 = .ok (.bipush 15, 2) := by decide +kernel
theorem dX6_mannersBarred_85 : decode cX6_mannersBarred 85 = .ok (.iload_n 1, 1) := by decide +kernel
theorem dX6_mannersBarred_86 : decode cX6_mannersBarred 86 = .ok (.iload_n 1, 1) := by decide +kernel
theorem dX6_mannersBarred_87 : decode cX6_mannersBarred 87 = .ok (.iconst 4, 1) := by decide +kernel
theorem dX6_mannersBarred_88 : decode cX6_mannersBarred 88 = .ok (.irem, 1) := by decide +kernel
theorem dX6_mannersBarred_89 : decode cX6_mannersBarred 89 = .ok (.isub, 1) := by decide +kernel
theorem dX6_mannersBarred_90 : decode cX6_mannersBarred 90 = .ok (.ishl, 1) := by decide +kernel
theorem dX6_mannersBarred_91 : decode cX6_mannersBarred 91 = .ok (.iand, 1) := by decide +kernel
theorem dX6_mannersBarred_92 : decode cX6_mannersBarred 92 = .ok (.istore 6, 2) := by decide +kernel
theorem dX6_mannersBarred_94 : decode cX6_mannersBarred 94 = .ok (.iload 5, 2) := by decide +kernel
theorem dX6_mannersBarred_96 : decode cX6_mannersBarred 96 = .ok (.ifCond .eq 15, 3) := by decide +kernel
theorem dX6_mannersBarred_99 : decode cX6_mannersBarred 99 = .ok (.iload 6, 2) := by decide +kernel
theorem dX6_mannersBarred_101 : decode cX6_mannersBarred 101 = .ok (.ldc_w 302, 3) := by decide +kernel
theorem dX6_mannersBarred_104 : decode cX6_mannersBarred 104 = .ok (.iload_n 1, 1) := by decide +kernel
theorem dX6_mannersBarred_105 : decode cX6_mannersBarred 105 = .ok (.iconst 4, 1) := by decide +kernel
theorem dX6_mannersBarred_106 : decode cX6_mannersBarred 106 = .ok (.irem, 1) := by decide +kernel
theorem dX6_mannersBarred_107 : decode cX6_mannersBarred 107 = .ok (.ishl, 1) := by decide +kernel
theorem dX6_mannersBarred_108 : decode cX6_mannersBarred 108 = .ok (.iand, 1) := by decide +kernel
theorem dX6_mannersBarred_109 : decode cX6_mannersBarred 109 = .ok (.istore 6, 2) := by decide +kernel
theorem dX6_mannersBarred_111 : decode cX6_mannersBarred 111 = .ok (.iload 6, 2) := by decide +kernel
theorem dX6_mannersBarred_113 : decode cX6_mannersBarred 113 = .ok (.ireturn, 1) := by decide +kernel
theorem dX6_barsParts_0 : decode cX6_barsParts 0 = .ok (.iload_n 0, 1) := by decide +kernel
theorem dX6_barsParts_1 : decode cX6_barsParts 1 = .ok (.iconst 1, 1) := by decide +kernel
theorem dX6_barsParts_2 : decode cX6_barsParts 2 = .ok (.if_icmp .eq 8, 3) := by decide +kernel
theorem dX6_barsParts_5 : decode cX6_barsParts 5 = .ok (.iload_n 0, 1) := by decide +kernel
theorem dX6_barsParts_6 : decode cX6_barsParts 6 = .ok (.iconst 4, 1) := by decide +kernel
theorem dX6_barsParts_7 : decode cX6_barsParts 7 = .ok (.if_icmp .ne 7, 3) := by decide +kernel
theorem dX6_barsParts_10 : decode cX6_barsParts 10 = .ok (.iconst 1, 1) := by decide +kernel
theorem dX6_barsParts_11 : decode cX6_barsParts 11 = .ok (.goto 4, 3) := by decide +kernel
theorem dX6_barsParts_14 : decode cX6_barsParts 14 = .ok (.iconst 0, 1) := by decide +kernel
theorem dX6_barsParts_15 : decode cX6_barsParts 15 = .ok (.ireturn, 1) := by decide +kernel
theorem dX6_isPartEitherWay_0 : decode cX6_isPartEitherWay 0 = .ok (.iload_n 0, 1) := by decide +kernel
theorem dX6_isPartEitherWay_1 : decode cX6_isPartEitherWay 1 = .ok (.iload_n 1, 1) := by decide +kernel
theorem dX6_isPartEitherWay_2 : decode cX6_isPartEitherWay 2 = .ok (.iand, 1) := by decide +kernel
theorem dX6_isPartEitherWay_3 : decode cX6_isPartEitherWay 3 = .ok (.istore_n 2, 1) := by decide +kernel
theorem dX6_isPartEitherWay_4 : decode cX6_isPartEitherWay 4 = .ok (.iload_n 2, 1) := by decide +kernel
theorem dX6_isPartEitherWay_5 : decode cX6_isPartEitherWay 5 = .ok (.iload_n 0, 1) := by decide +kernel
theorem dX6_isPartEitherWay_6 : decode cX6_isPartEitherWay 6 = .ok (.if_icmp .eq 8, 3) := by decide +kernel
theorem dX6_isPartEitherWay_9 : decode cX6_isPartEitherWay 9 = .ok (.iload_n 2, 1) := by decide +kernel
theorem dX6_isPartEitherWay_10 : decode cX6_isPartEitherWay 10 = .ok (.iload_n 1, 1) := by decide +kernel
theorem dX6_isPartEitherWay_11 : decode cX6_isPartEitherWay 11 = .ok (.if_icmp .ne 7, 3) := by decide +kernel
theorem dX6_isPartEitherWay_14 : decode cX6_isPartEitherWay 14 = .ok (.iconst 1, 1) := by decide +kernel
theorem dX6_isPartEitherWay_15 : decode cX6_isPartEitherWay 15 = .ok (.goto 4, 3) := by decide +kernel
theorem dX6_isPartEitherWay_18 : decode cX6_isPartEitherWay 18 = .ok (.iconst 0, 1) := by decide +kernel
theorem dX6_isPartEitherWay_19 : decode cX6_isPartEitherWay 19 = .ok (.ireturn, 1) := by decide +kernel
theorem dX6_barsSet_0 : decode cX6_barsSet 0 = .ok (.iload_n 0, 1) := by decide +kernel
theorem dX6_barsSet_1 : decode cX6_barsSet 1 = .ok (.invokestatic 303, 3) := by decide +kernel
theorem dX6_barsSet_4 : decode cX6_barsSet 4 = .ok (.ifCond .eq 11, 3) := by decide +kernel
theorem dX6_barsSet_7 : decode cX6_barsSet 7 = .ok (.iload_n 1, 1) := by decide +kernel
theorem dX6_barsSet_8 : decode cX6_barsSet 8 = .ok (.iload_n 2, 1) := by decide +kernel
theorem dX6_barsSet_9 : decode cX6_barsSet 9 = .ok (.invokestatic 306, 3) := by decide +kernel
theorem dX6_barsSet_12 : decode cX6_barsSet 12 = .ok (.goto 13, 3) := by decide +kernel
theorem dX6_barsSet_15 : decode cX6_barsSet 15 = .ok (.iload_n 1, 1) := by decide +kernel
theorem dX6_barsSet_16 : decode cX6_barsSet 16 = .ok (.iload_n 2, 1) := by decide +kernel
theorem dX6_barsSet_17 : decode cX6_barsSet 17 = .ok (.if_icmp .ne 7, 3) := by decide +kernel
theorem dX6_barsSet_20 : decode cX6_barsSet 20 = .ok (.iconst 1, 1) := by decide +kernel
theorem dX6_barsSet_21 : decode cX6_barsSet 21 = .ok (.goto 4, 3) := by decide +kernel
theorem dX6_barsSet_24 : decode cX6_barsSet 24 = .ok (.iconst 0, 1) := by decide +kernel
theorem dX6_barsSet_25 : decode cX6_barsSet 25 = .ok (.ireturn, 1) := by decide +kernel
theorem dX6_barsDish_0 : decode cX6_barsDish 0 = .ok (.iload_n 0, 1) := by decide +kernel
theorem dX6_barsDish_1 : decode cX6_barsDish 1 = .ok (.iload_n 1, 1) := by decide +kernel
theorem dX6_barsDish_2 : decode cX6_barsDish 2 = .ok (.invokestatic 89, 3) := by decide +kernel
theorem dX6_barsDish_5 : decode cX6_barsDish 5 = .ok (.iload_n 2, 1) := by decide +kernel
theorem dX6_barsDish_6 : decode cX6_barsDish 6 = .ok (.invokestatic 89, 3) := by decide +kernel
theorem dX6_barsDish_9 : decode cX6_barsDish 9 = .ok (.invokestatic 309, 3) := by decide +kernel
theorem dX6_barsDish_12 : decode cX6_barsDish 12 = .ok (.ifCond .eq 26, 3) := by decide +kernel
theorem dX6_barsDish_15 : decode cX6_barsDish 15 = .ok (.iload_n 0, 1) := by decide +kernel
theorem dX6_barsDish_16 : decode cX6_barsDish 16 = .ok (.iload_n 1, 1) := by decide +kernel
theorem dX6_barsDish_17 : decode cX6_barsDish 17 = .ok (.invokestatic 313, 3) := by decide +kernel
theorem dX6_barsDish_20 : decode cX6_barsDish 20 = .ok (.iload_n 3, 1) := by decide +kernel
theorem dX6_barsDish_21 : decode cX6_barsDish 21 = .ok (.invokestatic 316, 3) := by decide +kernel
theorem dX6_barsDish_24 : decode cX6_barsDish 24 = .ok (.iload_n 2, 1) := by decide +kernel
theorem dX6_barsDish_25 : decode cX6_barsDish 25 = .ok (.invokestatic 313, 3) := by decide +kernel
theorem dX6_barsDish_28 : decode cX6_barsDish 28 = .ok (.invokestatic 319, 3) := by decide +kernel
theorem dX6_barsDish_31 : decode cX6_barsDish 31 = .ok (.ifCond .eq 7, 3) := by decide +kernel
theorem dX6_barsDish_34 : decode cX6_barsDish 34 = .ok (.iconst 1, 1) := by decide +kernel
theorem dX6_barsDish_35 : decode cX6_barsDish 35 = .ok (.goto 4, 3) := by decide +kernel
theorem dX6_barsDish_38 : decode cX6_barsDish 38 = .ok (.iconst 0, 1) := by decide +kernel
theorem dX6_barsDish_39 : decode cX6_barsDish 39 = .ok (.ireturn, 1) := by decide +kernel
theorem dX6_howManyBars_0 : decode cX6_howManyBars 0 = .ok (.iconst 0, 1) := by decide +kernel
theorem dX6_howManyBars_1 : decode cX6_howManyBars 1 = .ok (.istore_n 3, 1) := by decide +kernel
theorem dX6_howManyBars_2 : decode cX6_howManyBars 2 = .ok (.iconst 0, 1) := by decide +kernel
theorem dX6_howManyBars_3 : decode cX6_howManyBars 3 = .ok (.istore 4, 2) := by decide +kernel
theorem dX6_howManyBars_5 : decode cX6_howManyBars 5 = .ok (.iload 4, 2) := by decide +kernel
theorem dX6_howManyBars_7 : decode cX6_howManyBars 7 = .ok (.getstatic 322, 3) := by decide +kernel
theorem dX6_howManyBars_10 : decode cX6_howManyBars 10 = .ok (.arraylength, 1) := by decide +kernel
theorem dX6_howManyBars_11 : decode cX6_howManyBars 11 = .ok (.if_icmp .ge 29, 3) := by decide +kernel
theorem dX6_howManyBars_14 : decode cX6_howManyBars 14 = .ok (.iload_n 0, 1) := by decide +kernel
theorem dX6_howManyBars_15 : decode cX6_howManyBars 15 = .ok (.iload_n 1, 1) := by decide +kernel
theorem dX6_howManyBars_16 : decode cX6_howManyBars 16 = .ok (.invokestatic 89, 3) := by decide +kernel
theorem dX6_howManyBars_19 : decode cX6_howManyBars 19 = .ok (.getstatic 322, 3) := by decide +kernel
theorem dX6_howManyBars_22 : decode cX6_howManyBars 22 = .ok (.iload 4, 2) := by decide +kernel
theorem dX6_howManyBars_24 : decode cX6_howManyBars 24 = .ok (.iaload, 1) := by decide +kernel
theorem dX6_howManyBars_25 : decode cX6_howManyBars 25 = .ok (.invokestatic 309, 3) := by decide +kernel
theorem dX6_howManyBars_28 : decode cX6_howManyBars 28 = .ok (.ifCond .eq 6, 3) := by decide +kernel
theorem dX6_howManyBars_31 : decode cX6_howManyBars 31 = .ok (.iinc 3 1, 3) := by decide +kernel
theorem dX6_howManyBars_34 : decode cX6_howManyBars 34 = .ok (.iinc 4 1, 3) := by decide +kernel
theorem dX6_howManyBars_37 : decode cX6_howManyBars 37 = .ok (.goto (-32), 3) := by decide +kernel
theorem dX6_howManyBars_40 : decode cX6_howManyBars 40 = .ok (.iload_n 3, 1) := by decide +kernel
theorem dX6_howManyBars_41 : decode cX6_howManyBars 41 = .ok (.iload_n 0, 1) := by decide +kernel
theorem dX6_howManyBars_42 : decode cX6_howManyBars 42 = .ok (.iload_n 1, 1) := by decide +kernel
theorem dX6_howManyBars_43 : decode cX6_howManyBars 43 = .ok (.invokestatic 313, 3) := by decide +kernel
theorem dX6_howManyBars_46 : decode cX6_howManyBars 46 = .ok (.iload_n 2, 1) := by decide +kernel
theorem dX6_howManyBars_47 : decode cX6_howManyBars 47 = .ok (.invokestatic 316, 3) := by decide +kernel
theorem dX6_howManyBars_50 : decode cX6_howManyBars 50 = .ok (.invokestatic 293, 3) := by decide +kernel
theorem dX6_howManyBars_53 : decode cX6_howManyBars 53 = .ok (.imul, 1) := by decide +kernel
theorem dX6_howManyBars_54 : decode cX6_howManyBars 54 = .ok (.ireturn, 1) := by decide +kernel
theorem dX6_inStore_0 : decode cX6_inStore 0 = .ok (.iconst 0, 1) := by decide +kernel
theorem dX6_inStore_1 : decode cX6_inStore 1 = .ok (.istore_n 1, 1) := by decide +kernel
theorem dX6_inStore_2 : decode cX6_inStore 2 = .ok (.iconst 0, 1) := by decide +kernel
theorem dX6_inStore_3 : decode cX6_inStore 3 = .ok (.istore_n 2, 1) := by decide +kernel
theorem dX6_inStore_4 : decode cX6_inStore 4 = .ok (.iload_n 2, 1) := by decide +kernel
theorem dX6_inStore_5 : decode cX6_inStore 5 = .ok (.aload_n 0, 1) := by decide +kernel
theorem dX6_inStore_6 : decode cX6_inStore 6 = .ok (.arraylength, 1) := by decide +kernel
theorem dX6_inStore_7 : decode cX6_inStore 7 = .ok (.if_icmp .ge 21, 3) := by decide +kernel
theorem dX6_inStore_10 : decode cX6_inStore 10 = .ok (.aload_n 0, 1) := by decide +kernel
theorem dX6_inStore_11 : decode cX6_inStore 11 = .ok (.iload_n 2, 1) := by decide +kernel
theorem dX6_inStore_12 : decode cX6_inStore 12 = .ok (.iaload, 1) := by decide +kernel
theorem dX6_inStore_13 : decode cX6_inStore 13 = .ok (.ifCond .le 9, 3) := by decide +kernel
theorem dX6_inStore_16 : decode cX6_inStore 16 = .ok (.iload_n 1, 1) := by decide +kernel
theorem dX6_inStore_17 : decode cX6_inStore 17 = .ok (.iconst 1, 1) := by decide +kernel
theorem dX6_inStore_18 : decode cX6_inStore 18 = .ok (.iload_n 2, 1) := by decide +kernel
theorem dX6_inStore_19 : decode cX6_inStore 19 = .ok (.ishl, 1) := by decide +kernel
theorem dX6_inStore_20 : decode cX6_inStore 20 = .ok (.ior, 1) := by decide +kernel
theorem dX6_inStore_21 : decode cX6_inStore 21 = .ok (.istore_n 1, 1) := by decide +kernel
theorem dX6_inStore_22 : decode cX6_inStore 22 = .ok (.iinc 2 1, 3) := by decide +kernel
theorem dX6_inStore_25 : decode cX6_inStore 25 = .ok (.goto (-21), 3) := by decide +kernel
theorem dX6_inStore_28 : decode cX6_inStore 28 = .ok (.iload_n 1, 1) := by decide +kernel
theorem dX6_inStore_29 : decode cX6_inStore 29 = .ok (.ireturn, 1) := by decide +kernel
theorem dX6_takeFrom_0 : decode cX6_takeFrom 0 = .ok (.iconst 0, 1) := by decide +kernel
theorem dX6_takeFrom_1 : decode cX6_takeFrom 1 = .ok (.istore_n 2, 1) := by decide +kernel
theorem dX6_takeFrom_2 : decode cX6_takeFrom 2 = .ok (.iload_n 2, 1) := by decide +kernel
theorem dX6_takeFrom_3 : decode cX6_takeFrom 3 = .ok (.aload_n 0, 1) := by decide +kernel
theorem dX6_takeFrom_4 : decode cX6_takeFrom 4 = .ok (.arraylength, 1) := by decide +kernel
theorem dX6_takeFrom_5 : decode cX6_takeFrom 5 = .ok (.if_icmp .ge 27, 3) := by decide +kernel
theorem dX6_takeFrom_8 : decode cX6_takeFrom 8 = .ok (.iload_n 1, 1) := by decide +kernel
theorem dX6_takeFrom_9 : decode cX6_takeFrom 9 = .ok (.invokestatic 89, 3) := by decide +kernel
theorem dX6_takeFrom_12 : decode cX6_takeFrom 12 = .ok (.iload_n 2, 1) := by decide +kernel
theorem dX6_takeFrom_13 : decode cX6_takeFrom 13 = .ok (.invokestatic 319, 3) := by decide +kernel
theorem dX6_takeFrom_16 : decode cX6_takeFrom 16 = .ok (.ifCond .eq 10, 3) := by decide +kernel
theorem dX6_takeFrom_19 : decode cX6_takeFrom 19 = .ok (.aload_n 0, 1) := by decide +kernel
theorem dX6_takeFrom_20 : decode cX6_takeFrom 20 = .ok (.iload_n 2, 1) := by decide +kernel
theorem dX6_takeFrom_21 : decode cX6_takeFrom 21 = .ok (.dup2, 1) := by decide +kernel
theorem dX6_takeFrom_22 : decode cX6_takeFrom 22 = .ok (.iaload, 1) := by decide +kernel
theorem dX6_takeFrom_23 : decode cX6_takeFrom 23 = .ok (.iconst 1, 1) := by decide +kernel
theorem dX6_takeFrom_24 : decode cX6_takeFrom 24 = .ok (.isub, 1) := by decide +kernel
theorem dX6_takeFrom_25 : decode cX6_takeFrom 25 = .ok (.iastore, 1) := by decide +kernel
theorem dX6_takeFrom_26 : decode cX6_takeFrom 26 = .ok (.iinc 2 1, 3) := by decide +kernel
theorem dX6_takeFrom_29 : decode cX6_takeFrom 29 = .ok (.goto (-27), 3) := by decide +kernel
theorem dX6_takeFrom_32 : decode cX6_takeFrom 32 = .ok (.return_, 1) := by decide +kernel
theorem dJ6_bitCount_0f7a4_0 : decode cJ6_bitCount_0f7a4 0 = .ok (.iload_n 0, 1) := by decide +kernel
theorem dJ6_bitCount_0f7a4_1 : decode cJ6_bitCount_0f7a4 1 = .ok (.iload_n 0, 1) := by decide +kernel
theorem dJ6_bitCount_0f7a4_2 : decode cJ6_bitCount_0f7a4 2 = .ok (.iconst 1, 1) := by decide +kernel
theorem dJ6_bitCount_0f7a4_3 : decode cJ6_bitCount_0f7a4 3 = .ok (.iushr, 1) := by decide +kernel
theorem dJ6_bitCount_0f7a4_4 : decode cJ6_bitCount_0f7a4 4 = .ok (.ldc_w 265, 3) := by decide +kernel
theorem dJ6_bitCount_0f7a4_7 : decode cJ6_bitCount_0f7a4 7 = .ok (.iand, 1) := by decide +kernel
theorem dJ6_bitCount_0f7a4_8 : decode cJ6_bitCount_0f7a4 8 = .ok (.isub, 1) := by decide +kernel
theorem dJ6_bitCount_0f7a4_9 : decode cJ6_bitCount_0f7a4 9 = .ok (.istore_n 0, 1) := by decide +kernel
theorem dJ6_bitCount_0f7a4_10 : decode cJ6_bitCount_0f7a4 10 = .ok (.iload_n 0, 1) := by decide +kernel
theorem dJ6_bitCount_0f7a4_11 : decode cJ6_bitCount_0f7a4 11 = .ok (.ldc_w 266, 3) := by decide +kernel
theorem dJ6_bitCount_0f7a4_14 : decode cJ6_bitCount_0f7a4 14 = .ok (.iand, 1) := by decide +kernel
theorem dJ6_bitCount_0f7a4_15 : decode cJ6_bitCount_0f7a4 15 = .ok (.iload_n 0, 1) := by decide +kernel
theorem dJ6_bitCount_0f7a4_16 : decode cJ6_bitCount_0f7a4 16 = .ok (.iconst 2, 1) := by decide +kernel
theorem dJ6_bitCount_0f7a4_17 : decode cJ6_bitCount_0f7a4 17 = .ok (.iushr, 1) := by decide +kernel
theorem dJ6_bitCount_0f7a4_18 : decode cJ6_bitCount_0f7a4 18 = .ok (.ldc_w 266, 3) := by decide +kernel
theorem dJ6_bitCount_0f7a4_21 : decode cJ6_bitCount_0f7a4 21 = .ok (.iand, 1) := by decide +kernel
theorem dJ6_bitCount_0f7a4_22 : decode cJ6_bitCount_0f7a4 22 = .ok (.iadd, 1) := by decide +kernel
theorem dJ6_bitCount_0f7a4_23 : decode cJ6_bitCount_0f7a4 23 = .ok (.istore_n 0, 1) := by decide +kernel
theorem dJ6_bitCount_0f7a4_24 : decode cJ6_bitCount_0f7a4 24 = .ok (.iload_n 0, 1) := by decide +kernel
theorem dJ6_bitCount_0f7a4_25 : decode cJ6_bitCount_0f7a4 25 = .ok (.iload_n 0, 1) := by decide +kernel
theorem dJ6_bitCount_0f7a4_26 : decode cJ6_bitCount_0f7a4 26 = .ok (.iconst 4, 1) := by decide +kernel
theorem dJ6_bitCount_0f7a4_27 : decode cJ6_bitCount_0f7a4 27 = .ok (.iushr, 1) := by decide +kernel
theorem dJ6_bitCount_0f7a4_28 : decode cJ6_bitCount_0f7a4 28 = .ok (.iadd, 1) := by decide +kernel
theorem dJ6_bitCount_0f7a4_29 : decode cJ6_bitCount_0f7a4 29 = .ok (.ldc_w 267, 3) := by decide +kernel
theorem dJ6_bitCount_0f7a4_32 : decode cJ6_bitCount_0f7a4 32 = .ok (.iand, 1) := by decide +kernel
theorem dJ6_bitCount_0f7a4_33 : decode cJ6_bitCount_0f7a4 33 = .ok (.istore_n 0, 1) := by decide +kernel
theorem dJ6_bitCount_0f7a4_34 : decode cJ6_bitCount_0f7a4 34 = .ok (.iload_n 0, 1) := by decide +kernel
theorem dJ6_bitCount_0f7a4_35 : decode cJ6_bitCount_0f7a4 35 = .ok (.iload_n 0, 1) := by decide +kernel
theorem dJ6_bitCount_0f7a4_36 : decode cJ6_bitCount_0f7a4 36 = .ok (.bipush 8, 2) := by decide +kernel
theorem dJ6_bitCount_0f7a4_38 : decode cJ6_bitCount_0f7a4 38 = .ok (.iushr, 1) := by decide +kernel
theorem dJ6_bitCount_0f7a4_39 : decode cJ6_bitCount_0f7a4 39 = .ok (.iadd, 1) := by decide +kernel
theorem dJ6_bitCount_0f7a4_40 : decode cJ6_bitCount_0f7a4 40 = .ok (.istore_n 0, 1) := by decide +kernel
theorem dJ6_bitCount_0f7a4_41 : decode cJ6_bitCount_0f7a4 41 = .ok (.iload_n 0, 1) := by decide +kernel
theorem dJ6_bitCount_0f7a4_42 : decode cJ6_bitCount_0f7a4 42 = .ok (.iload_n 0, 1) := by decide +kernel
theorem dJ6_bitCount_0f7a4_43 : decode cJ6_bitCount_0f7a4 43 = .ok (.bipush 16, 2) := by decide +kernel
theorem dJ6_bitCount_0f7a4_45 : decode cJ6_bitCount_0f7a4 45 = .ok (.iushr, 1) := by decide +kernel
theorem dJ6_bitCount_0f7a4_46 : decode cJ6_bitCount_0f7a4 46 = .ok (.iadd, 1) := by decide +kernel
theorem dJ6_bitCount_0f7a4_47 : decode cJ6_bitCount_0f7a4 47 = .ok (.istore_n 0, 1) := by decide +kernel
theorem dJ6_bitCount_0f7a4_48 : decode cJ6_bitCount_0f7a4 48 = .ok (.iload_n 0, 1) := by decide +kernel
theorem dJ6_bitCount_0f7a4_49 : decode cJ6_bitCount_0f7a4 49 = .ok (.bipush 63, 2) := by decide +kernel
theorem dJ6_bitCount_0f7a4_51 : decode cJ6_bitCount_0f7a4 51 = .ok (.iand, 1) := by decide +kernel
theorem dJ6_bitCount_0f7a4_52 : decode cJ6_bitCount_0f7a4 52 = .ok (.ireturn, 1) := by decide +kernel
theorem dJ9_min_7cf53_0 : decode cJ9_min_7cf53 0 = .ok (.iload_n 0, 1) := by decide +kernel
theorem dJ9_min_7cf53_1 : decode cJ9_min_7cf53 1 = .ok (.iload_n 1, 1) := by decide +kernel
theorem dJ9_min_7cf53_2 : decode cJ9_min_7cf53 2 = .ok (.if_icmp .gt 7, 3) := by decide +kernel
theorem dJ9_min_7cf53_5 : decode cJ9_min_7cf53 5 = .ok (.iload_n 0, 1) := by decide +kernel
theorem dJ9_min_7cf53_6 : decode cJ9_min_7cf53 6 = .ok (.goto 4, 3) := by decide +kernel
theorem dJ9_min_7cf53_9 : decode cJ9_min_7cf53 9 = .ok (.iload_n 1, 1) := by decide +kernel
theorem dJ9_min_7cf53_10 : decode cJ9_min_7cf53 10 = .ok (.ireturn, 1) := by decide +kernel
theorem dJ0_length_8abf5_0 : decode cJ0_length_8abf5 0 = .ok (.aload_n 0, 1) := by decide +kernel
theorem dJ0_length_8abf5_1 : decode cJ0_length_8abf5 1 = .ok (.getfield 9, 3) := by decide +kernel
theorem dJ0_length_8abf5_4 : decode cJ0_length_8abf5 4 = .ok (.arraylength, 1) := by decide +kernel
theorem dJ0_length_8abf5_5 : decode cJ0_length_8abf5 5 = .ok (.aload_n 0, 1) := by decide +kernel
theorem dJ0_length_8abf5_6 : decode cJ0_length_8abf5 6 = .ok (.invokevirtual 335, 3) := by decide +kernel
theorem dJ0_length_8abf5_9 : decode cJ0_length_8abf5 9 = .ok (.ishr, 1) := by decide +kernel
theorem dJ0_length_8abf5_10 : decode cJ0_length_8abf5 10 = .ok (.ireturn, 1) := by decide +kernel
theorem dJ0_charAt_5068e_0 : decode cJ0_charAt_5068e 0 = .ok (.aload_n 0, 1) := by decide +kernel
theorem dJ0_charAt_5068e_1 : decode cJ0_charAt_5068e 1 = .ok (.invokevirtual 492, 3) := by decide +kernel
theorem dJ0_charAt_5068e_4 : decode cJ0_charAt_5068e 4 = .ok (.ifCond .eq 12, 3) := by decide +kernel
theorem dJ0_charAt_5068e_7 : decode cJ0_charAt_5068e 7 = .ok (.aload_n 0, 1) := by decide +kernel
theorem dJ0_charAt_5068e_8 : decode cJ0_charAt_5068e 8 = .ok (.getfield 9, 3) := by decide +kernel
theorem dJ0_charAt_5068e_11 : decode cJ0_charAt_5068e 11 = .ok (.iload_n 1, 1) := by decide +kernel
theorem dJ0_charAt_5068e_12 : decode cJ0_charAt_5068e 12 = .ok (.invokestatic 495, 3) := by decide +kernel
theorem dJ0_charAt_5068e_15 : decode cJ0_charAt_5068e 15 = .ok (.ireturn, 1) := by decide +kernel
theorem dJ0_charAt_5068e_16 : decode cJ0_charAt_5068e 16 = .ok (.aload_n 0, 1) := by decide +kernel
theorem dJ0_charAt_5068e_17 : decode cJ0_charAt_5068e 17 = .ok (.getfield 9, 3) := by decide +kernel
theorem dJ0_charAt_5068e_20 : decode cJ0_charAt_5068e 20 = .ok (.iload_n 1, 1) := by decide +kernel
theorem dJ0_charAt_5068e_21 : decode cJ0_charAt_5068e 21 = .ok (.invokestatic 498, 3) := by decide +kernel
theorem dJ0_charAt_5068e_24 : decode cJ0_charAt_5068e 24 = .ok (.ireturn, 1) := by decide +kernel
theorem dJ0_coder_7d493_0 : decode cJ0_coder_7d493 0 = .ok (.getstatic 38, 3) := by decide +kernel
theorem dJ0_coder_7d493_3 : decode cJ0_coder_7d493 3 = .ok (.ifCond .eq 10, 3) := by decide +kernel
theorem dJ0_coder_7d493_6 : decode cJ0_coder_7d493 6 = .ok (.aload_n 0, 1) := by decide +kernel
theorem dJ0_coder_7d493_7 : decode cJ0_coder_7d493 7 = .ok (.getfield 15, 3) := by decide +kernel
theorem dJ0_coder_7d493_10 : decode cJ0_coder_7d493 10 = .ok (.goto 4, 3) := by decide +kernel
theorem dJ0_coder_7d493_13 : decode cJ0_coder_7d493 13 = .ok (.iconst 1, 1) := by decide +kernel
theorem dJ0_coder_7d493_14 : decode cJ0_coder_7d493 14 = .ok (.ireturn, 1) := by decide +kernel
theorem dJ0_isLatin1_aae02_0 : decode cJ0_isLatin1_aae02 0 = .ok (.getstatic 38, 3) := by decide +kernel
theorem dJ0_isLatin1_aae02_3 : decode cJ0_isLatin1_aae02 3 = .ok (.ifCond .eq 14, 3) := by decide +kernel
theorem dJ0_isLatin1_aae02_6 : decode cJ0_isLatin1_aae02 6 = .ok (.aload_n 0, 1) := by decide +kernel
theorem dJ0_isLatin1_aae02_7 : decode cJ0_isLatin1_aae02 7 = .ok (.getfield 15, 3) := by decide +kernel
theorem dJ0_isLatin1_aae02_10 : decode cJ0_isLatin1_aae02 10 = .ok (.ifCond .ne 7, 3) := by decide +kernel
theorem dJ0_isLatin1_aae02_13 : decode cJ0_isLatin1_aae02 13 = .ok (.iconst 1, 1) := by decide +kernel
theorem dJ0_isLatin1_aae02_14 : decode cJ0_isLatin1_aae02 14 = .ok (.goto 4, 3) := by decide +kernel
theorem dJ0_isLatin1_aae02_17 : decode cJ0_isLatin1_aae02 17 = .ok (.iconst 0, 1) := by decide +kernel
theorem dJ0_isLatin1_aae02_18 : decode cJ0_isLatin1_aae02 18 = .ok (.ireturn, 1) := by decide +kernel
theorem dJ0_checkIndex_df160_0 : decode cJ0_checkIndex_df160 0 = .ok (.iload_n 0, 1) := by decide +kernel
theorem dJ0_checkIndex_df160_1 : decode cJ0_checkIndex_df160 1 = .ok (.iload_n 1, 1) := by decide +kernel
theorem dJ0_checkIndex_df160_2 : decode cJ0_checkIndex_df160 2 = .ok (.getstatic 1053, 3) := by decide +kernel
theorem dJ0_checkIndex_df160_5 : decode cJ0_checkIndex_df160 5 = .ok (.invokestatic 1059, 3) := by decide +kernel
theorem dJ0_checkIndex_df160_8 : decode cJ0_checkIndex_df160 8 = .ok (.pop, 1) := by decide +kernel
theorem dJ0_checkIndex_df160_9 : decode cJ0_checkIndex_df160 9 = .ok (.return_, 1) := by decide +kernel
theorem dJ1_charAt_3b067_0 : decode cJ1_charAt_3b067 0 = .ok (.iload_n 1, 1) := by decide +kernel
theorem dJ1_charAt_3b067_1 : decode cJ1_charAt_3b067 1 = .ok (.aload_n 0, 1) := by decide +kernel
theorem dJ1_charAt_3b067_2 : decode cJ1_charAt_3b067 2 = .ok (.arraylength, 1) := by decide +kernel
theorem dJ1_charAt_3b067_3 : decode cJ1_charAt_3b067 3 = .ok (.invokestatic 9, 3) := by decide +kernel
theorem dJ1_charAt_3b067_6 : decode cJ1_charAt_3b067 6 = .ok (.aload_n 0, 1) := by decide +kernel
theorem dJ1_charAt_3b067_7 : decode cJ1_charAt_3b067 7 = .ok (.iload_n 1, 1) := by decide +kernel
theorem dJ1_charAt_3b067_8 : decode cJ1_charAt_3b067 8 = .ok (.baload, 1) := by decide +kernel
theorem dJ1_charAt_3b067_9 : decode cJ1_charAt_3b067 9 = .ok (.sipush 255, 3) := by decide +kernel
theorem dJ1_charAt_3b067_12 : decode cJ1_charAt_3b067 12 = .ok (.iand, 1) := by decide +kernel
theorem dJ1_charAt_3b067_13 : decode cJ1_charAt_3b067 13 = .ok (.i2c, 1) := by decide +kernel
theorem dJ1_charAt_3b067_14 : decode cJ1_charAt_3b067 14 = .ok (.ireturn, 1) := by decide +kernel
theorem dJ2_getChar_3b067_0 : decode cJ2_getChar_3b067 0 = .ok (.getstatic 44, 3) := by decide +kernel
theorem dJ2_getChar_3b067_3 : decode cJ2_getChar_3b067 3 = .ok (.ifCond .ne 25, 3) := by decide +kernel
theorem dJ2_getChar_3b067_6 : decode cJ2_getChar_3b067 6 = .ok (.iload_n 1, 1) := by decide +kernel
theorem dJ2_getChar_3b067_7 : decode cJ2_getChar_3b067 7 = .ok (.ifCond .lt 11, 3) := by decide +kernel
theorem dJ2_getChar_3b067_10 : decode cJ2_getChar_3b067 10 = .ok (.iload_n 1, 1) := by decide +kernel
theorem dJ2_getChar_3b067_11 : decode cJ2_getChar_3b067 11 = .ok (.aload_n 0, 1) := by decide +kernel
theorem dJ2_getChar_3b067_12 : decode cJ2_getChar_3b067 12 = .ok (.invokestatic 48, 3) := by decide +kernel
theorem dJ2_getChar_3b067_15 : decode cJ2_getChar_3b067 15 = .ok (.if_icmp .lt 13, 3) := by decide +kernel
theorem dJ2_getChar_3b067_18 : decode cJ2_getChar_3b067 18 = .ok (.new 52, 3) := by decide +kernel
theorem dJ2_getChar_3b067_21 : decode cJ2_getChar_3b067 21 = .ok (.dup, 1) := by decide +kernel
theorem dJ2_getChar_3b067_22 : decode cJ2_getChar_3b067 22 = .ok (.ldc 54, 2) := by decide +kernel
theorem dJ2_getChar_3b067_24 : decode cJ2_getChar_3b067 24 = .ok (.invokespecial 56, 3) := by decide +kernel
theorem dJ2_getChar_3b067_27 : decode cJ2_getChar_3b067 27 = .ok (.athrow, 1) := by decide +kernel
theorem dJ2_getChar_3b067_28 : decode cJ2_getChar_3b067 28 = .ok (.iload_n 1, 1) := by decide +kernel
theorem dJ2_getChar_3b067_29 : decode cJ2_getChar_3b067 29 = .ok (.iconst 1, 1) := by decide +kernel
theorem dJ2_getChar_3b067_30 : decode cJ2_getChar_3b067 30 = .ok (.ishl, 1) := by decide +kernel
theorem dJ2_getChar_3b067_31 : decode cJ2_getChar_3b067 31 = .ok (.istore_n 1, 1) := by decide +kernel
theorem dJ2_getChar_3b067_32 : decode cJ2_getChar_3b067 32 = .ok (.aload_n 0, 1) := by decide +kernel
theorem dJ2_getChar_3b067_33 : decode cJ2_getChar_3b067 33 = .ok (.iload_n 1, 1) := by decide +kernel
theorem dJ2_getChar_3b067_34 : decode cJ2_getChar_3b067 34 = .ok (.iinc 1 1, 3) := by decide +kernel
theorem dJ2_getChar_3b067_37 : decode cJ2_getChar_3b067 37 = .ok (.baload, 1) := by decide +kernel
theorem dJ2_getChar_3b067_38 : decode cJ2_getChar_3b067 38 = .ok (.sipush 255, 3) := by decide +kernel
theorem dJ2_getChar_3b067_41 : decode cJ2_getChar_3b067 41 = .ok (.iand, 1) := by decide +kernel
theorem dJ2_getChar_3b067_42 : decode cJ2_getChar_3b067 42 = .ok (.getstatic 59, 3) := by decide +kernel
theorem dJ2_getChar_3b067_45 : decode cJ2_getChar_3b067 45 = .ok (.ishl, 1) := by decide +kernel
theorem dJ2_getChar_3b067_46 : decode cJ2_getChar_3b067 46 = .ok (.aload_n 0, 1) := by decide +kernel
theorem dJ2_getChar_3b067_47 : decode cJ2_getChar_3b067 47 = .ok (.iload_n 1, 1) := by decide +kernel
theorem dJ2_getChar_3b067_48 : decode cJ2_getChar_3b067 48 = .ok (.baload, 1) := by decide +kernel
theorem dJ2_getChar_3b067_49 : decode cJ2_getChar_3b067 49 = .ok (.sipush 255, 3) := by decide +kernel
theorem dJ2_getChar_3b067_52 : decode cJ2_getChar_3b067 52 = .ok (.iand, 1) := by decide +kernel
theorem dJ2_getChar_3b067_53 : decode cJ2_getChar_3b067 53 = .ok (.getstatic 63, 3) := by decide +kernel
theorem dJ2_getChar_3b067_56 : decode cJ2_getChar_3b067 56 = .ok (.ishl, 1) := by decide +kernel
theorem dJ2_getChar_3b067_57 : decode cJ2_getChar_3b067 57 = .ok (.ior, 1) := by decide +kernel
theorem dJ2_getChar_3b067_58 : decode cJ2_getChar_3b067 58 = .ok (.i2c, 1) := by decide +kernel
theorem dJ2_getChar_3b067_59 : decode cJ2_getChar_3b067 59 = .ok (.ireturn, 1) := by decide +kernel
theorem dJ2_length_9d52b_0 : decode cJ2_length_9d52b 0 = .ok (.aload_n 0, 1) := by decide +kernel
theorem dJ2_length_9d52b_1 : decode cJ2_length_9d52b 1 = .ok (.arraylength, 1) := by decide +kernel
theorem dJ2_length_9d52b_2 : decode cJ2_length_9d52b 2 = .ok (.iconst 1, 1) := by decide +kernel
theorem dJ2_length_9d52b_3 : decode cJ2_length_9d52b 3 = .ok (.ishr, 1) := by decide +kernel
theorem dJ2_length_9d52b_4 : decode cJ2_length_9d52b 4 = .ok (.ireturn, 1) := by decide +kernel
theorem dJ2_charAt_3b067_0 : decode cJ2_charAt_3b067 0 = .ok (.iload_n 1, 1) := by decide +kernel
theorem dJ2_charAt_3b067_1 : decode cJ2_charAt_3b067 1 = .ok (.aload_n 0, 1) := by decide +kernel
theorem dJ2_charAt_3b067_2 : decode cJ2_charAt_3b067 2 = .ok (.invokestatic 67, 3) := by decide +kernel
theorem dJ2_charAt_3b067_5 : decode cJ2_charAt_3b067 5 = .ok (.aload_n 0, 1) := by decide +kernel
theorem dJ2_charAt_3b067_6 : decode cJ2_charAt_3b067 6 = .ok (.iload_n 1, 1) := by decide +kernel
theorem dJ2_charAt_3b067_7 : decode cJ2_charAt_3b067 7 = .ok (.invokestatic 71, 3) := by decide +kernel
theorem dJ2_charAt_3b067_10 : decode cJ2_charAt_3b067 10 = .ok (.ireturn, 1) := by decide +kernel
theorem dJ2_checkIndex_2214a_0 : decode cJ2_checkIndex_2214a 0 = .ok (.iload_n 0, 1) := by decide +kernel
theorem dJ2_checkIndex_2214a_1 : decode cJ2_checkIndex_2214a 1 = .ok (.aload_n 1, 1) := by decide +kernel
theorem dJ2_checkIndex_2214a_2 : decode cJ2_checkIndex_2214a 2 = .ok (.invokestatic 48, 3) := by decide +kernel
theorem dJ2_checkIndex_2214a_5 : decode cJ2_checkIndex_2214a 5 = .ok (.invokestatic 414, 3) := by decide +kernel
theorem dJ2_checkIndex_2214a_8 : decode cJ2_checkIndex_2214a 8 = .ok (.return_, 1) := by decide +kernel
theorem dJ7_fill_d0a16_0 : decode cJ7_fill_d0a16 0 = .ok (.iconst 0, 1) := by decide +kernel
theorem dJ7_fill_d0a16_1 : decode cJ7_fill_d0a16 1 = .ok (.istore_n 3, 1) := by decide +kernel
theorem dJ7_fill_d0a16_2 : decode cJ7_fill_d0a16 2 = .ok (.aload_n 0, 1) := by decide +kernel
theorem dJ7_fill_d0a16_3 : decode cJ7_fill_d0a16 3 = .ok (.arraylength, 1) := by decide +kernel
theorem dJ7_fill_d0a16_4 : decode cJ7_fill_d0a16 4 = .ok (.istore 4, 2) := by decide +kernel
theorem dJ7_fill_d0a16_6 : decode cJ7_fill_d0a16 6 = .ok (.iload_n 3, 1) := by decide +kernel
theorem dJ7_fill_d0a16_7 : decode cJ7_fill_d0a16 7 = .ok (.iload 4, 2) := by decide +kernel
theorem dJ7_fill_d0a16_9 : decode cJ7_fill_d0a16 9 = .ok (.if_icmp .ge 13, 3) := by decide +kernel
theorem dJ7_fill_d0a16_12 : decode cJ7_fill_d0a16 12 = .ok (.aload_n 0, 1) := by decide +kernel
theorem dJ7_fill_d0a16_13 : decode cJ7_fill_d0a16 13 = .ok (.iload_n 3, 1) := by decide +kernel
theorem dJ7_fill_d0a16_14 : decode cJ7_fill_d0a16 14 = .ok (.lload_n 1, 1) := by decide +kernel
theorem dJ7_fill_d0a16_15 : decode cJ7_fill_d0a16 15 = .ok (.lastore, 1) := by decide +kernel
theorem dJ7_fill_d0a16_16 : decode cJ7_fill_d0a16 16 = .ok (.iinc 3 1, 3) := by decide +kernel
theorem dJ7_fill_d0a16_19 : decode cJ7_fill_d0a16 19 = .ok (.goto (-13), 3) := by decide +kernel
theorem dJ7_fill_d0a16_22 : decode cJ7_fill_d0a16 22 = .ok (.return_, 1) := by decide +kernel
theorem dJ7_fill_53178_0 : decode cJ7_fill_53178 0 = .ok (.iconst 0, 1) := by decide +kernel
theorem dJ7_fill_53178_1 : decode cJ7_fill_53178 1 = .ok (.istore_n 2, 1) := by decide +kernel
theorem dJ7_fill_53178_2 : decode cJ7_fill_53178 2 = .ok (.aload_n 0, 1) := by decide +kernel
theorem dJ7_fill_53178_3 : decode cJ7_fill_53178 3 = .ok (.arraylength, 1) := by decide +kernel
theorem dJ7_fill_53178_4 : decode cJ7_fill_53178 4 = .ok (.istore_n 3, 1) := by decide +kernel
theorem dJ7_fill_53178_5 : decode cJ7_fill_53178 5 = .ok (.iload_n 2, 1) := by decide +kernel
theorem dJ7_fill_53178_6 : decode cJ7_fill_53178 6 = .ok (.iload_n 3, 1) := by decide +kernel
theorem dJ7_fill_53178_7 : decode cJ7_fill_53178 7 = .ok (.if_icmp .ge 13, 3) := by decide +kernel
theorem dJ7_fill_53178_10 : decode cJ7_fill_53178 10 = .ok (.aload_n 0, 1) := by decide +kernel
theorem dJ7_fill_53178_11 : decode cJ7_fill_53178 11 = .ok (.iload_n 2, 1) := by decide +kernel
theorem dJ7_fill_53178_12 : decode cJ7_fill_53178 12 = .ok (.iload_n 1, 1) := by decide +kernel
theorem dJ7_fill_53178_13 : decode cJ7_fill_53178 13 = .ok (.iastore, 1) := by decide +kernel
theorem dJ7_fill_53178_14 : decode cJ7_fill_53178 14 = .ok (.iinc 2 1, 3) := by decide +kernel
theorem dJ7_fill_53178_17 : decode cJ7_fill_53178 17 = .ok (.goto (-12), 3) := by decide +kernel
theorem dJ7_fill_53178_20 : decode cJ7_fill_53178 20 = .ok (.return_, 1) := by decide +kernel
theorem dJ3_checkIndex_8e157_0 : decode cJ3_checkIndex_8e157 0 = .ok (.iload_n 0, 1) := by decide +kernel
theorem dJ3_checkIndex_8e157_1 : decode cJ3_checkIndex_8e157 1 = .ok (.ifCond .lt 8, 3) := by decide +kernel
theorem dJ3_checkIndex_8e157_4 : decode cJ3_checkIndex_8e157 4 = .ok (.iload_n 0, 1) := by decide +kernel
theorem dJ3_checkIndex_8e157_5 : decode cJ3_checkIndex_8e157 5 = .ok (.iload_n 1, 1) := by decide +kernel
theorem dJ3_checkIndex_8e157_6 : decode cJ3_checkIndex_8e157 6 = .ok (.if_icmp .lt 10, 3) := by decide +kernel
theorem dJ3_checkIndex_8e157_9 : decode cJ3_checkIndex_8e157 9 = .ok (.aload_n 2, 1) := by decide +kernel
theorem dJ3_checkIndex_8e157_10 : decode cJ3_checkIndex_8e157 10 = .ok (.iload_n 0, 1) := by decide +kernel
theorem dJ3_checkIndex_8e157_11 : decode cJ3_checkIndex_8e157 11 = .ok (.iload_n 1, 1) := by decide +kernel
theorem dJ3_checkIndex_8e157_12 : decode cJ3_checkIndex_8e157 12 = .ok (.invokestatic 95, 3) := by decide +kernel
theorem dJ3_checkIndex_8e157_15 : decode cJ3_checkIndex_8e157 15 = .ok (.athrow, 1) := by decide +kernel
theorem dJ3_checkIndex_8e157_16 : decode cJ3_checkIndex_8e157 16 = .ok (.iload_n 0, 1) := by decide +kernel
theorem dJ3_checkIndex_8e157_17 : decode cJ3_checkIndex_8e157 17 = .ok (.ireturn, 1) := by decide +kernel
