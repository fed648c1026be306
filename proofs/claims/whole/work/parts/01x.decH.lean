theorem d_H_init_0 : decode b_H_init 0 = .ok (.aload_n 0, 1) := by decide +kernel
theorem d_H_init_1 : decode b_H_init 1 = .ok (.invokespecial 3, 3) := by decide +kernel
theorem d_H_init_4 : decode b_H_init 4 = .ok (.aload_n 0, 1) := by decide +kernel
theorem d_H_init_5 : decode b_H_init 5 = .ok (.bipush 8, 2) := by decide +kernel
theorem d_H_init_7 : decode b_H_init 7 = .ok (.newarray .long, 2) := by decide +kernel
theorem d_H_init_9 : decode b_H_init 9 = .ok (.putfield 9, 3) := by decide +kernel
theorem d_H_init_12 : decode b_H_init 12 = .ok (.aload_n 0, 1) := by decide +kernel
theorem d_H_init_13 : decode b_H_init 13 = .ok (.bipush 8, 2) := by decide +kernel
theorem d_H_init_15 : decode b_H_init 15 = .ok (.newarray .long, 2) := by decide +kernel
theorem d_H_init_17 : decode b_H_init 17 = .ok (.putfield 15, 3) := by decide +kernel
theorem d_H_init_20 : decode b_H_init 20 = .ok (.aload_n 0, 1) := by decide +kernel
theorem d_H_init_21 : decode b_H_init 21 = .ok (.bipush 8, 2) := by decide +kernel
theorem d_H_init_23 : decode b_H_init 23 = .ok (.newarray .int, 2) := by decide +kernel
theorem d_H_init_25 : decode b_H_init 25 = .ok (.putfield 18, 3) := by decide +kernel
theorem d_H_init_28 : decode b_H_init 28 = .ok (.return_, 1) := by decide +kernel
theorem d_H_tick_0 : decode b_H_tick 0 = .ok (.aload_n 0, 1) := by decide +kernel
theorem d_H_tick_1 : decode b_H_tick 1 = .ok (.dup, 1) := by decide +kernel
theorem d_H_tick_2 : decode b_H_tick 2 = .ok (.getfield 22, 3) := by decide +kernel
theorem d_H_tick_5 : decode b_H_tick 5 = .ok (.iload_n 1, 1) := by decide +kernel
theorem d_H_tick_6 : decode b_H_tick 6 = .ok (.i2l, 1) := by decide +kernel
theorem d_H_tick_7 : decode b_H_tick 7 = .ok (.ladd, 1) := by decide +kernel
theorem d_H_tick_8 : decode b_H_tick 8 = .ok (.putfield 22, 3) := by decide +kernel
theorem d_H_tick_11 : decode b_H_tick 11 = .ok (.aload_n 0, 1) := by decide +kernel
theorem d_H_tick_12 : decode b_H_tick 12 = .ok (.dup, 1) := by decide +kernel
theorem d_H_tick_13 : decode b_H_tick 13 = .ok (.getfield 26, 3) := by decide +kernel
theorem d_H_tick_16 : decode b_H_tick 16 = .ok (.iload_n 2, 1) := by decide +kernel
theorem d_H_tick_17 : decode b_H_tick 17 = .ok (.i2l, 1) := by decide +kernel
theorem d_H_tick_18 : decode b_H_tick 18 = .ok (.iload_n 1, 1) := by decide +kernel
theorem d_H_tick_19 : decode b_H_tick 19 = .ok (.i2l, 1) := by decide +kernel
theorem d_H_tick_20 : decode b_H_tick 20 = .ok (.lmul, 1) := by decide +kernel
theorem d_H_tick_21 : decode b_H_tick 21 = .ok (.ladd, 1) := by decide +kernel
theorem d_H_tick_22 : decode b_H_tick 22 = .ok (.putfield 26, 3) := by decide +kernel
theorem d_H_tick_25 : decode b_H_tick 25 = .ok (.return_, 1) := by decide +kernel
theorem d_H_mark_0 : decode b_H_mark 0 = .ok (.aload_n 0, 1) := by decide +kernel
theorem d_H_mark_1 : decode b_H_mark 1 = .ok (.getfield 29, 3) := by decide +kernel
theorem d_H_mark_4 : decode b_H_mark 4 = .ok (.ifCond .le 23, 3) := by decide +kernel
theorem d_H_mark_7 : decode b_H_mark 7 = .ok (.aload_n 0, 1) := by decide +kernel
theorem d_H_mark_8 : decode b_H_mark 8 = .ok (.getfield 9, 3) := by decide +kernel
theorem d_H_mark_11 : decode b_H_mark 11 = .ok (.aload_n 0, 1) := by decide +kernel
theorem d_H_mark_12 : decode b_H_mark 12 = .ok (.getfield 29, 3) := by decide +kernel
theorem d_H_mark_15 : decode b_H_mark 15 = .ok (.iconst 1, 1) := by decide +kernel
theorem d_H_mark_16 : decode b_H_mark 16 = .ok (.isub, 1) := by decide +kernel
theorem d_H_mark_17 : decode b_H_mark 17 = .ok (.laload, 1) := by decide +kernel
theorem d_H_mark_18 : decode b_H_mark 18 = .ok (.aload_n 0, 1) := by decide +kernel
theorem d_H_mark_19 : decode b_H_mark 19 = .ok (.getfield 22, 3) := by decide +kernel
theorem d_H_mark_22 : decode b_H_mark 22 = .ok (.lcmp, 1) := by decide +kernel
theorem d_H_mark_23 : decode b_H_mark 23 = .ok (.ifCond .ne 4, 3) := by decide +kernel
theorem d_H_mark_26 : decode b_H_mark 26 = .ok (.return_, 1) := by decide +kernel
theorem d_H_mark_27 : decode b_H_mark 27 = .ok (.aload_n 0, 1) := by decide +kernel
theorem d_H_mark_28 : decode b_H_mark 28 = .ok (.getfield 29, 3) := by decide +kernel
theorem d_H_mark_31 : decode b_H_mark 31 = .ok (.bipush 8, 2) := by decide +kernel
theorem d_H_mark_33 : decode b_H_mark 33 = .ok (.if_icmp .ne 7, 3) := by decide +kernel
theorem d_H_mark_36 : decode b_H_mark 36 = .ok (.aload_n 0, 1) := by decide +kernel
theorem d_H_mark_37 : decode b_H_mark 37 = .ok (.invokevirtual 33, 3) := by decide +kernel
theorem d_H_mark_40 : decode b_H_mark 40 = .ok (.aload_n 0, 1) := by decide +kernel
theorem d_H_mark_41 : decode b_H_mark 41 = .ok (.getfield 9, 3) := by decide +kernel
theorem d_H_mark_44 : decode b_H_mark 44 = .ok (.aload_n 0, 1) := by decide +kernel
theorem d_H_mark_45 : decode b_H_mark 45 = .ok (.getfield 29, 3) := by decide +kernel
theorem d_H_mark_48 : decode b_H_mark 48 = .ok (.aload_n 0, 1) := by decide +kernel
theorem d_H_mark_49 : decode b_H_mark 49 = .ok (.getfield 22, 3) := by decide +kernel
theorem d_H_mark_52 : decode b_H_mark 52 = .ok (.lastore, 1) := by decide +kernel
theorem d_H_mark_53 : decode b_H_mark 53 = .ok (.aload_n 0, 1) := by decide +kernel
theorem d_H_mark_54 : decode b_H_mark 54 = .ok (.getfield 15, 3) := by decide +kernel
theorem d_H_mark_57 : decode b_H_mark 57 = .ok (.aload_n 0, 1) := by decide +kernel
theorem d_H_mark_58 : decode b_H_mark 58 = .ok (.getfield 29, 3) := by decide +kernel
theorem d_H_mark_61 : decode b_H_mark 61 = .ok (.aload_n 0, 1) := by decide +kernel
theorem d_H_mark_62 : decode b_H_mark 62 = .ok (.getfield 26, 3) := by decide +kernel
theorem d_H_mark_65 : decode b_H_mark 65 = .ok (.lastore, 1) := by decide +kernel
theorem d_H_mark_66 : decode b_H_mark 66 = .ok (.aload_n 0, 1) := by decide +kernel
theorem d_H_mark_67 : decode b_H_mark 67 = .ok (.getfield 18, 3) := by decide +kernel
theorem d_H_mark_70 : decode b_H_mark 70 = .ok (.aload_n 0, 1) := by decide +kernel
theorem d_H_mark_71 : decode b_H_mark 71 = .ok (.getfield 29, 3) := by decide +kernel
theorem d_H_mark_74 : decode b_H_mark 74 = .ok (.iload_n 1, 1) := by decide +kernel
theorem d_H_mark_75 : decode b_H_mark 75 = .ok (.iastore, 1) := by decide +kernel
theorem d_H_mark_76 : decode b_H_mark 76 = .ok (.aload_n 0, 1) := by decide +kernel
theorem d_H_mark_77 : decode b_H_mark 77 = .ok (.dup, 1) := by decide +kernel
theorem d_H_mark_78 : decode b_H_mark 78 = .ok (.getfield 29, 3) := by decide +kernel
theorem d_H_mark_81 : decode b_H_mark 81 = .ok (.iconst 1, 1) := by decide +kernel
theorem d_H_mark_82 : decode b_H_mark 82 = .ok (.iadd, 1) := by decide +kernel
theorem d_H_mark_83 : decode b_H_mark 83 = .ok (.putfield 29, 3) := by decide +kernel
theorem d_H_mark_86 : decode b_H_mark 86 = .ok (.return_, 1) := by decide +kernel
theorem d_H_dropOldest_0 : decode b_H_dropOldest 0 = .ok (.iconst 1, 1) := by decide +kernel
theorem d_H_dropOldest_1 : decode b_H_dropOldest 1 = .ok (.istore_n 1, 1) := by decide +kernel
theorem d_H_dropOldest_2 : decode b_H_dropOldest 2 = .ok (.iload_n 1, 1) := by decide +kernel
theorem d_H_dropOldest_3 : decode b_H_dropOldest 3 = .ok (.bipush 8, 2) := by decide +kernel
theorem d_H_dropOldest_5 : decode b_H_dropOldest 5 = .ok (.if_icmp .ge 51, 3) := by decide +kernel
theorem d_H_dropOldest_8 : decode b_H_dropOldest 8 = .ok (.aload_n 0, 1) := by decide +kernel
theorem d_H_dropOldest_9 : decode b_H_dropOldest 9 = .ok (.getfield 9, 3) := by decide +kernel
theorem d_H_dropOldest_12 : decode b_H_dropOldest 12 = .ok (.iload_n 1, 1) := by decide +kernel
theorem d_H_dropOldest_13 : decode b_H_dropOldest 13 = .ok (.iconst 1, 1) := by decide +kernel
theorem d_H_dropOldest_14 : decode b_H_dropOldest 14 = .ok (.isub, 1) := by decide +kernel
theorem d_H_dropOldest_15 : decode b_H_dropOldest 15 = .ok (.aload_n 0, 1) := by decide +kernel
theorem d_H_dropOldest_16 : decode b_H_dropOldest 16 = .ok (.getfield 9, 3) := by decide +kernel
theorem d_H_dropOldest_19 : decode b_H_dropOldest 19 = .ok (.iload_n 1, 1) := by decide +kernel
theorem d_H_dropOldest_20 : decode b_H_dropOldest 20 = .ok (.laload, 1) := by decide +kernel
theorem d_H_dropOldest_21 : decode b_H_dropOldest 21 = .ok (.lastore, 1) := by decide +kernel
theorem d_H_dropOldest_22 : decode b_H_dropOldest 22 = .ok (.aload_n 0, 1) := by decide +kernel
theorem d_H_dropOldest_23 : decode b_H_dropOldest 23 = .ok (.getfield 15, 3) := by decide +kernel
theorem d_H_dropOldest_26 : decode b_H_dropOldest 26 = .ok (.iload_n 1, 1) := by decide +kernel
theorem d_H_dropOldest_27 : decode b_H_dropOldest 27 = .ok (.iconst 1, 1) := by decide +kernel
theorem d_H_dropOldest_28 : decode b_H_dropOldest 28 = .ok (.isub, 1) := by decide +kernel
theorem d_H_dropOldest_29 : decode b_H_dropOldest 29 = .ok (.aload_n 0, 1) := by decide +kernel
theorem d_H_dropOldest_30 : decode b_H_dropOldest 30 = .ok (.getfield 15, 3) := by decide +kernel
theorem d_H_dropOldest_33 : decode b_H_dropOldest 33 = .ok (.iload_n 1, 1) := by decide +kernel
theorem d_H_dropOldest_34 : decode b_H_dropOldest 34 = .ok (.laload, 1) := by decide +kernel
theorem d_H_dropOldest_35 : decode b_H_dropOldest 35 = .ok (.lastore, 1) := by decide +kernel
theorem d_H_dropOldest_36 : decode b_H_dropOldest 36 = .ok (.aload_n 0, 1) := by decide +kernel
theorem d_H_dropOldest_37 : decode b_H_dropOldest 37 = .ok (.getfield 18, 3) := by decide +kernel
theorem d_H_dropOldest_40 : decode b_H_dropOldest 40 = .ok (.iload_n 1, 1) := by decide +kernel
theorem d_H_dropOldest_41 : decode b_H_dropOldest 41 = .ok (.iconst 1, 1) := by decide +kernel
theorem d_H_dropOldest_42 : decode b_H_dropOldest 42 = .ok (.isub, 1) := by decide +kernel
theorem d_H_dropOldest_43 : decode b_H_dropOldest 43 = .ok (.aload_n 0, 1) := by decide +kernel
theorem d_H_dropOldest_44 : decode b_H_dropOldest 44 = .ok (.getfield 18, 3) := by decide +kernel
theorem d_H_dropOldest_47 : decode b_H_dropOldest 47 = .ok (.iload_n 1, 1) := by decide +kernel
theorem d_H_dropOldest_48 : decode b_H_dropOldest 48 = .ok (.iaload, 1) := by decide +kernel
theorem d_H_dropOldest_49 : decode b_H_dropOldest 49 = .ok (.iastore, 1) := by decide +kernel
theorem d_H_dropOldest_50 : decode b_H_dropOldest 50 = .ok (.iinc 1 1, 3) := by decide +kernel
theorem d_H_dropOldest_53 : decode b_H_dropOldest 53 = .ok (.goto (-51), 3) := by decide +kernel
theorem d_H_dropOldest_56 : decode b_H_dropOldest 56 = .ok (.aload_n 0, 1) := by decide +kernel
theorem d_H_dropOldest_57 : decode b_H_dropOldest 57 = .ok (.dup, 1) := by decide +kernel
theorem d_H_dropOldest_58 : decode b_H_dropOldest 58 = .ok (.getfield 29, 3) := by decide +kernel
theorem d_H_dropOldest_61 : decode b_H_dropOldest 61 = .ok (.iconst 1, 1) := by decide +kernel
theorem d_H_dropOldest_62 : decode b_H_dropOldest 62 = .ok (.isub, 1) := by decide +kernel
theorem d_H_dropOldest_63 : decode b_H_dropOldest 63 = .ok (.putfield 29, 3) := by decide +kernel
theorem d_H_dropOldest_66 : decode b_H_dropOldest 66 = .ok (.return_, 1) := by decide +kernel
theorem d_H_reaches_0 : decode b_H_reaches 0 = .ok (.aload_n 0, 1) := by decide +kernel
theorem d_H_reaches_1 : decode b_H_reaches 1 = .ok (.getfield 29, 3) := by decide +kernel
theorem d_H_reaches_4 : decode b_H_reaches 4 = .ok (.ifCond .le 18, 3) := by decide +kernel
theorem d_H_reaches_7 : decode b_H_reaches 7 = .ok (.lload_n 1, 1) := by decide +kernel
theorem d_H_reaches_8 : decode b_H_reaches 8 = .ok (.aload_n 0, 1) := by decide +kernel
theorem d_H_reaches_9 : decode b_H_reaches 9 = .ok (.getfield 9, 3) := by decide +kernel
theorem d_H_reaches_12 : decode b_H_reaches 12 = .ok (.iconst 0, 1) := by decide +kernel
theorem d_H_reaches_13 : decode b_H_reaches 13 = .ok (.laload, 1) := by decide +kernel
theorem d_H_reaches_14 : decode b_H_reaches 14 = .ok (.lcmp, 1) := by decide +kernel
theorem d_H_reaches_15 : decode b_H_reaches 15 = .ok (.ifCond .lt 7, 3) := by decide +kernel
theorem d_H_reaches_18 : decode b_H_reaches 18 = .ok (.iconst 1, 1) := by decide +kernel
theorem d_H_reaches_19 : decode b_H_reaches 19 = .ok (.goto 4, 3) := by decide +kernel
theorem d_H_reaches_22 : decode b_H_reaches 22 = .ok (.iconst 0, 1) := by decide +kernel
theorem d_H_reaches_23 : decode b_H_reaches 23 = .ok (.ireturn, 1) := by decide +kernel
theorem d_H_sumAt_0 : decode b_H_sumAt 0 = .ok (.aload_n 0, 1) := by decide +kernel
theorem d_H_sumAt_1 : decode b_H_sumAt 1 = .ok (.getfield 22, 3) := by decide +kernel
theorem d_H_sumAt_4 : decode b_H_sumAt 4 = .ok (.lstore 4, 2) := by decide +kernel
theorem d_H_sumAt_6 : decode b_H_sumAt 6 = .ok (.aload_n 0, 1) := by decide +kernel
theorem d_H_sumAt_7 : decode b_H_sumAt 7 = .ok (.getfield 26, 3) := by decide +kernel
theorem d_H_sumAt_10 : decode b_H_sumAt 10 = .ok (.lstore 6, 2) := by decide +kernel
theorem d_H_sumAt_12 : decode b_H_sumAt 12 = .ok (.iload_n 3, 1) := by decide +kernel
theorem d_H_sumAt_13 : decode b_H_sumAt 13 = .ok (.istore 8, 2) := by decide +kernel
theorem d_H_sumAt_15 : decode b_H_sumAt 15 = .ok (.aload_n 0, 1) := by decide +kernel
theorem d_H_sumAt_16 : decode b_H_sumAt 16 = .ok (.getfield 29, 3) := by decide +kernel
theorem d_H_sumAt_19 : decode b_H_sumAt 19 = .ok (.iconst 1, 1) := by decide +kernel
theorem d_H_sumAt_20 : decode b_H_sumAt 20 = .ok (.isub, 1) := by decide +kernel
theorem d_H_sumAt_21 : decode b_H_sumAt 21 = .ok (.istore 9, 2) := by decide +kernel
theorem d_H_sumAt_23 : decode b_H_sumAt 23 = .ok (.iload 9, 2) := by decide +kernel
theorem d_H_sumAt_25 : decode b_H_sumAt 25 = .ok (.ifCond .lt 48, 3) := by decide +kernel
theorem d_H_sumAt_28 : decode b_H_sumAt 28 = .ok (.aload_n 0, 1) := by decide +kernel
theorem d_H_sumAt_29 : decode b_H_sumAt 29 = .ok (.getfield 9, 3) := by decide +kernel
theorem d_H_sumAt_32 : decode b_H_sumAt 32 = .ok (.iload 9, 2) := by decide +kernel
theorem d_H_sumAt_34 : decode b_H_sumAt 34 = .ok (.laload, 1) := by decide +kernel
theorem d_H_sumAt_35 : decode b_H_sumAt 35 = .ok (.lload_n 1, 1) := by decide +kernel
theorem d_H_sumAt_36 : decode b_H_sumAt 36 = .ok (.lcmp, 1) := by decide +kernel
theorem d_H_sumAt_37 : decode b_H_sumAt 37 = .ok (.ifCond .le 36, 3) := by decide +kernel
theorem d_H_sumAt_40 : decode b_H_sumAt 40 = .ok (.aload_n 0, 1) := by decide +kernel
theorem d_H_sumAt_41 : decode b_H_sumAt 41 = .ok (.getfield 9, 3) := by decide +kernel
theorem d_H_sumAt_44 : decode b_H_sumAt 44 = .ok (.iload 9, 2) := by decide +kernel
theorem d_H_sumAt_46 : decode b_H_sumAt 46 = .ok (.laload, 1) := by decide +kernel
theorem d_H_sumAt_47 : decode b_H_sumAt 47 = .ok (.lstore 4, 2) := by decide +kernel
theorem d_H_sumAt_49 : decode b_H_sumAt 49 = .ok (.aload_n 0, 1) := by decide +kernel
theorem d_H_sumAt_50 : decode b_H_sumAt 50 = .ok (.getfield 15, 3) := by decide +kernel
theorem d_H_sumAt_53 : decode b_H_sumAt 53 = .ok (.iload 9, 2) := by decide +kernel
theorem d_H_sumAt_55 : decode b_H_sumAt 55 = .ok (.laload, 1) := by decide +kernel
theorem d_H_sumAt_56 : decode b_H_sumAt 56 = .ok (.lstore 6, 2) := by decide +kernel
theorem d_H_sumAt_58 : decode b_H_sumAt 58 = .ok (.aload_n 0, 1) := by decide +kernel
theorem d_H_sumAt_59 : decode b_H_sumAt 59 = .ok (.getfield 18, 3) := by decide +kernel
theorem d_H_sumAt_62 : decode b_H_sumAt 62 = .ok (.iload 9, 2) := by decide +kernel
theorem d_H_sumAt_64 : decode b_H_sumAt 64 = .ok (.iaload, 1) := by decide +kernel
theorem d_H_sumAt_65 : decode b_H_sumAt 65 = .ok (.istore 8, 2) := by decide +kernel
theorem d_H_sumAt_67 : decode b_H_sumAt 67 = .ok (.iinc 9 (-1), 3) := by decide +kernel
theorem d_H_sumAt_70 : decode b_H_sumAt 70 = .ok (.goto (-47), 3) := by decide +kernel
theorem d_H_sumAt_73 : decode b_H_sumAt 73 = .ok (.lload 6, 2) := by decide +kernel
theorem d_H_sumAt_75 : decode b_H_sumAt 75 = .ok (.iload 8, 2) := by decide +kernel
theorem d_H_sumAt_77 : decode b_H_sumAt 77 = .ok (.i2l, 1) := by decide +kernel
theorem d_H_sumAt_78 : decode b_H_sumAt 78 = .ok (.lload 4, 2) := by decide +kernel
theorem d_H_sumAt_80 : decode b_H_sumAt 80 = .ok (.lload_n 1, 1) := by decide +kernel
theorem d_H_sumAt_81 : decode b_H_sumAt 81 = .ok (.lsub, 1) := by decide +kernel
theorem d_H_sumAt_82 : decode b_H_sumAt 82 = .ok (.lmul, 1) := by decide +kernel
theorem d_H_sumAt_83 : decode b_H_sumAt 83 = .ok (.lsub, 1) := by decide +kernel
theorem d_H_sumAt_84 : decode b_H_sumAt 84 = .ok (.lreturn, 1) := by decide +kernel
