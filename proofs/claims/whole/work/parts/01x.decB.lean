theorem d_B_init_0 : decode b_B_init 0 = .ok (.aload_n 0, 1) := by decide +kernel
theorem d_B_init_1 : decode b_B_init 1 = .ok (.invokespecial 3, 3) := by decide +kernel
theorem d_B_init_4 : decode b_B_init 4 = .ok (.aload_n 0, 1) := by decide +kernel
theorem d_B_init_5 : decode b_B_init 5 = .ok (.bipush 10, 2) := by decide +kernel
theorem d_B_init_7 : decode b_B_init 7 = .ok (.anewarray 9, 3) := by decide +kernel
theorem d_B_init_10 : decode b_B_init 10 = .ok (.putfield 11, 3) := by decide +kernel
theorem d_B_init_13 : decode b_B_init 13 = .ok (.iconst 0, 1) := by decide +kernel
theorem d_B_init_14 : decode b_B_init 14 = .ok (.istore_n 1, 1) := by decide +kernel
theorem d_B_init_15 : decode b_B_init 15 = .ok (.iload_n 1, 1) := by decide +kernel
theorem d_B_init_16 : decode b_B_init 16 = .ok (.bipush 10, 2) := by decide +kernel
theorem d_B_init_18 : decode b_B_init 18 = .ok (.if_icmp .ge 22, 3) := by decide +kernel
theorem d_B_init_21 : decode b_B_init 21 = .ok (.aload_n 0, 1) := by decide +kernel
theorem d_B_init_22 : decode b_B_init 22 = .ok (.getfield 11, 3) := by decide +kernel
theorem d_B_init_25 : decode b_B_init 25 = .ok (.iload_n 1, 1) := by decide +kernel
theorem d_B_init_26 : decode b_B_init 26 = .ok (.new 9, 3) := by decide +kernel
theorem d_B_init_29 : decode b_B_init 29 = .ok (.dup, 1) := by decide +kernel
theorem d_B_init_30 : decode b_B_init 30 = .ok (.invokespecial 17, 3) := by decide +kernel
theorem d_B_init_33 : decode b_B_init 33 = .ok (.aastore, 1) := by decide +kernel
theorem d_B_init_34 : decode b_B_init 34 = .ok (.iinc 1 1, 3) := by decide +kernel
theorem d_B_init_37 : decode b_B_init 37 = .ok (.goto (-22), 3) := by decide +kernel
theorem d_B_init_40 : decode b_B_init 40 = .ok (.return_, 1) := by decide +kernel
theorem d_B_find_0 : decode b_B_find 0 = .ok (.aload_n 0, 1) := by decide +kernel
theorem d_B_find_1 : decode b_B_find 1 = .ok (.getfield 11, 3) := by decide +kernel
theorem d_B_find_4 : decode b_B_find 4 = .ok (.astore 4, 2) := by decide +kernel
theorem d_B_find_6 : decode b_B_find 6 = .ok (.aload 4, 2) := by decide +kernel
theorem d_B_find_8 : decode b_B_find 8 = .ok (.arraylength, 1) := by decide +kernel
theorem d_B_find_9 : decode b_B_find 9 = .ok (.istore 5, 2) := by decide +kernel
theorem d_B_find_11 : decode b_B_find 11 = .ok (.iconst 0, 1) := by decide +kernel
theorem d_B_find_12 : decode b_B_find 12 = .ok (.istore 6, 2) := by decide +kernel
theorem d_B_find_14 : decode b_B_find 14 = .ok (.iload 6, 2) := by decide +kernel
theorem d_B_find_16 : decode b_B_find 16 = .ok (.iload 5, 2) := by decide +kernel
theorem d_B_find_18 : decode b_B_find 18 = .ok (.if_icmp .ge 38, 3) := by decide +kernel
theorem d_B_find_21 : decode b_B_find 21 = .ok (.aload 4, 2) := by decide +kernel
theorem d_B_find_23 : decode b_B_find 23 = .ok (.iload 6, 2) := by decide +kernel
theorem d_B_find_25 : decode b_B_find 25 = .ok (.aaload, 1) := by decide +kernel
theorem d_B_find_26 : decode b_B_find 26 = .ok (.astore 7, 2) := by decide +kernel
theorem d_B_find_28 : decode b_B_find 28 = .ok (.aload 7, 2) := by decide +kernel
theorem d_B_find_30 : decode b_B_find 30 = .ok (.invokevirtual 18, 3) := by decide +kernel
theorem d_B_find_33 : decode b_B_find 33 = .ok (.ifCond .eq 17, 3) := by decide +kernel
theorem d_B_find_36 : decode b_B_find 36 = .ok (.aload 7, 2) := by decide +kernel
theorem d_B_find_38 : decode b_B_find 38 = .ok (.iload_n 1, 1) := by decide +kernel
theorem d_B_find_39 : decode b_B_find 39 = .ok (.iload_n 2, 1) := by decide +kernel
theorem d_B_find_40 : decode b_B_find 40 = .ok (.iload_n 3, 1) := by decide +kernel
theorem d_B_find_41 : decode b_B_find 41 = .ok (.invokevirtual 22, 3) := by decide +kernel
theorem d_B_find_44 : decode b_B_find 44 = .ok (.ifCond .eq 6, 3) := by decide +kernel
theorem d_B_find_47 : decode b_B_find 47 = .ok (.aload 7, 2) := by decide +kernel
theorem d_B_find_49 : decode b_B_find 49 = .ok (.areturn, 1) := by decide +kernel
theorem d_B_find_50 : decode b_B_find 50 = .ok (.iinc 6 1, 3) := by decide +kernel
theorem d_B_find_53 : decode b_B_find 53 = .ok (.goto (-39), 3) := by decide +kernel
theorem d_B_find_56 : decode b_B_find 56 = .ok (.aconst_null, 1) := by decide +kernel
theorem d_B_find_57 : decode b_B_find 57 = .ok (.areturn, 1) := by decide +kernel
theorem d_B_findOrFree_0 : decode b_B_findOrFree 0 = .ok (.aload_n 0, 1) := by decide +kernel
theorem d_B_findOrFree_1 : decode b_B_findOrFree 1 = .ok (.iload_n 1, 1) := by decide +kernel
theorem d_B_findOrFree_2 : decode b_B_findOrFree 2 = .ok (.iload_n 2, 1) := by decide +kernel
theorem d_B_findOrFree_3 : decode b_B_findOrFree 3 = .ok (.iload_n 3, 1) := by decide +kernel
theorem d_B_findOrFree_4 : decode b_B_findOrFree 4 = .ok (.invokevirtual 26, 3) := by decide +kernel
theorem d_B_findOrFree_7 : decode b_B_findOrFree 7 = .ok (.astore 4, 2) := by decide +kernel
theorem d_B_findOrFree_9 : decode b_B_findOrFree 9 = .ok (.iconst 0, 1) := by decide +kernel
theorem d_B_findOrFree_10 : decode b_B_findOrFree 10 = .ok (.istore 5, 2) := by decide +kernel
theorem d_B_findOrFree_12 : decode b_B_findOrFree 12 = .ok (.iload 5, 2) := by decide +kernel
theorem d_B_findOrFree_14 : decode b_B_findOrFree 14 = .ok (.bipush 10, 2) := by decide +kernel
theorem d_B_findOrFree_16 : decode b_B_findOrFree 16 = .ok (.if_icmp .ge 36, 3) := by decide +kernel
theorem d_B_findOrFree_19 : decode b_B_findOrFree 19 = .ok (.aload 4, 2) := by decide +kernel
theorem d_B_findOrFree_21 : decode b_B_findOrFree 21 = .ok (.ifnonnull 31, 3) := by decide +kernel
theorem d_B_findOrFree_24 : decode b_B_findOrFree 24 = .ok (.aload_n 0, 1) := by decide +kernel
theorem d_B_findOrFree_25 : decode b_B_findOrFree 25 = .ok (.getfield 11, 3) := by decide +kernel
theorem d_B_findOrFree_28 : decode b_B_findOrFree 28 = .ok (.iload 5, 2) := by decide +kernel
theorem d_B_findOrFree_30 : decode b_B_findOrFree 30 = .ok (.aaload, 1) := by decide +kernel
theorem d_B_findOrFree_31 : decode b_B_findOrFree 31 = .ok (.invokevirtual 18, 3) := by decide +kernel
theorem d_B_findOrFree_34 : decode b_B_findOrFree 34 = .ok (.ifCond .ne 12, 3) := by decide +kernel
theorem d_B_findOrFree_37 : decode b_B_findOrFree 37 = .ok (.aload_n 0, 1) := by decide +kernel
theorem d_B_findOrFree_38 : decode b_B_findOrFree 38 = .ok (.getfield 11, 3) := by decide +kernel
theorem d_B_findOrFree_41 : decode b_B_findOrFree 41 = .ok (.iload 5, 2) := by decide +kernel
theorem d_B_findOrFree_43 : decode b_B_findOrFree 43 = .ok (.aaload, 1) := by decide +kernel
theorem d_B_findOrFree_44 : decode b_B_findOrFree 44 = .ok (.astore 4, 2) := by decide +kernel
theorem d_B_findOrFree_46 : decode b_B_findOrFree 46 = .ok (.iinc 5 1, 3) := by decide +kernel
theorem d_B_findOrFree_49 : decode b_B_findOrFree 49 = .ok (.goto (-37), 3) := by decide +kernel
theorem d_B_findOrFree_52 : decode b_B_findOrFree 52 = .ok (.aload 4, 2) := by decide +kernel
theorem d_B_findOrFree_54 : decode b_B_findOrFree 54 = .ok (.areturn, 1) := by decide +kernel
theorem d_B_totalLiquidity_0 : decode b_B_totalLiquidity 0 = .ok (.lconst 0, 1) := by decide +kernel
theorem d_B_totalLiquidity_1 : decode b_B_totalLiquidity 1 = .ok (.lstore_n 1, 1) := by decide +kernel
theorem d_B_totalLiquidity_2 : decode b_B_totalLiquidity 2 = .ok (.aload_n 0, 1) := by decide +kernel
theorem d_B_totalLiquidity_3 : decode b_B_totalLiquidity 3 = .ok (.getfield 11, 3) := by decide +kernel
theorem d_B_totalLiquidity_6 : decode b_B_totalLiquidity 6 = .ok (.astore_n 3, 1) := by decide +kernel
theorem d_B_totalLiquidity_7 : decode b_B_totalLiquidity 7 = .ok (.aload_n 3, 1) := by decide +kernel
theorem d_B_totalLiquidity_8 : decode b_B_totalLiquidity 8 = .ok (.arraylength, 1) := by decide +kernel
theorem d_B_totalLiquidity_9 : decode b_B_totalLiquidity 9 = .ok (.istore 4, 2) := by decide +kernel
theorem d_B_totalLiquidity_11 : decode b_B_totalLiquidity 11 = .ok (.iconst 0, 1) := by decide +kernel
theorem d_B_totalLiquidity_12 : decode b_B_totalLiquidity 12 = .ok (.istore 5, 2) := by decide +kernel
theorem d_B_totalLiquidity_14 : decode b_B_totalLiquidity 14 = .ok (.iload 5, 2) := by decide +kernel
theorem d_B_totalLiquidity_16 : decode b_B_totalLiquidity 16 = .ok (.iload 4, 2) := by decide +kernel
theorem d_B_totalLiquidity_18 : decode b_B_totalLiquidity 18 = .ok (.if_icmp .ge 23, 3) := by decide +kernel
theorem d_B_totalLiquidity_21 : decode b_B_totalLiquidity 21 = .ok (.aload_n 3, 1) := by decide +kernel
theorem d_B_totalLiquidity_22 : decode b_B_totalLiquidity 22 = .ok (.iload 5, 2) := by decide +kernel
theorem d_B_totalLiquidity_24 : decode b_B_totalLiquidity 24 = .ok (.aaload, 1) := by decide +kernel
theorem d_B_totalLiquidity_25 : decode b_B_totalLiquidity 25 = .ok (.astore 6, 2) := by decide +kernel
theorem d_B_totalLiquidity_27 : decode b_B_totalLiquidity 27 = .ok (.lload_n 1, 1) := by decide +kernel
theorem d_B_totalLiquidity_28 : decode b_B_totalLiquidity 28 = .ok (.aload 6, 2) := by decide +kernel
theorem d_B_totalLiquidity_30 : decode b_B_totalLiquidity 30 = .ok (.getfield 30, 3) := by decide +kernel
theorem d_B_totalLiquidity_33 : decode b_B_totalLiquidity 33 = .ok (.ladd, 1) := by decide +kernel
theorem d_B_totalLiquidity_34 : decode b_B_totalLiquidity 34 = .ok (.lstore_n 1, 1) := by decide +kernel
theorem d_B_totalLiquidity_35 : decode b_B_totalLiquidity 35 = .ok (.iinc 5 1, 3) := by decide +kernel
theorem d_B_totalLiquidity_38 : decode b_B_totalLiquidity 38 = .ok (.goto (-24), 3) := by decide +kernel
theorem d_B_totalLiquidity_41 : decode b_B_totalLiquidity 41 = .ok (.lload_n 1, 1) := by decide +kernel
theorem d_B_totalLiquidity_42 : decode b_B_totalLiquidity 42 = .ok (.lreturn, 1) := by decide +kernel
theorem d_B_depthAt_0 : decode b_B_depthAt 0 = .ok (.lconst 0, 1) := by decide +kernel
theorem d_B_depthAt_1 : decode b_B_depthAt 1 = .ok (.lstore_n 2, 1) := by decide +kernel
theorem d_B_depthAt_2 : decode b_B_depthAt 2 = .ok (.aload_n 0, 1) := by decide +kernel
theorem d_B_depthAt_3 : decode b_B_depthAt 3 = .ok (.getfield 11, 3) := by decide +kernel
theorem d_B_depthAt_6 : decode b_B_depthAt 6 = .ok (.astore 4, 2) := by decide +kernel
theorem d_B_depthAt_8 : decode b_B_depthAt 8 = .ok (.aload 4, 2) := by decide +kernel
theorem d_B_depthAt_10 : decode b_B_depthAt 10 = .ok (.arraylength, 1) := by decide +kernel
theorem d_B_depthAt_11 : decode b_B_depthAt 11 = .ok (.istore 5, 2) := by decide +kernel
theorem d_B_depthAt_13 : decode b_B_depthAt 13 = .ok (.iconst 0, 1) := by decide +kernel
theorem d_B_depthAt_14 : decode b_B_depthAt 14 = .ok (.istore 6, 2) := by decide +kernel
theorem d_B_depthAt_16 : decode b_B_depthAt 16 = .ok (.iload 6, 2) := by decide +kernel
theorem d_B_depthAt_18 : decode b_B_depthAt 18 = .ok (.iload 5, 2) := by decide +kernel
theorem d_B_depthAt_20 : decode b_B_depthAt 20 = .ok (.if_icmp .ge 33, 3) := by decide +kernel
theorem d_B_depthAt_23 : decode b_B_depthAt 23 = .ok (.aload 4, 2) := by decide +kernel
theorem d_B_depthAt_25 : decode b_B_depthAt 25 = .ok (.iload 6, 2) := by decide +kernel
theorem d_B_depthAt_27 : decode b_B_depthAt 27 = .ok (.aaload, 1) := by decide +kernel
theorem d_B_depthAt_28 : decode b_B_depthAt 28 = .ok (.astore 7, 2) := by decide +kernel
theorem d_B_depthAt_30 : decode b_B_depthAt 30 = .ok (.aload 7, 2) := by decide +kernel
theorem d_B_depthAt_32 : decode b_B_depthAt 32 = .ok (.iload_n 1, 1) := by decide +kernel
theorem d_B_depthAt_33 : decode b_B_depthAt 33 = .ok (.invokevirtual 34, 3) := by decide +kernel
theorem d_B_depthAt_36 : decode b_B_depthAt 36 = .ok (.ifCond .eq 11, 3) := by decide +kernel
theorem d_B_depthAt_39 : decode b_B_depthAt 39 = .ok (.lload_n 2, 1) := by decide +kernel
theorem d_B_depthAt_40 : decode b_B_depthAt 40 = .ok (.aload 7, 2) := by decide +kernel
theorem d_B_depthAt_42 : decode b_B_depthAt 42 = .ok (.getfield 30, 3) := by decide +kernel
theorem d_B_depthAt_45 : decode b_B_depthAt 45 = .ok (.ladd, 1) := by decide +kernel
theorem d_B_depthAt_46 : decode b_B_depthAt 46 = .ok (.lstore_n 2, 1) := by decide +kernel
theorem d_B_depthAt_47 : decode b_B_depthAt 47 = .ok (.iinc 6 1, 3) := by decide +kernel
theorem d_B_depthAt_50 : decode b_B_depthAt 50 = .ok (.goto (-34), 3) := by decide +kernel
theorem d_B_depthAt_53 : decode b_B_depthAt 53 = .ok (.lload_n 2, 1) := by decide +kernel
theorem d_B_depthAt_54 : decode b_B_depthAt 54 = .ok (.lreturn, 1) := by decide +kernel
theorem d_B_netAt_0 : decode b_B_netAt 0 = .ok (.lconst 0, 1) := by decide +kernel
theorem d_B_netAt_1 : decode b_B_netAt 1 = .ok (.lstore_n 2, 1) := by decide +kernel
theorem d_B_netAt_2 : decode b_B_netAt 2 = .ok (.aload_n 0, 1) := by decide +kernel
theorem d_B_netAt_3 : decode b_B_netAt 3 = .ok (.getfield 11, 3) := by decide +kernel
theorem d_B_netAt_6 : decode b_B_netAt 6 = .ok (.astore 4, 2) := by decide +kernel
theorem d_B_netAt_8 : decode b_B_netAt 8 = .ok (.aload 4, 2) := by decide +kernel
theorem d_B_netAt_10 : decode b_B_netAt 10 = .ok (.arraylength, 1) := by decide +kernel
theorem d_B_netAt_11 : decode b_B_netAt 11 = .ok (.istore 5, 2) := by decide +kernel
theorem d_B_netAt_13 : decode b_B_netAt 13 = .ok (.iconst 0, 1) := by decide +kernel
theorem d_B_netAt_14 : decode b_B_netAt 14 = .ok (.istore 6, 2) := by decide +kernel
theorem d_B_netAt_16 : decode b_B_netAt 16 = .ok (.iload 6, 2) := by decide +kernel
theorem d_B_netAt_18 : decode b_B_netAt 18 = .ok (.iload 5, 2) := by decide +kernel
theorem d_B_netAt_20 : decode b_B_netAt 20 = .ok (.if_icmp .ge 50, 3) := by decide +kernel
theorem d_B_netAt_23 : decode b_B_netAt 23 = .ok (.aload 4, 2) := by decide +kernel
theorem d_B_netAt_25 : decode b_B_netAt 25 = .ok (.iload 6, 2) := by decide +kernel
theorem d_B_netAt_27 : decode b_B_netAt 27 = .ok (.aaload, 1) := by decide +kernel
theorem d_B_netAt_28 : decode b_B_netAt 28 = .ok (.astore 7, 2) := by decide +kernel
theorem d_B_netAt_30 : decode b_B_netAt 30 = .ok (.aload 7, 2) := by decide +kernel
theorem d_B_netAt_32 : decode b_B_netAt 32 = .ok (.getfield 38, 3) := by decide +kernel
theorem d_B_netAt_35 : decode b_B_netAt 35 = .ok (.iload_n 1, 1) := by decide +kernel
theorem d_B_netAt_36 : decode b_B_netAt 36 = .ok (.if_icmp .ne 11, 3) := by decide +kernel
theorem d_B_netAt_39 : decode b_B_netAt 39 = .ok (.lload_n 2, 1) := by decide +kernel
theorem d_B_netAt_40 : decode b_B_netAt 40 = .ok (.aload 7, 2) := by decide +kernel
theorem d_B_netAt_42 : decode b_B_netAt 42 = .ok (.getfield 30, 3) := by decide +kernel
theorem d_B_netAt_45 : decode b_B_netAt 45 = .ok (.ladd, 1) := by decide +kernel
theorem d_B_netAt_46 : decode b_B_netAt 46 = .ok (.lstore_n 2, 1) := by decide +kernel
theorem d_B_netAt_47 : decode b_B_netAt 47 = .ok (.aload 7, 2) := by decide +kernel
theorem d_B_netAt_49 : decode b_B_netAt 49 = .ok (.getfield 42, 3) := by decide +kernel
theorem d_B_netAt_52 : decode b_B_netAt 52 = .ok (.iload_n 1, 1) := by decide +kernel
theorem d_B_netAt_53 : decode b_B_netAt 53 = .ok (.if_icmp .ne 11, 3) := by decide +kernel
theorem d_B_netAt_56 : decode b_B_netAt 56 = .ok (.lload_n 2, 1) := by decide +kernel
theorem d_B_netAt_57 : decode b_B_netAt 57 = .ok (.aload 7, 2) := by decide +kernel
theorem d_B_netAt_59 : decode b_B_netAt 59 = .ok (.getfield 30, 3) := by decide +kernel
theorem d_B_netAt_62 : decode b_B_netAt 62 = .ok (.lsub, 1) := by decide +kernel
theorem d_B_netAt_63 : decode b_B_netAt 63 = .ok (.lstore_n 2, 1) := by decide +kernel
theorem d_B_netAt_64 : decode b_B_netAt 64 = .ok (.iinc 6 1, 3) := by decide +kernel
theorem d_B_netAt_67 : decode b_B_netAt 67 = .ok (.goto (-51), 3) := by decide +kernel
theorem d_B_netAt_70 : decode b_B_netAt 70 = .ok (.lload_n 2, 1) := by decide +kernel
theorem d_B_netAt_71 : decode b_B_netAt 71 = .ok (.lreturn, 1) := by decide +kernel
theorem d_B_markedAtOrBelow_0 : decode b_B_markedAtOrBelow 0 = .ok (.sipush 1000, 3) := by decide +kernel
theorem d_B_markedAtOrBelow_3 : decode b_B_markedAtOrBelow 3 = .ok (.istore_n 2, 1) := by decide +kernel
theorem d_B_markedAtOrBelow_4 : decode b_B_markedAtOrBelow 4 = .ok (.aload_n 0, 1) := by decide +kernel
theorem d_B_markedAtOrBelow_5 : decode b_B_markedAtOrBelow 5 = .ok (.getfield 11, 3) := by decide +kernel
theorem d_B_markedAtOrBelow_8 : decode b_B_markedAtOrBelow 8 = .ok (.astore_n 3, 1) := by decide +kernel
theorem d_B_markedAtOrBelow_9 : decode b_B_markedAtOrBelow 9 = .ok (.aload_n 3, 1) := by decide +kernel
theorem d_B_markedAtOrBelow_10 : decode b_B_markedAtOrBelow 10 = .ok (.arraylength, 1) := by decide +kernel
theorem d_B_markedAtOrBelow_11 : decode b_B_markedAtOrBelow 11 = .ok (.istore 4, 2) := by decide +kernel
theorem d_B_markedAtOrBelow_13 : decode b_B_markedAtOrBelow 13 = .ok (.iconst 0, 1) := by decide +kernel
theorem d_B_markedAtOrBelow_14 : decode b_B_markedAtOrBelow 14 = .ok (.istore 5, 2) := by decide +kernel
theorem d_B_markedAtOrBelow_16 : decode b_B_markedAtOrBelow 16 = .ok (.iload 5, 2) := by decide +kernel
theorem d_B_markedAtOrBelow_18 : decode b_B_markedAtOrBelow 18 = .ok (.iload 4, 2) := by decide +kernel
theorem d_B_markedAtOrBelow_20 : decode b_B_markedAtOrBelow 20 = .ok (.if_icmp .ge 81, 3) := by decide +kernel
theorem d_B_markedAtOrBelow_23 : decode b_B_markedAtOrBelow 23 = .ok (.aload_n 3, 1) := by decide +kernel
theorem d_B_markedAtOrBelow_24 : decode b_B_markedAtOrBelow 24 = .ok (.iload 5, 2) := by decide +kernel
theorem d_B_markedAtOrBelow_26 : decode b_B_markedAtOrBelow 26 = .ok (.aaload, 1) := by decide +kernel
theorem d_B_markedAtOrBelow_27 : decode b_B_markedAtOrBelow 27 = .ok (.astore 6, 2) := by decide +kernel
theorem d_B_markedAtOrBelow_29 : decode b_B_markedAtOrBelow 29 = .ok (.aload 6, 2) := by decide +kernel
theorem d_B_markedAtOrBelow_31 : decode b_B_markedAtOrBelow 31 = .ok (.getfield 30, 3) := by decide +kernel
theorem d_B_markedAtOrBelow_34 : decode b_B_markedAtOrBelow 34 = .ok (.lconst 0, 1) := by decide +kernel
theorem d_B_markedAtOrBelow_35 : decode b_B_markedAtOrBelow 35 = .ok (.lcmp, 1) := by decide +kernel
theorem d_B_markedAtOrBelow_36 : decode b_B_markedAtOrBelow 36 = .ok (.ifCond .eq 59, 3) := by decide +kernel
theorem d_B_markedAtOrBelow_39 : decode b_B_markedAtOrBelow 39 = .ok (.aload 6, 2) := by decide +kernel
theorem d_B_markedAtOrBelow_41 : decode b_B_markedAtOrBelow 41 = .ok (.getfield 38, 3) := by decide +kernel
theorem d_B_markedAtOrBelow_44 : decode b_B_markedAtOrBelow 44 = .ok (.iload_n 1, 1) := by decide +kernel
theorem d_B_markedAtOrBelow_45 : decode b_B_markedAtOrBelow 45 = .ok (.if_icmp .le 6, 3) := by decide +kernel
theorem d_B_markedAtOrBelow_48 : decode b_B_markedAtOrBelow 48 = .ok (.goto 47, 3) := by decide +kernel
theorem d_B_markedAtOrBelow_51 : decode b_B_markedAtOrBelow 51 = .ok (.aload 6, 2) := by decide +kernel
theorem d_B_markedAtOrBelow_53 : decode b_B_markedAtOrBelow 53 = .ok (.getfield 42, 3) := by decide +kernel
theorem d_B_markedAtOrBelow_56 : decode b_B_markedAtOrBelow 56 = .ok (.iload_n 1, 1) := by decide +kernel
theorem d_B_markedAtOrBelow_57 : decode b_B_markedAtOrBelow 57 = .ok (.if_icmp .gt 11, 3) := by decide +kernel
theorem d_B_markedAtOrBelow_60 : decode b_B_markedAtOrBelow 60 = .ok (.aload 6, 2) := by decide +kernel
theorem d_B_markedAtOrBelow_62 : decode b_B_markedAtOrBelow 62 = .ok (.getfield 42, 3) := by decide +kernel
theorem d_B_markedAtOrBelow_65 : decode b_B_markedAtOrBelow 65 = .ok (.goto 8, 3) := by decide +kernel
theorem d_B_markedAtOrBelow_68 : decode b_B_markedAtOrBelow 68 = .ok (.aload 6, 2) := by decide +kernel
theorem d_B_markedAtOrBelow_70 : decode b_B_markedAtOrBelow 70 = .ok (.getfield 38, 3) := by decide +kernel
theorem d_B_markedAtOrBelow_73 : decode b_B_markedAtOrBelow 73 = .ok (.istore 7, 2) := by decide +kernel
theorem d_B_markedAtOrBelow_75 : decode b_B_markedAtOrBelow 75 = .ok (.iload_n 2, 1) := by decide +kernel
theorem d_B_markedAtOrBelow_76 : decode b_B_markedAtOrBelow 76 = .ok (.sipush 1000, 3) := by decide +kernel
theorem d_B_markedAtOrBelow_79 : decode b_B_markedAtOrBelow 79 = .ok (.if_icmp .eq 9, 3) := by decide +kernel
theorem d_B_markedAtOrBelow_82 : decode b_B_markedAtOrBelow 82 = .ok (.iload 7, 2) := by decide +kernel
theorem d_B_markedAtOrBelow_84 : decode b_B_markedAtOrBelow 84 = .ok (.iload_n 2, 1) := by decide +kernel
theorem d_B_markedAtOrBelow_85 : decode b_B_markedAtOrBelow 85 = .ok (.if_icmp .le 8, 3) := by decide +kernel
theorem d_B_markedAtOrBelow_88 : decode b_B_markedAtOrBelow 88 = .ok (.iload 7, 2) := by decide +kernel
theorem d_B_markedAtOrBelow_90 : decode b_B_markedAtOrBelow 90 = .ok (.goto 4, 3) := by decide +kernel
theorem d_B_markedAtOrBelow_93 : decode b_B_markedAtOrBelow 93 = .ok (.iload_n 2, 1) := by decide +kernel
theorem d_B_markedAtOrBelow_94 : decode b_B_markedAtOrBelow 94 = .ok (.istore_n 2, 1) := by decide +kernel
theorem d_B_markedAtOrBelow_95 : decode b_B_markedAtOrBelow 95 = .ok (.iinc 5 1, 3) := by decide +kernel
theorem d_B_markedAtOrBelow_98 : decode b_B_markedAtOrBelow 98 = .ok (.goto (-82), 3) := by decide +kernel
theorem d_B_markedAtOrBelow_101 : decode b_B_markedAtOrBelow 101 = .ok (.iload_n 2, 1) := by decide +kernel
theorem d_B_markedAtOrBelow_102 : decode b_B_markedAtOrBelow 102 = .ok (.ireturn, 1) := by decide +kernel
theorem d_B_markedAbove_0 : decode b_B_markedAbove 0 = .ok (.sipush 1000, 3) := by decide +kernel
theorem d_B_markedAbove_3 : decode b_B_markedAbove 3 = .ok (.istore_n 2, 1) := by decide +kernel
theorem d_B_markedAbove_4 : decode b_B_markedAbove 4 = .ok (.aload_n 0, 1) := by decide +kernel
theorem d_B_markedAbove_5 : decode b_B_markedAbove 5 = .ok (.getfield 11, 3) := by decide +kernel
theorem d_B_markedAbove_8 : decode b_B_markedAbove 8 = .ok (.astore_n 3, 1) := by decide +kernel
theorem d_B_markedAbove_9 : decode b_B_markedAbove 9 = .ok (.aload_n 3, 1) := by decide +kernel
theorem d_B_markedAbove_10 : decode b_B_markedAbove 10 = .ok (.arraylength, 1) := by decide +kernel
theorem d_B_markedAbove_11 : decode b_B_markedAbove 11 = .ok (.istore 4, 2) := by decide +kernel
theorem d_B_markedAbove_13 : decode b_B_markedAbove 13 = .ok (.iconst 0, 1) := by decide +kernel
theorem d_B_markedAbove_14 : decode b_B_markedAbove 14 = .ok (.istore 5, 2) := by decide +kernel
theorem d_B_markedAbove_16 : decode b_B_markedAbove 16 = .ok (.iload 5, 2) := by decide +kernel
theorem d_B_markedAbove_18 : decode b_B_markedAbove 18 = .ok (.iload 4, 2) := by decide +kernel
theorem d_B_markedAbove_20 : decode b_B_markedAbove 20 = .ok (.if_icmp .ge 81, 3) := by decide +kernel
theorem d_B_markedAbove_23 : decode b_B_markedAbove 23 = .ok (.aload_n 3, 1) := by decide +kernel
theorem d_B_markedAbove_24 : decode b_B_markedAbove 24 = .ok (.iload 5, 2) := by decide +kernel
theorem d_B_markedAbove_26 : decode b_B_markedAbove 26 = .ok (.aaload, 1) := by decide +kernel
theorem d_B_markedAbove_27 : decode b_B_markedAbove 27 = .ok (.astore 6, 2) := by decide +kernel
theorem d_B_markedAbove_29 : decode b_B_markedAbove 29 = .ok (.aload 6, 2) := by decide +kernel
theorem d_B_markedAbove_31 : decode b_B_markedAbove 31 = .ok (.getfield 30, 3) := by decide +kernel
theorem d_B_markedAbove_34 : decode b_B_markedAbove 34 = .ok (.lconst 0, 1) := by decide +kernel
theorem d_B_markedAbove_35 : decode b_B_markedAbove 35 = .ok (.lcmp, 1) := by decide +kernel
theorem d_B_markedAbove_36 : decode b_B_markedAbove 36 = .ok (.ifCond .eq 59, 3) := by decide +kernel
theorem d_B_markedAbove_39 : decode b_B_markedAbove 39 = .ok (.aload 6, 2) := by decide +kernel
theorem d_B_markedAbove_41 : decode b_B_markedAbove 41 = .ok (.getfield 42, 3) := by decide +kernel
theorem d_B_markedAbove_44 : decode b_B_markedAbove 44 = .ok (.iload_n 1, 1) := by decide +kernel
theorem d_B_markedAbove_45 : decode b_B_markedAbove 45 = .ok (.if_icmp .gt 6, 3) := by decide +kernel
theorem d_B_markedAbove_48 : decode b_B_markedAbove 48 = .ok (.goto 47, 3) := by decide +kernel
theorem d_B_markedAbove_51 : decode b_B_markedAbove 51 = .ok (.aload 6, 2) := by decide +kernel
theorem d_B_markedAbove_53 : decode b_B_markedAbove 53 = .ok (.getfield 38, 3) := by decide +kernel
theorem d_B_markedAbove_56 : decode b_B_markedAbove 56 = .ok (.iload_n 1, 1) := by decide +kernel
theorem d_B_markedAbove_57 : decode b_B_markedAbove 57 = .ok (.if_icmp .le 11, 3) := by decide +kernel
theorem d_B_markedAbove_60 : decode b_B_markedAbove 60 = .ok (.aload 6, 2) := by decide +kernel
theorem d_B_markedAbove_62 : decode b_B_markedAbove 62 = .ok (.getfield 38, 3) := by decide +kernel
theorem d_B_markedAbove_65 : decode b_B_markedAbove 65 = .ok (.goto 8, 3) := by decide +kernel
theorem d_B_markedAbove_68 : decode b_B_markedAbove 68 = .ok (.aload 6, 2) := by decide +kernel
theorem d_B_markedAbove_70 : decode b_B_markedAbove 70 = .ok (.getfield 42, 3) := by decide +kernel
theorem d_B_markedAbove_73 : decode b_B_markedAbove 73 = .ok (.istore 7, 2) := by decide +kernel
theorem d_B_markedAbove_75 : decode b_B_markedAbove 75 = .ok (.iload_n 2, 1) := by decide +kernel
theorem d_B_markedAbove_76 : decode b_B_markedAbove 76 = .ok (.sipush 1000, 3) := by decide +kernel
theorem d_B_markedAbove_79 : decode b_B_markedAbove 79 = .ok (.if_icmp .eq 9, 3) := by decide +kernel
theorem d_B_markedAbove_82 : decode b_B_markedAbove 82 = .ok (.iload 7, 2) := by decide +kernel
theorem d_B_markedAbove_84 : decode b_B_markedAbove 84 = .ok (.iload_n 2, 1) := by decide +kernel
theorem d_B_markedAbove_85 : decode b_B_markedAbove 85 = .ok (.if_icmp .ge 8, 3) := by decide +kernel
theorem d_B_markedAbove_88 : decode b_B_markedAbove 88 = .ok (.iload 7, 2) := by decide +kernel
theorem d_B_markedAbove_90 : decode b_B_markedAbove 90 = .ok (.goto 4, 3) := by decide +kernel
theorem d_B_markedAbove_93 : decode b_B_markedAbove 93 = .ok (.iload_n 2, 1) := by decide +kernel
theorem d_B_markedAbove_94 : decode b_B_markedAbove 94 = .ok (.istore_n 2, 1) := by decide +kernel
theorem d_B_markedAbove_95 : decode b_B_markedAbove 95 = .ok (.iinc 5 1, 3) := by decide +kernel
theorem d_B_markedAbove_98 : decode b_B_markedAbove 98 = .ok (.goto (-82), 3) := by decide +kernel
theorem d_B_markedAbove_101 : decode b_B_markedAbove 101 = .ok (.iload_n 2, 1) := by decide +kernel
theorem d_B_markedAbove_102 : decode b_B_markedAbove 102 = .ok (.ireturn, 1) := by decide +kernel
theorem d_B_clearPendingGrowth_0 : decode b_B_clearPendingGrowth 0 = .ok (.aload_n 0, 1) := by decide +kernel
theorem d_B_clearPendingGrowth_1 : decode b_B_clearPendingGrowth 1 = .ok (.getfield 11, 3) := by decide +kernel
theorem d_B_clearPendingGrowth_4 : decode b_B_clearPendingGrowth 4 = .ok (.astore_n 1, 1) := by decide +kernel
theorem d_B_clearPendingGrowth_5 : decode b_B_clearPendingGrowth 5 = .ok (.aload_n 1, 1) := by decide +kernel
theorem d_B_clearPendingGrowth_6 : decode b_B_clearPendingGrowth 6 = .ok (.arraylength, 1) := by decide +kernel
theorem d_B_clearPendingGrowth_7 : decode b_B_clearPendingGrowth 7 = .ok (.istore_n 2, 1) := by decide +kernel
theorem d_B_clearPendingGrowth_8 : decode b_B_clearPendingGrowth 8 = .ok (.iconst 0, 1) := by decide +kernel
theorem d_B_clearPendingGrowth_9 : decode b_B_clearPendingGrowth 9 = .ok (.istore_n 3, 1) := by decide +kernel
theorem d_B_clearPendingGrowth_10 : decode b_B_clearPendingGrowth 10 = .ok (.iload_n 3, 1) := by decide +kernel
theorem d_B_clearPendingGrowth_11 : decode b_B_clearPendingGrowth 11 = .ok (.iload_n 2, 1) := by decide +kernel
theorem d_B_clearPendingGrowth_12 : decode b_B_clearPendingGrowth 12 = .ok (.if_icmp .ge 20, 3) := by decide +kernel
theorem d_B_clearPendingGrowth_15 : decode b_B_clearPendingGrowth 15 = .ok (.aload_n 1, 1) := by decide +kernel
theorem d_B_clearPendingGrowth_16 : decode b_B_clearPendingGrowth 16 = .ok (.iload_n 3, 1) := by decide +kernel
theorem d_B_clearPendingGrowth_17 : decode b_B_clearPendingGrowth 17 = .ok (.aaload, 1) := by decide +kernel
theorem d_B_clearPendingGrowth_18 : decode b_B_clearPendingGrowth 18 = .ok (.astore 4, 2) := by decide +kernel
theorem d_B_clearPendingGrowth_20 : decode b_B_clearPendingGrowth 20 = .ok (.aload 4, 2) := by decide +kernel
theorem d_B_clearPendingGrowth_22 : decode b_B_clearPendingGrowth 22 = .ok (.lconst 0, 1) := by decide +kernel
theorem d_B_clearPendingGrowth_23 : decode b_B_clearPendingGrowth 23 = .ok (.putfield 45, 3) := by decide +kernel
theorem d_B_clearPendingGrowth_26 : decode b_B_clearPendingGrowth 26 = .ok (.iinc 3 1, 3) := by decide +kernel
theorem d_B_clearPendingGrowth_29 : decode b_B_clearPendingGrowth 29 = .ok (.goto (-19), 3) := by decide +kernel
theorem d_B_clearPendingGrowth_32 : decode b_B_clearPendingGrowth 32 = .ok (.return_, 1) := by decide +kernel
theorem d_B_growPending_0 : decode b_B_growPending 0 = .ok (.lload_n 2, 1) := by decide +kernel
theorem d_B_growPending_1 : decode b_B_growPending 1 = .ok (.ldc2_w 48, 3) := by decide +kernel
theorem d_B_growPending_4 : decode b_B_growPending 4 = .ok (.lmul, 1) := by decide +kernel
theorem d_B_growPending_5 : decode b_B_growPending 5 = .ok (.lload 4, 2) := by decide +kernel
theorem d_B_growPending_7 : decode b_B_growPending 7 = .ok (.iconst 0, 1) := by decide +kernel
theorem d_B_growPending_8 : decode b_B_growPending 8 = .ok (.invokestatic 50, 3) := by decide +kernel
theorem d_B_growPending_11 : decode b_B_growPending 11 = .ok (.lstore 6, 2) := by decide +kernel
theorem d_B_growPending_13 : decode b_B_growPending 13 = .ok (.aload_n 0, 1) := by decide +kernel
theorem d_B_growPending_14 : decode b_B_growPending 14 = .ok (.getfield 11, 3) := by decide +kernel
theorem d_B_growPending_17 : decode b_B_growPending 17 = .ok (.astore 8, 2) := by decide +kernel
theorem d_B_growPending_19 : decode b_B_growPending 19 = .ok (.aload 8, 2) := by decide +kernel
theorem d_B_growPending_21 : decode b_B_growPending 21 = .ok (.arraylength, 1) := by decide +kernel
theorem d_B_growPending_22 : decode b_B_growPending 22 = .ok (.istore 9, 2) := by decide +kernel
theorem d_B_growPending_24 : decode b_B_growPending 24 = .ok (.iconst 0, 1) := by decide +kernel
theorem d_B_growPending_25 : decode b_B_growPending 25 = .ok (.istore 10, 2) := by decide +kernel
theorem d_B_growPending_27 : decode b_B_growPending 27 = .ok (.iload 10, 2) := by decide +kernel
theorem d_B_growPending_29 : decode b_B_growPending 29 = .ok (.iload 9, 2) := by decide +kernel
theorem d_B_growPending_31 : decode b_B_growPending 31 = .ok (.if_icmp .ge 37, 3) := by decide +kernel
theorem d_B_growPending_34 : decode b_B_growPending 34 = .ok (.aload 8, 2) := by decide +kernel
theorem d_B_growPending_36 : decode b_B_growPending 36 = .ok (.iload 10, 2) := by decide +kernel
theorem d_B_growPending_38 : decode b_B_growPending 38 = .ok (.aaload, 1) := by decide +kernel
theorem d_B_growPending_39 : decode b_B_growPending 39 = .ok (.astore 11, 2) := by decide +kernel
theorem d_B_growPending_41 : decode b_B_growPending 41 = .ok (.aload 11, 2) := by decide +kernel
theorem d_B_growPending_43 : decode b_B_growPending 43 = .ok (.iload_n 1, 1) := by decide +kernel
theorem d_B_growPending_44 : decode b_B_growPending 44 = .ok (.invokevirtual 34, 3) := by decide +kernel
theorem d_B_growPending_47 : decode b_B_growPending 47 = .ok (.ifCond .eq 15, 3) := by decide +kernel
theorem d_B_growPending_50 : decode b_B_growPending 50 = .ok (.aload 11, 2) := by decide +kernel
theorem d_B_growPending_52 : decode b_B_growPending 52 = .ok (.dup, 1) := by decide +kernel
theorem d_B_growPending_53 : decode b_B_growPending 53 = .ok (.getfield 45, 3) := by decide +kernel
theorem d_B_growPending_56 : decode b_B_growPending 56 = .ok (.lload 6, 2) := by decide +kernel
theorem d_B_growPending_58 : decode b_B_growPending 58 = .ok (.ladd, 1) := by decide +kernel
theorem d_B_growPending_59 : decode b_B_growPending 59 = .ok (.putfield 45, 3) := by decide +kernel
theorem d_B_growPending_62 : decode b_B_growPending 62 = .ok (.iinc 10 1, 3) := by decide +kernel
theorem d_B_growPending_65 : decode b_B_growPending 65 = .ok (.goto (-38), 3) := by decide +kernel
theorem d_B_growPending_68 : decode b_B_growPending 68 = .ok (.return_, 1) := by decide +kernel
theorem d_B_keepPendingGrowth_0 : decode b_B_keepPendingGrowth 0 = .ok (.aload_n 0, 1) := by decide +kernel
theorem d_B_keepPendingGrowth_1 : decode b_B_keepPendingGrowth 1 = .ok (.getfield 11, 3) := by decide +kernel
theorem d_B_keepPendingGrowth_4 : decode b_B_keepPendingGrowth 4 = .ok (.astore_n 2, 1) := by decide +kernel
theorem d_B_keepPendingGrowth_5 : decode b_B_keepPendingGrowth 5 = .ok (.aload_n 2, 1) := by decide +kernel
theorem d_B_keepPendingGrowth_6 : decode b_B_keepPendingGrowth 6 = .ok (.arraylength, 1) := by decide +kernel
theorem d_B_keepPendingGrowth_7 : decode b_B_keepPendingGrowth 7 = .ok (.istore_n 3, 1) := by decide +kernel
theorem d_B_keepPendingGrowth_8 : decode b_B_keepPendingGrowth 8 = .ok (.iconst 0, 1) := by decide +kernel
theorem d_B_keepPendingGrowth_9 : decode b_B_keepPendingGrowth 9 = .ok (.istore 4, 2) := by decide +kernel
theorem d_B_keepPendingGrowth_11 : decode b_B_keepPendingGrowth 11 = .ok (.iload 4, 2) := by decide +kernel
theorem d_B_keepPendingGrowth_13 : decode b_B_keepPendingGrowth 13 = .ok (.iload_n 3, 1) := by decide +kernel
theorem d_B_keepPendingGrowth_14 : decode b_B_keepPendingGrowth 14 = .ok (.if_icmp .ge 30, 3) := by decide +kernel
theorem d_B_keepPendingGrowth_17 : decode b_B_keepPendingGrowth 17 = .ok (.aload_n 2, 1) := by decide +kernel
theorem d_B_keepPendingGrowth_18 : decode b_B_keepPendingGrowth 18 = .ok (.iload 4, 2) := by decide +kernel
theorem d_B_keepPendingGrowth_20 : decode b_B_keepPendingGrowth 20 = .ok (.aaload, 1) := by decide +kernel
theorem d_B_keepPendingGrowth_21 : decode b_B_keepPendingGrowth 21 = .ok (.astore 5, 2) := by decide +kernel
theorem d_B_keepPendingGrowth_23 : decode b_B_keepPendingGrowth 23 = .ok (.aload 5, 2) := by decide +kernel
theorem d_B_keepPendingGrowth_25 : decode b_B_keepPendingGrowth 25 = .ok (.getfield 54, 3) := by decide +kernel
theorem d_B_keepPendingGrowth_28 : decode b_B_keepPendingGrowth 28 = .ok (.iload_n 1, 1) := by decide +kernel
theorem d_B_keepPendingGrowth_29 : decode b_B_keepPendingGrowth 29 = .ok (.dup2, 1) := by decide +kernel
theorem d_B_keepPendingGrowth_30 : decode b_B_keepPendingGrowth 30 = .ok (.laload, 1) := by decide +kernel
theorem d_B_keepPendingGrowth_31 : decode b_B_keepPendingGrowth 31 = .ok (.aload 5, 2) := by decide +kernel
theorem d_B_keepPendingGrowth_33 : decode b_B_keepPendingGrowth 33 = .ok (.getfield 45, 3) := by decide +kernel
theorem d_B_keepPendingGrowth_36 : decode b_B_keepPendingGrowth 36 = .ok (.ladd, 1) := by decide +kernel
theorem d_B_keepPendingGrowth_37 : decode b_B_keepPendingGrowth 37 = .ok (.lastore, 1) := by decide +kernel
theorem d_B_keepPendingGrowth_38 : decode b_B_keepPendingGrowth 38 = .ok (.iinc 4 1, 3) := by decide +kernel
theorem d_B_keepPendingGrowth_41 : decode b_B_keepPendingGrowth 41 = .ok (.goto (-30), 3) := by decide +kernel
theorem d_B_keepPendingGrowth_44 : decode b_B_keepPendingGrowth 44 = .ok (.return_, 1) := by decide +kernel
