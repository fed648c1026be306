theorem d_T_init_0 : decode b_T_init 0 = .ok (.aload_n 0, 1) := by decide +kernel
theorem d_T_init_1 : decode b_T_init 1 = .ok (.invokespecial 3, 3) := by decide +kernel
theorem d_T_init_4 : decode b_T_init 4 = .ok (.aload_n 0, 1) := by decide +kernel
theorem d_T_init_5 : decode b_T_init 5 = .ok (.iconst 2, 1) := by decide +kernel
theorem d_T_init_6 : decode b_T_init 6 = .ok (.newarray .long, 2) := by decide +kernel
theorem d_T_init_8 : decode b_T_init 8 = .ok (.putfield 9, 3) := by decide +kernel
theorem d_T_init_11 : decode b_T_init 11 = .ok (.aload_n 0, 1) := by decide +kernel
theorem d_T_init_12 : decode b_T_init 12 = .ok (.iconst 2, 1) := by decide +kernel
theorem d_T_init_13 : decode b_T_init 13 = .ok (.newarray .long, 2) := by decide +kernel
theorem d_T_init_15 : decode b_T_init 15 = .ok (.putfield 15, 3) := by decide +kernel
theorem d_T_init_18 : decode b_T_init 18 = .ok (.return_, 1) := by decide +kernel
theorem d_T_isThere_0 : decode b_T_isThere 0 = .ok (.aload_n 0, 1) := by decide +kernel
theorem d_T_isThere_1 : decode b_T_isThere 1 = .ok (.getfield 18, 3) := by decide +kernel
theorem d_T_isThere_4 : decode b_T_isThere 4 = .ok (.lconst 0, 1) := by decide +kernel
theorem d_T_isThere_5 : decode b_T_isThere 5 = .ok (.lcmp, 1) := by decide +kernel
theorem d_T_isThere_6 : decode b_T_isThere 6 = .ok (.ifCond .ne 25, 3) := by decide +kernel
theorem d_T_isThere_9 : decode b_T_isThere 9 = .ok (.aload_n 0, 1) := by decide +kernel
theorem d_T_isThere_10 : decode b_T_isThere 10 = .ok (.getfield 9, 3) := by decide +kernel
theorem d_T_isThere_13 : decode b_T_isThere 13 = .ok (.iconst 0, 1) := by decide +kernel
theorem d_T_isThere_14 : decode b_T_isThere 14 = .ok (.laload, 1) := by decide +kernel
theorem d_T_isThere_15 : decode b_T_isThere 15 = .ok (.lconst 0, 1) := by decide +kernel
theorem d_T_isThere_16 : decode b_T_isThere 16 = .ok (.lcmp, 1) := by decide +kernel
theorem d_T_isThere_17 : decode b_T_isThere 17 = .ok (.ifCond .ne 14, 3) := by decide +kernel
theorem d_T_isThere_20 : decode b_T_isThere 20 = .ok (.aload_n 0, 1) := by decide +kernel
theorem d_T_isThere_21 : decode b_T_isThere 21 = .ok (.getfield 9, 3) := by decide +kernel
theorem d_T_isThere_24 : decode b_T_isThere 24 = .ok (.iconst 1, 1) := by decide +kernel
theorem d_T_isThere_25 : decode b_T_isThere 25 = .ok (.laload, 1) := by decide +kernel
theorem d_T_isThere_26 : decode b_T_isThere 26 = .ok (.lconst 0, 1) := by decide +kernel
theorem d_T_isThere_27 : decode b_T_isThere 27 = .ok (.lcmp, 1) := by decide +kernel
theorem d_T_isThere_28 : decode b_T_isThere 28 = .ok (.ifCond .eq 7, 3) := by decide +kernel
theorem d_T_isThere_31 : decode b_T_isThere 31 = .ok (.iconst 1, 1) := by decide +kernel
theorem d_T_isThere_32 : decode b_T_isThere 32 = .ok (.goto 4, 3) := by decide +kernel
theorem d_T_isThere_35 : decode b_T_isThere 35 = .ok (.iconst 0, 1) := by decide +kernel
theorem d_T_isThere_36 : decode b_T_isThere 36 = .ok (.ireturn, 1) := by decide +kernel
theorem d_T_isFor_0 : decode b_T_isFor 0 = .ok (.aload_n 0, 1) := by decide +kernel
theorem d_T_isFor_1 : decode b_T_isFor 1 = .ok (.getfield 22, 3) := by decide +kernel
theorem d_T_isFor_4 : decode b_T_isFor 4 = .ok (.iload_n 1, 1) := by decide +kernel
theorem d_T_isFor_5 : decode b_T_isFor 5 = .ok (.if_icmp .ne 23, 3) := by decide +kernel
theorem d_T_isFor_8 : decode b_T_isFor 8 = .ok (.aload_n 0, 1) := by decide +kernel
theorem d_T_isFor_9 : decode b_T_isFor 9 = .ok (.getfield 26, 3) := by decide +kernel
theorem d_T_isFor_12 : decode b_T_isFor 12 = .ok (.iload_n 2, 1) := by decide +kernel
theorem d_T_isFor_13 : decode b_T_isFor 13 = .ok (.if_icmp .ne 15, 3) := by decide +kernel
theorem d_T_isFor_16 : decode b_T_isFor 16 = .ok (.aload_n 0, 1) := by decide +kernel
theorem d_T_isFor_17 : decode b_T_isFor 17 = .ok (.getfield 29, 3) := by decide +kernel
theorem d_T_isFor_20 : decode b_T_isFor 20 = .ok (.iload_n 3, 1) := by decide +kernel
theorem d_T_isFor_21 : decode b_T_isFor 21 = .ok (.if_icmp .ne 7, 3) := by decide +kernel
theorem d_T_isFor_24 : decode b_T_isFor 24 = .ok (.iconst 1, 1) := by decide +kernel
theorem d_T_isFor_25 : decode b_T_isFor 25 = .ok (.goto 4, 3) := by decide +kernel
theorem d_T_isFor_28 : decode b_T_isFor 28 = .ok (.iconst 0, 1) := by decide +kernel
theorem d_T_isFor_29 : decode b_T_isFor 29 = .ok (.ireturn, 1) := by decide +kernel
theorem d_T_isInRange_0 : decode b_T_isInRange 0 = .ok (.aload_n 0, 1) := by decide +kernel
theorem d_T_isInRange_1 : decode b_T_isInRange 1 = .ok (.getfield 26, 3) := by decide +kernel
theorem d_T_isInRange_4 : decode b_T_isInRange 4 = .ok (.iload_n 1, 1) := by decide +kernel
theorem d_T_isInRange_5 : decode b_T_isInRange 5 = .ok (.if_icmp .gt 15, 3) := by decide +kernel
theorem d_T_isInRange_8 : decode b_T_isInRange 8 = .ok (.iload_n 1, 1) := by decide +kernel
theorem d_T_isInRange_9 : decode b_T_isInRange 9 = .ok (.aload_n 0, 1) := by decide +kernel
theorem d_T_isInRange_10 : decode b_T_isInRange 10 = .ok (.getfield 29, 3) := by decide +kernel
theorem d_T_isInRange_13 : decode b_T_isInRange 13 = .ok (.if_icmp .ge 7, 3) := by decide +kernel
theorem d_T_isInRange_16 : decode b_T_isInRange 16 = .ok (.iconst 1, 1) := by decide +kernel
theorem d_T_isInRange_17 : decode b_T_isInRange 17 = .ok (.goto 4, 3) := by decide +kernel
theorem d_T_isInRange_20 : decode b_T_isInRange 20 = .ok (.iconst 0, 1) := by decide +kernel
theorem d_T_isInRange_21 : decode b_T_isInRange 21 = .ok (.ireturn, 1) := by decide +kernel
theorem d_T_begin_0 : decode b_T_begin 0 = .ok (.aload_n 0, 1) := by decide +kernel
theorem d_T_begin_1 : decode b_T_begin 1 = .ok (.iload_n 1, 1) := by decide +kernel
theorem d_T_begin_2 : decode b_T_begin 2 = .ok (.putfield 22, 3) := by decide +kernel
theorem d_T_begin_5 : decode b_T_begin 5 = .ok (.aload_n 0, 1) := by decide +kernel
theorem d_T_begin_6 : decode b_T_begin 6 = .ok (.iload_n 2, 1) := by decide +kernel
theorem d_T_begin_7 : decode b_T_begin 7 = .ok (.putfield 26, 3) := by decide +kernel
theorem d_T_begin_10 : decode b_T_begin 10 = .ok (.aload_n 0, 1) := by decide +kernel
theorem d_T_begin_11 : decode b_T_begin 11 = .ok (.iload_n 3, 1) := by decide +kernel
theorem d_T_begin_12 : decode b_T_begin 12 = .ok (.putfield 29, 3) := by decide +kernel
theorem d_T_begin_15 : decode b_T_begin 15 = .ok (.return_, 1) := by decide +kernel
theorem d_T_settle_0 : decode b_T_settle 0 = .ok (.iconst 0, 1) := by decide +kernel
theorem d_T_settle_1 : decode b_T_settle 1 = .ok (.istore_n 1, 1) := by decide +kernel
theorem d_T_settle_2 : decode b_T_settle 2 = .ok (.iload_n 1, 1) := by decide +kernel
theorem d_T_settle_3 : decode b_T_settle 3 = .ok (.iconst 2, 1) := by decide +kernel
theorem d_T_settle_4 : decode b_T_settle 4 = .ok (.if_icmp .ge 40, 3) := by decide +kernel
theorem d_T_settle_7 : decode b_T_settle 7 = .ok (.aload_n 0, 1) := by decide +kernel
theorem d_T_settle_8 : decode b_T_settle 8 = .ok (.getfield 9, 3) := by decide +kernel
theorem d_T_settle_11 : decode b_T_settle 11 = .ok (.iload_n 1, 1) := by decide +kernel
theorem d_T_settle_12 : decode b_T_settle 12 = .ok (.dup2, 1) := by decide +kernel
theorem d_T_settle_13 : decode b_T_settle 13 = .ok (.laload, 1) := by decide +kernel
theorem d_T_settle_14 : decode b_T_settle 14 = .ok (.aload_n 0, 1) := by decide +kernel
theorem d_T_settle_15 : decode b_T_settle 15 = .ok (.getfield 15, 3) := by decide +kernel
theorem d_T_settle_18 : decode b_T_settle 18 = .ok (.iload_n 1, 1) := by decide +kernel
theorem d_T_settle_19 : decode b_T_settle 19 = .ok (.laload, 1) := by decide +kernel
theorem d_T_settle_20 : decode b_T_settle 20 = .ok (.aload_n 0, 1) := by decide +kernel
theorem d_T_settle_21 : decode b_T_settle 21 = .ok (.getfield 18, 3) := by decide +kernel
theorem d_T_settle_24 : decode b_T_settle 24 = .ok (.lmul, 1) := by decide +kernel
theorem d_T_settle_25 : decode b_T_settle 25 = .ok (.ldc2_w 32, 3) := by decide +kernel
theorem d_T_settle_28 : decode b_T_settle 28 = .ok (.ldiv, 1) := by decide +kernel
theorem d_T_settle_29 : decode b_T_settle 29 = .ok (.ladd, 1) := by decide +kernel
theorem d_T_settle_30 : decode b_T_settle 30 = .ok (.lastore, 1) := by decide +kernel
theorem d_T_settle_31 : decode b_T_settle 31 = .ok (.aload_n 0, 1) := by decide +kernel
theorem d_T_settle_32 : decode b_T_settle 32 = .ok (.getfield 15, 3) := by decide +kernel
theorem d_T_settle_35 : decode b_T_settle 35 = .ok (.iload_n 1, 1) := by decide +kernel
theorem d_T_settle_36 : decode b_T_settle 36 = .ok (.lconst 0, 1) := by decide +kernel
theorem d_T_settle_37 : decode b_T_settle 37 = .ok (.lastore, 1) := by decide +kernel
theorem d_T_settle_38 : decode b_T_settle 38 = .ok (.iinc 1 1, 3) := by decide +kernel
theorem d_T_settle_41 : decode b_T_settle 41 = .ok (.goto (-39), 3) := by decide +kernel
theorem d_T_settle_44 : decode b_T_settle 44 = .ok (.return_, 1) := by decide +kernel
