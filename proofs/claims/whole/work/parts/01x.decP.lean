theorem d_P_init_0 : decode b_P_init 0 = .ok (.aload_n 0, 1) := by decide +kernel
theorem d_P_init_1 : decode b_P_init 1 = .ok (.invokespecial 1, 3) := by decide +kernel
theorem d_P_init_4 : decode b_P_init 4 = .ok (.aload_n 0, 1) := by decide +kernel
theorem d_P_init_5 : decode b_P_init 5 = .ok (.iconst 4, 1) := by decide +kernel
theorem d_P_init_6 : decode b_P_init 6 = .ok (.iconst 2, 1) := by decide +kernel
theorem d_P_init_7 : decode b_P_init 7 = .ok (.multianewarray 9 2, 4) := by decide +kernel
theorem d_P_init_11 : decode b_P_init 11 = .ok (.putfield 11, 3) := by decide +kernel
theorem d_P_init_14 : decode b_P_init 14 = .ok (.aload_n 0, 1) := by decide +kernel
theorem d_P_init_15 : decode b_P_init 15 = .ok (.iconst 2, 1) := by decide +kernel
theorem d_P_init_16 : decode b_P_init 16 = .ok (.newarray .long, 2) := by decide +kernel
theorem d_P_init_18 : decode b_P_init 18 = .ok (.putfield 14, 3) := by decide +kernel
theorem d_P_init_21 : decode b_P_init 21 = .ok (.aload_n 0, 1) := by decide +kernel
theorem d_P_init_22 : decode b_P_init 22 = .ok (.new 18, 3) := by decide +kernel
theorem d_P_init_25 : decode b_P_init 25 = .ok (.dup, 1) := by decide +kernel
theorem d_P_init_26 : decode b_P_init 26 = .ok (.invokespecial 20, 3) := by decide +kernel
theorem d_P_init_29 : decode b_P_init 29 = .ok (.putfield 21, 3) := by decide +kernel
theorem d_P_init_32 : decode b_P_init 32 = .ok (.aload_n 0, 1) := by decide +kernel
theorem d_P_init_33 : decode b_P_init 33 = .ok (.new 25, 3) := by decide +kernel
theorem d_P_init_36 : decode b_P_init 36 = .ok (.dup, 1) := by decide +kernel
theorem d_P_init_37 : decode b_P_init 37 = .ok (.invokespecial 27, 3) := by decide +kernel
theorem d_P_init_40 : decode b_P_init 40 = .ok (.putfield 28, 3) := by decide +kernel
theorem d_P_init_43 : decode b_P_init 43 = .ok (.aload_n 0, 1) := by decide +kernel
theorem d_P_init_44 : decode b_P_init 44 = .ok (.iload_n 1, 1) := by decide +kernel
theorem d_P_init_45 : decode b_P_init 45 = .ok (.invokestatic 32, 3) := by decide +kernel
theorem d_P_init_48 : decode b_P_init 48 = .ok (.ifCond .eq 7, 3) := by decide +kernel
theorem d_P_init_51 : decode b_P_init 51 = .ok (.iload_n 1, 1) := by decide +kernel
theorem d_P_init_52 : decode b_P_init 52 = .ok (.goto 4, 3) := by decide +kernel
theorem d_P_init_55 : decode b_P_init 55 = .ok (.iconst 1, 1) := by decide +kernel
theorem d_P_init_56 : decode b_P_init 56 = .ok (.putfield 36, 3) := by decide +kernel
theorem d_P_init_59 : decode b_P_init 59 = .ok (.aload_n 0, 1) := by decide +kernel
theorem d_P_init_60 : decode b_P_init 60 = .ok (.iload_n 2, 1) := by decide +kernel
theorem d_P_init_61 : decode b_P_init 61 = .ok (.ifCond .lt 13, 3) := by decide +kernel
theorem d_P_init_64 : decode b_P_init 64 = .ok (.iload_n 2, 1) := by decide +kernel
theorem d_P_init_65 : decode b_P_init 65 = .ok (.bipush 100, 2) := by decide +kernel
theorem d_P_init_67 : decode b_P_init 67 = .ok (.if_icmp .gt 7, 3) := by decide +kernel
theorem d_P_init_70 : decode b_P_init 70 = .ok (.iload_n 2, 1) := by decide +kernel
theorem d_P_init_71 : decode b_P_init 71 = .ok (.goto 4, 3) := by decide +kernel
theorem d_P_init_74 : decode b_P_init 74 = .ok (.iconst 3, 1) := by decide +kernel
theorem d_P_init_75 : decode b_P_init 75 = .ok (.putfield 40, 3) := by decide +kernel
theorem d_P_init_78 : decode b_P_init 78 = .ok (.aload_n 0, 1) := by decide +kernel
theorem d_P_init_79 : decode b_P_init 79 = .ok (.new 43, 3) := by decide +kernel
theorem d_P_init_82 : decode b_P_init 82 = .ok (.dup, 1) := by decide +kernel
theorem d_P_init_83 : decode b_P_init 83 = .ok (.aload_n 0, 1) := by decide +kernel
theorem d_P_init_84 : decode b_P_init 84 = .ok (.getfield 40, 3) := by decide +kernel
theorem d_P_init_87 : decode b_P_init 87 = .ok (.invokespecial 45, 3) := by decide +kernel
theorem d_P_init_90 : decode b_P_init 90 = .ok (.putfield 48, 3) := by decide +kernel
theorem d_P_init_93 : decode b_P_init 93 = .ok (.return_, 1) := by decide +kernel
theorem d_P_open_0 : decode b_P_open 0 = .ok (.aload_n 0, 1) := by decide +kernel
theorem d_P_open_1 : decode b_P_open 1 = .ok (.getfield 52, 3) := by decide +kernel
theorem d_P_open_4 : decode b_P_open 4 = .ok (.ifCond .ne 10, 3) := by decide +kernel
theorem d_P_open_7 : decode b_P_open 7 = .ok (.iload_n 1, 1) := by decide +kernel
theorem d_P_open_8 : decode b_P_open 8 = .ok (.invokestatic 56, 3) := by decide +kernel
theorem d_P_open_11 : decode b_P_open 11 = .ok (.ifCond .ne 5, 3) := by decide +kernel
theorem d_P_open_14 : decode b_P_open 14 = .ok (.iconst 0, 1) := by decide +kernel
theorem d_P_open_15 : decode b_P_open 15 = .ok (.ireturn, 1) := by decide +kernel
theorem d_P_open_16 : decode b_P_open 16 = .ok (.aload_n 0, 1) := by decide +kernel
theorem d_P_open_17 : decode b_P_open 17 = .ok (.iconst 1, 1) := by decide +kernel
theorem d_P_open_18 : decode b_P_open 18 = .ok (.putfield 52, 3) := by decide +kernel
theorem d_P_open_21 : decode b_P_open 21 = .ok (.aload_n 0, 1) := by decide +kernel
theorem d_P_open_22 : decode b_P_open 22 = .ok (.iload_n 1, 1) := by decide +kernel
theorem d_P_open_23 : decode b_P_open 23 = .ok (.invokestatic 59, 3) := by decide +kernel
theorem d_P_open_26 : decode b_P_open 26 = .ok (.putfield 63, 3) := by decide +kernel
theorem d_P_open_29 : decode b_P_open 29 = .ok (.aload_n 0, 1) := by decide +kernel
theorem d_P_open_30 : decode b_P_open 30 = .ok (.iload_n 1, 1) := by decide +kernel
theorem d_P_open_31 : decode b_P_open 31 = .ok (.putfield 66, 3) := by decide +kernel
theorem d_P_open_34 : decode b_P_open 34 = .ok (.aload_n 0, 1) := by decide +kernel
theorem d_P_open_35 : decode b_P_open 35 = .ok (.getfield 28, 3) := by decide +kernel
theorem d_P_open_38 : decode b_P_open 38 = .ok (.iload_n 1, 1) := by decide +kernel
theorem d_P_open_39 : decode b_P_open 39 = .ok (.invokevirtual 69, 3) := by decide +kernel
theorem d_P_open_42 : decode b_P_open 42 = .ok (.iconst 1, 1) := by decide +kernel
theorem d_P_open_43 : decode b_P_open 43 = .ok (.ireturn, 1) := by decide +kernel
theorem d_P_fund_0 : decode b_P_fund 0 = .ok (.iload_n 1, 1) := by decide +kernel
theorem d_P_fund_1 : decode b_P_fund 1 = .ok (.invokestatic 72, 3) := by decide +kernel
theorem d_P_fund_4 : decode b_P_fund 4 = .ok (.ifCond .eq 20, 3) := by decide +kernel
theorem d_P_fund_7 : decode b_P_fund 7 = .ok (.iload_n 2, 1) := by decide +kernel
theorem d_P_fund_8 : decode b_P_fund 8 = .ok (.invokestatic 75, 3) := by decide +kernel
theorem d_P_fund_11 : decode b_P_fund 11 = .ok (.ifCond .eq 13, 3) := by decide +kernel
theorem d_P_fund_14 : decode b_P_fund 14 = .ok (.iload_n 3, 1) := by decide +kernel
theorem d_P_fund_15 : decode b_P_fund 15 = .ok (.ifCond .lt 9, 3) := by decide +kernel
theorem d_P_fund_18 : decode b_P_fund 18 = .ok (.iload_n 3, 1) := by decide +kernel
theorem d_P_fund_19 : decode b_P_fund 19 = .ok (.ldc 78, 2) := by decide +kernel
theorem d_P_fund_21 : decode b_P_fund 21 = .ok (.if_icmp .le 5, 3) := by decide +kernel
theorem d_P_fund_24 : decode b_P_fund 24 = .ok (.iconst 0, 1) := by decide +kernel
theorem d_P_fund_25 : decode b_P_fund 25 = .ok (.ireturn, 1) := by decide +kernel
theorem d_P_fund_26 : decode b_P_fund 26 = .ok (.aload_n 0, 1) := by decide +kernel
theorem d_P_fund_27 : decode b_P_fund 27 = .ok (.getfield 11, 3) := by decide +kernel
theorem d_P_fund_30 : decode b_P_fund 30 = .ok (.iload_n 1, 1) := by decide +kernel
theorem d_P_fund_31 : decode b_P_fund 31 = .ok (.aaload, 1) := by decide +kernel
theorem d_P_fund_32 : decode b_P_fund 32 = .ok (.iload_n 2, 1) := by decide +kernel
theorem d_P_fund_33 : decode b_P_fund 33 = .ok (.dup2, 1) := by decide +kernel
theorem d_P_fund_34 : decode b_P_fund 34 = .ok (.laload, 1) := by decide +kernel
theorem d_P_fund_35 : decode b_P_fund 35 = .ok (.iload_n 3, 1) := by decide +kernel
theorem d_P_fund_36 : decode b_P_fund 36 = .ok (.i2l, 1) := by decide +kernel
theorem d_P_fund_37 : decode b_P_fund 37 = .ok (.ladd, 1) := by decide +kernel
theorem d_P_fund_38 : decode b_P_fund 38 = .ok (.lastore, 1) := by decide +kernel
theorem d_P_fund_39 : decode b_P_fund 39 = .ok (.iconst 1, 1) := by decide +kernel
theorem d_P_fund_40 : decode b_P_fund 40 = .ok (.ireturn, 1) := by decide +kernel
theorem d_P_mint_0 : decode b_P_mint 0 = .ok (.aload_n 0, 1) := by decide +kernel
theorem d_P_mint_1 : decode b_P_mint 1 = .ok (.getfield 52, 3) := by decide +kernel
theorem d_P_mint_4 : decode b_P_mint 4 = .ok (.ifCond .ne 7, 3) := by decide +kernel
theorem d_P_mint_7 : decode b_P_mint 7 = .ok (.ldc2_w 79, 3) := by decide +kernel
theorem d_P_mint_10 : decode b_P_mint 10 = .ok (.lreturn, 1) := by decide +kernel
theorem d_P_mint_11 : decode b_P_mint 11 = .ok (.iload_n 1, 1) := by decide +kernel
theorem d_P_mint_12 : decode b_P_mint 12 = .ok (.invokestatic 72, 3) := by decide +kernel
theorem d_P_mint_15 : decode b_P_mint 15 = .ok (.ifCond .eq 25, 3) := by decide +kernel
theorem d_P_mint_18 : decode b_P_mint 18 = .ok (.aload_n 0, 1) := by decide +kernel
theorem d_P_mint_19 : decode b_P_mint 19 = .ok (.iload_n 2, 1) := by decide +kernel
theorem d_P_mint_20 : decode b_P_mint 20 = .ok (.iload_n 3, 1) := by decide +kernel
theorem d_P_mint_21 : decode b_P_mint 21 = .ok (.invokevirtual 81, 3) := by decide +kernel
theorem d_P_mint_24 : decode b_P_mint 24 = .ok (.ifCond .eq 16, 3) := by decide +kernel
theorem d_P_mint_27 : decode b_P_mint 27 = .ok (.iload 4, 2) := by decide +kernel
theorem d_P_mint_29 : decode b_P_mint 29 = .ok (.iconst 1, 1) := by decide +kernel
theorem d_P_mint_30 : decode b_P_mint 30 = .ok (.if_icmp .lt 10, 3) := by decide +kernel
theorem d_P_mint_33 : decode b_P_mint 33 = .ok (.iload 4, 2) := by decide +kernel
theorem d_P_mint_35 : decode b_P_mint 35 = .ok (.ldc 85, 2) := by decide +kernel
theorem d_P_mint_37 : decode b_P_mint 37 = .ok (.if_icmp .le 7, 3) := by decide +kernel
theorem d_P_mint_40 : decode b_P_mint 40 = .ok (.ldc2_w 86, 3) := by decide +kernel
theorem d_P_mint_43 : decode b_P_mint 43 = .ok (.lreturn, 1) := by decide +kernel
theorem d_P_mint_44 : decode b_P_mint 44 = .ok (.aload_n 0, 1) := by decide +kernel
theorem d_P_mint_45 : decode b_P_mint 45 = .ok (.getfield 21, 3) := by decide +kernel
theorem d_P_mint_48 : decode b_P_mint 48 = .ok (.iload_n 1, 1) := by decide +kernel
theorem d_P_mint_49 : decode b_P_mint 49 = .ok (.iload_n 2, 1) := by decide +kernel
theorem d_P_mint_50 : decode b_P_mint 50 = .ok (.iload_n 3, 1) := by decide +kernel
theorem d_P_mint_51 : decode b_P_mint 51 = .ok (.invokevirtual 88, 3) := by decide +kernel
theorem d_P_mint_54 : decode b_P_mint 54 = .ok (.astore 5, 2) := by decide +kernel
theorem d_P_mint_56 : decode b_P_mint 56 = .ok (.aload 5, 2) := by decide +kernel
theorem d_P_mint_58 : decode b_P_mint 58 = .ok (.ifnull 21, 3) := by decide +kernel
theorem d_P_mint_61 : decode b_P_mint 61 = .ok (.aload_n 0, 1) := by decide +kernel
theorem d_P_mint_62 : decode b_P_mint 62 = .ok (.getfield 21, 3) := by decide +kernel
theorem d_P_mint_65 : decode b_P_mint 65 = .ok (.invokevirtual 92, 3) := by decide +kernel
theorem d_P_mint_68 : decode b_P_mint 68 = .ok (.iload 4, 2) := by decide +kernel
theorem d_P_mint_70 : decode b_P_mint 70 = .ok (.i2l, 1) := by decide +kernel
theorem d_P_mint_71 : decode b_P_mint 71 = .ok (.ladd, 1) := by decide +kernel
theorem d_P_mint_72 : decode b_P_mint 72 = .ok (.ldc2_w 96, 3) := by decide +kernel
theorem d_P_mint_75 : decode b_P_mint 75 = .ok (.lcmp, 1) := by decide +kernel
theorem d_P_mint_76 : decode b_P_mint 76 = .ok (.ifCond .le 7, 3) := by decide +kernel
theorem d_P_mint_79 : decode b_P_mint 79 = .ok (.ldc2_w 98, 3) := by decide +kernel
theorem d_P_mint_82 : decode b_P_mint 82 = .ok (.lreturn, 1) := by decide +kernel
theorem d_P_mint_83 : decode b_P_mint 83 = .ok (.aload_n 0, 1) := by decide +kernel
theorem d_P_mint_84 : decode b_P_mint 84 = .ok (.iload_n 2, 1) := by decide +kernel
theorem d_P_mint_85 : decode b_P_mint 85 = .ok (.iload_n 3, 1) := by decide +kernel
theorem d_P_mint_86 : decode b_P_mint 86 = .ok (.iload 4, 2) := by decide +kernel
theorem d_P_mint_88 : decode b_P_mint 88 = .ok (.i2l, 1) := by decide +kernel
theorem d_P_mint_89 : decode b_P_mint 89 = .ok (.iconst 1, 1) := by decide +kernel
theorem d_P_mint_90 : decode b_P_mint 90 = .ok (.invokevirtual 100, 3) := by decide +kernel
theorem d_P_mint_93 : decode b_P_mint 93 = .ok (.lstore 6, 2) := by decide +kernel
theorem d_P_mint_95 : decode b_P_mint 95 = .ok (.aload_n 0, 1) := by decide +kernel
theorem d_P_mint_96 : decode b_P_mint 96 = .ok (.iload_n 2, 1) := by decide +kernel
theorem d_P_mint_97 : decode b_P_mint 97 = .ok (.iload_n 3, 1) := by decide +kernel
theorem d_P_mint_98 : decode b_P_mint 98 = .ok (.iload 4, 2) := by decide +kernel
theorem d_P_mint_100 : decode b_P_mint 100 = .ok (.i2l, 1) := by decide +kernel
theorem d_P_mint_101 : decode b_P_mint 101 = .ok (.iconst 1, 1) := by decide +kernel
theorem d_P_mint_102 : decode b_P_mint 102 = .ok (.invokevirtual 104, 3) := by decide +kernel
theorem d_P_mint_105 : decode b_P_mint 105 = .ok (.lstore 8, 2) := by decide +kernel
theorem d_P_mint_107 : decode b_P_mint 107 = .ok (.aload_n 0, 1) := by decide +kernel
theorem d_P_mint_108 : decode b_P_mint 108 = .ok (.iload_n 1, 1) := by decide +kernel
theorem d_P_mint_109 : decode b_P_mint 109 = .ok (.lload 6, 2) := by decide +kernel
theorem d_P_mint_111 : decode b_P_mint 111 = .ok (.lload 8, 2) := by decide +kernel
theorem d_P_mint_113 : decode b_P_mint 113 = .ok (.invokevirtual 107, 3) := by decide +kernel
theorem d_P_mint_116 : decode b_P_mint 116 = .ok (.ifCond .ne 7, 3) := by decide +kernel
theorem d_P_mint_119 : decode b_P_mint 119 = .ok (.ldc2_w 111, 3) := by decide +kernel
theorem d_P_mint_122 : decode b_P_mint 122 = .ok (.lreturn, 1) := by decide +kernel
theorem d_P_mint_123 : decode b_P_mint 123 = .ok (.aload_n 0, 1) := by decide +kernel
theorem d_P_mint_124 : decode b_P_mint 124 = .ok (.getfield 28, 3) := by decide +kernel
theorem d_P_mint_127 : decode b_P_mint 127 = .ok (.aload_n 0, 1) := by decide +kernel
theorem d_P_mint_128 : decode b_P_mint 128 = .ok (.getfield 66, 3) := by decide +kernel
theorem d_P_mint_131 : decode b_P_mint 131 = .ok (.invokevirtual 69, 3) := by decide +kernel
theorem d_P_mint_134 : decode b_P_mint 134 = .ok (.aload_n 0, 1) := by decide +kernel
theorem d_P_mint_135 : decode b_P_mint 135 = .ok (.iload_n 1, 1) := by decide +kernel
theorem d_P_mint_136 : decode b_P_mint 136 = .ok (.lload 6, 2) := by decide +kernel
theorem d_P_mint_138 : decode b_P_mint 138 = .ok (.lload 8, 2) := by decide +kernel
theorem d_P_mint_140 : decode b_P_mint 140 = .ok (.invokevirtual 113, 3) := by decide +kernel
theorem d_P_mint_143 : decode b_P_mint 143 = .ok (.aload 5, 2) := by decide +kernel
theorem d_P_mint_145 : decode b_P_mint 145 = .ok (.invokevirtual 117, 3) := by decide +kernel
theorem d_P_mint_148 : decode b_P_mint 148 = .ok (.ifCond .ne 11, 3) := by decide +kernel
theorem d_P_mint_151 : decode b_P_mint 151 = .ok (.aload 5, 2) := by decide +kernel
theorem d_P_mint_153 : decode b_P_mint 153 = .ok (.iload_n 1, 1) := by decide +kernel
theorem d_P_mint_154 : decode b_P_mint 154 = .ok (.iload_n 2, 1) := by decide +kernel
theorem d_P_mint_155 : decode b_P_mint 155 = .ok (.iload_n 3, 1) := by decide +kernel
theorem d_P_mint_156 : decode b_P_mint 156 = .ok (.invokevirtual 123, 3) := by decide +kernel
theorem d_P_mint_159 : decode b_P_mint 159 = .ok (.aload 5, 2) := by decide +kernel
theorem d_P_mint_161 : decode b_P_mint 161 = .ok (.invokevirtual 127, 3) := by decide +kernel
theorem d_P_mint_164 : decode b_P_mint 164 = .ok (.aload 5, 2) := by decide +kernel
theorem d_P_mint_166 : decode b_P_mint 166 = .ok (.dup, 1) := by decide +kernel
theorem d_P_mint_167 : decode b_P_mint 167 = .ok (.getfield 130, 3) := by decide +kernel
theorem d_P_mint_170 : decode b_P_mint 170 = .ok (.iload 4, 2) := by decide +kernel
theorem d_P_mint_172 : decode b_P_mint 172 = .ok (.i2l, 1) := by decide +kernel
theorem d_P_mint_173 : decode b_P_mint 173 = .ok (.ladd, 1) := by decide +kernel
theorem d_P_mint_174 : decode b_P_mint 174 = .ok (.putfield 130, 3) := by decide +kernel
theorem d_P_mint_177 : decode b_P_mint 177 = .ok (.lload 6, 2) := by decide +kernel
theorem d_P_mint_179 : decode b_P_mint 179 = .ok (.lload 8, 2) := by decide +kernel
theorem d_P_mint_181 : decode b_P_mint 181 = .ok (.invokestatic 134, 3) := by decide +kernel
theorem d_P_mint_184 : decode b_P_mint 184 = .ok (.lreturn, 1) := by decide +kernel
theorem d_P_burn_0 : decode b_P_burn 0 = .ok (.aload_n 0, 1) := by decide +kernel
theorem d_P_burn_1 : decode b_P_burn 1 = .ok (.getfield 52, 3) := by decide +kernel
theorem d_P_burn_4 : decode b_P_burn 4 = .ok (.ifCond .ne 7, 3) := by decide +kernel
theorem d_P_burn_7 : decode b_P_burn 7 = .ok (.ldc2_w 79, 3) := by decide +kernel
theorem d_P_burn_10 : decode b_P_burn 10 = .ok (.lreturn, 1) := by decide +kernel
theorem d_P_burn_11 : decode b_P_burn 11 = .ok (.aload_n 0, 1) := by decide +kernel
theorem d_P_burn_12 : decode b_P_burn 12 = .ok (.getfield 21, 3) := by decide +kernel
theorem d_P_burn_15 : decode b_P_burn 15 = .ok (.iload_n 1, 1) := by decide +kernel
theorem d_P_burn_16 : decode b_P_burn 16 = .ok (.iload_n 2, 1) := by decide +kernel
theorem d_P_burn_17 : decode b_P_burn 17 = .ok (.iload_n 3, 1) := by decide +kernel
theorem d_P_burn_18 : decode b_P_burn 18 = .ok (.invokevirtual 138, 3) := by decide +kernel
theorem d_P_burn_21 : decode b_P_burn 21 = .ok (.astore 5, 2) := by decide +kernel
theorem d_P_burn_23 : decode b_P_burn 23 = .ok (.aload 5, 2) := by decide +kernel
theorem d_P_burn_25 : decode b_P_burn 25 = .ok (.ifnonnull 7, 3) := by decide +kernel
theorem d_P_burn_28 : decode b_P_burn 28 = .ok (.ldc2_w 141, 3) := by decide +kernel
theorem d_P_burn_31 : decode b_P_burn 31 = .ok (.lreturn, 1) := by decide +kernel
theorem d_P_burn_32 : decode b_P_burn 32 = .ok (.iload 4, 2) := by decide +kernel
theorem d_P_burn_34 : decode b_P_burn 34 = .ok (.ifCond .lt 15, 3) := by decide +kernel
theorem d_P_burn_37 : decode b_P_burn 37 = .ok (.iload 4, 2) := by decide +kernel
theorem d_P_burn_39 : decode b_P_burn 39 = .ok (.i2l, 1) := by decide +kernel
theorem d_P_burn_40 : decode b_P_burn 40 = .ok (.aload 5, 2) := by decide +kernel
theorem d_P_burn_42 : decode b_P_burn 42 = .ok (.getfield 130, 3) := by decide +kernel
theorem d_P_burn_45 : decode b_P_burn 45 = .ok (.lcmp, 1) := by decide +kernel
theorem d_P_burn_46 : decode b_P_burn 46 = .ok (.ifCond .le 7, 3) := by decide +kernel
theorem d_P_burn_49 : decode b_P_burn 49 = .ok (.ldc2_w 86, 3) := by decide +kernel
theorem d_P_burn_52 : decode b_P_burn 52 = .ok (.lreturn, 1) := by decide +kernel
theorem d_P_burn_53 : decode b_P_burn 53 = .ok (.aload_n 0, 1) := by decide +kernel
theorem d_P_burn_54 : decode b_P_burn 54 = .ok (.getfield 28, 3) := by decide +kernel
theorem d_P_burn_57 : decode b_P_burn 57 = .ok (.aload_n 0, 1) := by decide +kernel
theorem d_P_burn_58 : decode b_P_burn 58 = .ok (.getfield 66, 3) := by decide +kernel
theorem d_P_burn_61 : decode b_P_burn 61 = .ok (.invokevirtual 69, 3) := by decide +kernel
theorem d_P_burn_64 : decode b_P_burn 64 = .ok (.aload_n 0, 1) := by decide +kernel
theorem d_P_burn_65 : decode b_P_burn 65 = .ok (.iload_n 2, 1) := by decide +kernel
theorem d_P_burn_66 : decode b_P_burn 66 = .ok (.iload_n 3, 1) := by decide +kernel
theorem d_P_burn_67 : decode b_P_burn 67 = .ok (.iload 4, 2) := by decide +kernel
theorem d_P_burn_69 : decode b_P_burn 69 = .ok (.i2l, 1) := by decide +kernel
theorem d_P_burn_70 : decode b_P_burn 70 = .ok (.iconst 0, 1) := by decide +kernel
theorem d_P_burn_71 : decode b_P_burn 71 = .ok (.invokevirtual 100, 3) := by decide +kernel
theorem d_P_burn_74 : decode b_P_burn 74 = .ok (.lstore 6, 2) := by decide +kernel
theorem d_P_burn_76 : decode b_P_burn 76 = .ok (.aload_n 0, 1) := by decide +kernel
theorem d_P_burn_77 : decode b_P_burn 77 = .ok (.iload_n 2, 1) := by decide +kernel
theorem d_P_burn_78 : decode b_P_burn 78 = .ok (.iload_n 3, 1) := by decide +kernel
theorem d_P_burn_79 : decode b_P_burn 79 = .ok (.iload 4, 2) := by decide +kernel
theorem d_P_burn_81 : decode b_P_burn 81 = .ok (.i2l, 1) := by decide +kernel
theorem d_P_burn_82 : decode b_P_burn 82 = .ok (.iconst 0, 1) := by decide +kernel
theorem d_P_burn_83 : decode b_P_burn 83 = .ok (.invokevirtual 104, 3) := by decide +kernel
theorem d_P_burn_86 : decode b_P_burn 86 = .ok (.lstore 8, 2) := by decide +kernel
theorem d_P_burn_88 : decode b_P_burn 88 = .ok (.aload 5, 2) := by decide +kernel
theorem d_P_burn_90 : decode b_P_burn 90 = .ok (.invokevirtual 127, 3) := by decide +kernel
theorem d_P_burn_93 : decode b_P_burn 93 = .ok (.aload 5, 2) := by decide +kernel
theorem d_P_burn_95 : decode b_P_burn 95 = .ok (.dup, 1) := by decide +kernel
theorem d_P_burn_96 : decode b_P_burn 96 = .ok (.getfield 130, 3) := by decide +kernel
theorem d_P_burn_99 : decode b_P_burn 99 = .ok (.iload 4, 2) := by decide +kernel
theorem d_P_burn_101 : decode b_P_burn 101 = .ok (.i2l, 1) := by decide +kernel
theorem d_P_burn_102 : decode b_P_burn 102 = .ok (.lsub, 1) := by decide +kernel
theorem d_P_burn_103 : decode b_P_burn 103 = .ok (.putfield 130, 3) := by decide +kernel
theorem d_P_burn_106 : decode b_P_burn 106 = .ok (.aload 5, 2) := by decide +kernel
theorem d_P_burn_108 : decode b_P_burn 108 = .ok (.getfield 143, 3) := by decide +kernel
theorem d_P_burn_111 : decode b_P_burn 111 = .ok (.iconst 0, 1) := by decide +kernel
theorem d_P_burn_112 : decode b_P_burn 112 = .ok (.dup2, 1) := by decide +kernel
theorem d_P_burn_113 : decode b_P_burn 113 = .ok (.laload, 1) := by decide +kernel
theorem d_P_burn_114 : decode b_P_burn 114 = .ok (.lload 6, 2) := by decide +kernel
theorem d_P_burn_116 : decode b_P_burn 116 = .ok (.ladd, 1) := by decide +kernel
theorem d_P_burn_117 : decode b_P_burn 117 = .ok (.lastore, 1) := by decide +kernel
theorem d_P_burn_118 : decode b_P_burn 118 = .ok (.aload 5, 2) := by decide +kernel
theorem d_P_burn_120 : decode b_P_burn 120 = .ok (.getfield 143, 3) := by decide +kernel
theorem d_P_burn_123 : decode b_P_burn 123 = .ok (.iconst 1, 1) := by decide +kernel
theorem d_P_burn_124 : decode b_P_burn 124 = .ok (.dup2, 1) := by decide +kernel
theorem d_P_burn_125 : decode b_P_burn 125 = .ok (.laload, 1) := by decide +kernel
theorem d_P_burn_126 : decode b_P_burn 126 = .ok (.lload 8, 2) := by decide +kernel
theorem d_P_burn_128 : decode b_P_burn 128 = .ok (.ladd, 1) := by decide +kernel
theorem d_P_burn_129 : decode b_P_burn 129 = .ok (.lastore, 1) := by decide +kernel
theorem d_P_burn_130 : decode b_P_burn 130 = .ok (.lload 6, 2) := by decide +kernel
theorem d_P_burn_132 : decode b_P_burn 132 = .ok (.lload 8, 2) := by decide +kernel
theorem d_P_burn_134 : decode b_P_burn 134 = .ok (.invokestatic 134, 3) := by decide +kernel
theorem d_P_burn_137 : decode b_P_burn 137 = .ok (.lreturn, 1) := by decide +kernel
theorem d_P_collect_0 : decode b_P_collect 0 = .ok (.aload_n 0, 1) := by decide +kernel
theorem d_P_collect_1 : decode b_P_collect 1 = .ok (.getfield 52, 3) := by decide +kernel
theorem d_P_collect_4 : decode b_P_collect 4 = .ok (.ifCond .ne 7, 3) := by decide +kernel
theorem d_P_collect_7 : decode b_P_collect 7 = .ok (.ldc2_w 79, 3) := by decide +kernel
theorem d_P_collect_10 : decode b_P_collect 10 = .ok (.lreturn, 1) := by decide +kernel
theorem d_P_collect_11 : decode b_P_collect 11 = .ok (.aload_n 0, 1) := by decide +kernel
theorem d_P_collect_12 : decode b_P_collect 12 = .ok (.getfield 21, 3) := by decide +kernel
theorem d_P_collect_15 : decode b_P_collect 15 = .ok (.iload_n 1, 1) := by decide +kernel
theorem d_P_collect_16 : decode b_P_collect 16 = .ok (.iload_n 2, 1) := by decide +kernel
theorem d_P_collect_17 : decode b_P_collect 17 = .ok (.iload_n 3, 1) := by decide +kernel
theorem d_P_collect_18 : decode b_P_collect 18 = .ok (.invokevirtual 138, 3) := by decide +kernel
theorem d_P_collect_21 : decode b_P_collect 21 = .ok (.astore 4, 2) := by decide +kernel
theorem d_P_collect_23 : decode b_P_collect 23 = .ok (.aload 4, 2) := by decide +kernel
theorem d_P_collect_25 : decode b_P_collect 25 = .ok (.ifnonnull 7, 3) := by decide +kernel
theorem d_P_collect_28 : decode b_P_collect 28 = .ok (.ldc2_w 141, 3) := by decide +kernel
theorem d_P_collect_31 : decode b_P_collect 31 = .ok (.lreturn, 1) := by decide +kernel
theorem d_P_collect_32 : decode b_P_collect 32 = .ok (.aload 4, 2) := by decide +kernel
theorem d_P_collect_34 : decode b_P_collect 34 = .ok (.getfield 143, 3) := by decide +kernel
theorem d_P_collect_37 : decode b_P_collect 37 = .ok (.iconst 0, 1) := by decide +kernel
theorem d_P_collect_38 : decode b_P_collect 38 = .ok (.laload, 1) := by decide +kernel
theorem d_P_collect_39 : decode b_P_collect 39 = .ok (.lstore 5, 2) := by decide +kernel
theorem d_P_collect_41 : decode b_P_collect 41 = .ok (.aload 4, 2) := by decide +kernel
theorem d_P_collect_43 : decode b_P_collect 43 = .ok (.getfield 143, 3) := by decide +kernel
theorem d_P_collect_46 : decode b_P_collect 46 = .ok (.iconst 1, 1) := by decide +kernel
theorem d_P_collect_47 : decode b_P_collect 47 = .ok (.laload, 1) := by decide +kernel
theorem d_P_collect_48 : decode b_P_collect 48 = .ok (.lstore 7, 2) := by decide +kernel
theorem d_P_collect_50 : decode b_P_collect 50 = .ok (.aload 4, 2) := by decide +kernel
theorem d_P_collect_52 : decode b_P_collect 52 = .ok (.getfield 143, 3) := by decide +kernel
theorem d_P_collect_55 : decode b_P_collect 55 = .ok (.iconst 0, 1) := by decide +kernel
theorem d_P_collect_56 : decode b_P_collect 56 = .ok (.lconst 0, 1) := by decide +kernel
theorem d_P_collect_57 : decode b_P_collect 57 = .ok (.lastore, 1) := by decide +kernel
theorem d_P_collect_58 : decode b_P_collect 58 = .ok (.aload 4, 2) := by decide +kernel
theorem d_P_collect_60 : decode b_P_collect 60 = .ok (.getfield 143, 3) := by decide +kernel
theorem d_P_collect_63 : decode b_P_collect 63 = .ok (.iconst 1, 1) := by decide +kernel
theorem d_P_collect_64 : decode b_P_collect 64 = .ok (.lconst 0, 1) := by decide +kernel
theorem d_P_collect_65 : decode b_P_collect 65 = .ok (.lastore, 1) := by decide +kernel
theorem d_P_collect_66 : decode b_P_collect 66 = .ok (.aload_n 0, 1) := by decide +kernel
theorem d_P_collect_67 : decode b_P_collect 67 = .ok (.iload_n 1, 1) := by decide +kernel
theorem d_P_collect_68 : decode b_P_collect 68 = .ok (.lload 5, 2) := by decide +kernel
theorem d_P_collect_70 : decode b_P_collect 70 = .ok (.lneg, 1) := by decide +kernel
theorem d_P_collect_71 : decode b_P_collect 71 = .ok (.lload 7, 2) := by decide +kernel
theorem d_P_collect_73 : decode b_P_collect 73 = .ok (.lneg, 1) := by decide +kernel
theorem d_P_collect_74 : decode b_P_collect 74 = .ok (.invokevirtual 113, 3) := by decide +kernel
theorem d_P_collect_77 : decode b_P_collect 77 = .ok (.lload 5, 2) := by decide +kernel
theorem d_P_collect_79 : decode b_P_collect 79 = .ok (.lload 7, 2) := by decide +kernel
theorem d_P_collect_81 : decode b_P_collect 81 = .ok (.invokestatic 134, 3) := by decide +kernel
theorem d_P_collect_84 : decode b_P_collect 84 = .ok (.lreturn, 1) := by decide +kernel
theorem d_P_swap_0 : decode b_P_swap 0 = .ok (.aload_n 0, 1) := by decide +kernel
theorem d_P_swap_1 : decode b_P_swap 1 = .ok (.getfield 52, 3) := by decide +kernel
theorem d_P_swap_4 : decode b_P_swap 4 = .ok (.ifCond .ne 7, 3) := by decide +kernel
theorem d_P_swap_7 : decode b_P_swap 7 = .ok (.ldc2_w 79, 3) := by decide +kernel
theorem d_P_swap_10 : decode b_P_swap 10 = .ok (.lreturn, 1) := by decide +kernel
theorem d_P_swap_11 : decode b_P_swap 11 = .ok (.iload_n 1, 1) := by decide +kernel
theorem d_P_swap_12 : decode b_P_swap 12 = .ok (.invokestatic 72, 3) := by decide +kernel
theorem d_P_swap_15 : decode b_P_swap 15 = .ok (.ifCond .eq 14, 3) := by decide +kernel
theorem d_P_swap_18 : decode b_P_swap 18 = .ok (.aload_n 0, 1) := by decide +kernel
theorem d_P_swap_19 : decode b_P_swap 19 = .ok (.iload_n 2, 1) := by decide +kernel
theorem d_P_swap_20 : decode b_P_swap 20 = .ok (.iload_n 3, 1) := by decide +kernel
theorem d_P_swap_21 : decode b_P_swap 21 = .ok (.iload 4, 2) := by decide +kernel
theorem d_P_swap_23 : decode b_P_swap 23 = .ok (.invokevirtual 146, 3) := by decide +kernel
theorem d_P_swap_26 : decode b_P_swap 26 = .ok (.ifCond .ne 7, 3) := by decide +kernel
theorem d_P_swap_29 : decode b_P_swap 29 = .ok (.ldc2_w 86, 3) := by decide +kernel
theorem d_P_swap_32 : decode b_P_swap 32 = .ok (.lreturn, 1) := by decide +kernel
theorem d_P_swap_33 : decode b_P_swap 33 = .ok (.aload_n 0, 1) := by decide +kernel
theorem d_P_swap_34 : decode b_P_swap 34 = .ok (.getfield 48, 3) := by decide +kernel
theorem d_P_swap_37 : decode b_P_swap 37 = .ok (.aload_n 0, 1) := by decide +kernel
theorem d_P_swap_38 : decode b_P_swap 38 = .ok (.getfield 63, 3) := by decide +kernel
theorem d_P_swap_41 : decode b_P_swap 41 = .ok (.aload_n 0, 1) := by decide +kernel
theorem d_P_swap_42 : decode b_P_swap 42 = .ok (.getfield 66, 3) := by decide +kernel
theorem d_P_swap_45 : decode b_P_swap 45 = .ok (.iload_n 2, 1) := by decide +kernel
theorem d_P_swap_46 : decode b_P_swap 46 = .ok (.invokevirtual 150, 3) := by decide +kernel
theorem d_P_swap_49 : decode b_P_swap 49 = .ok (.aload_n 0, 1) := by decide +kernel
theorem d_P_swap_50 : decode b_P_swap 50 = .ok (.getfield 48, 3) := by decide +kernel
theorem d_P_swap_53 : decode b_P_swap 53 = .ok (.aload_n 0, 1) := by decide +kernel
theorem d_P_swap_54 : decode b_P_swap 54 = .ok (.getfield 21, 3) := by decide +kernel
theorem d_P_swap_57 : decode b_P_swap 57 = .ok (.iload_n 3, 1) := by decide +kernel
theorem d_P_swap_58 : decode b_P_swap 58 = .ok (.iload 4, 2) := by decide +kernel
theorem d_P_swap_60 : decode b_P_swap 60 = .ok (.invokestatic 59, 3) := by decide +kernel
theorem d_P_swap_63 : decode b_P_swap 63 = .ok (.invokevirtual 154, 3) := by decide +kernel
theorem d_P_swap_66 : decode b_P_swap 66 = .ok (.aload_n 0, 1) := by decide +kernel
theorem d_P_swap_67 : decode b_P_swap 67 = .ok (.getfield 48, 3) := by decide +kernel
theorem d_P_swap_70 : decode b_P_swap 70 = .ok (.invokevirtual 158, 3) := by decide +kernel
theorem d_P_swap_73 : decode b_P_swap 73 = .ok (.istore 5, 2) := by decide +kernel
theorem d_P_swap_75 : decode b_P_swap 75 = .ok (.aload_n 0, 1) := by decide +kernel
theorem d_P_swap_76 : decode b_P_swap 76 = .ok (.getfield 11, 3) := by decide +kernel
theorem d_P_swap_79 : decode b_P_swap 79 = .ok (.iload_n 1, 1) := by decide +kernel
theorem d_P_swap_80 : decode b_P_swap 80 = .ok (.aaload, 1) := by decide +kernel
theorem d_P_swap_81 : decode b_P_swap 81 = .ok (.iload 5, 2) := by decide +kernel
theorem d_P_swap_83 : decode b_P_swap 83 = .ok (.laload, 1) := by decide +kernel
theorem d_P_swap_84 : decode b_P_swap 84 = .ok (.aload_n 0, 1) := by decide +kernel
theorem d_P_swap_85 : decode b_P_swap 85 = .ok (.getfield 48, 3) := by decide +kernel
theorem d_P_swap_88 : decode b_P_swap 88 = .ok (.getfield 162, 3) := by decide +kernel
theorem d_P_swap_91 : decode b_P_swap 91 = .ok (.lcmp, 1) := by decide +kernel
theorem d_P_swap_92 : decode b_P_swap 92 = .ok (.ifCond .ge 7, 3) := by decide +kernel
theorem d_P_swap_95 : decode b_P_swap 95 = .ok (.ldc2_w 111, 3) := by decide +kernel
theorem d_P_swap_98 : decode b_P_swap 98 = .ok (.lreturn, 1) := by decide +kernel
theorem d_P_swap_99 : decode b_P_swap 99 = .ok (.aload_n 0, 1) := by decide +kernel
theorem d_P_swap_100 : decode b_P_swap 100 = .ok (.getfield 28, 3) := by decide +kernel
theorem d_P_swap_103 : decode b_P_swap 103 = .ok (.aload_n 0, 1) := by decide +kernel
theorem d_P_swap_104 : decode b_P_swap 104 = .ok (.getfield 66, 3) := by decide +kernel
theorem d_P_swap_107 : decode b_P_swap 107 = .ok (.invokevirtual 69, 3) := by decide +kernel
theorem d_P_swap_110 : decode b_P_swap 110 = .ok (.aload_n 0, 1) := by decide +kernel
theorem d_P_swap_111 : decode b_P_swap 111 = .ok (.iload_n 1, 1) := by decide +kernel
theorem d_P_swap_112 : decode b_P_swap 112 = .ok (.iload 5, 2) := by decide +kernel
theorem d_P_swap_114 : decode b_P_swap 114 = .ok (.aload_n 0, 1) := by decide +kernel
theorem d_P_swap_115 : decode b_P_swap 115 = .ok (.getfield 48, 3) := by decide +kernel
theorem d_P_swap_118 : decode b_P_swap 118 = .ok (.getfield 162, 3) := by decide +kernel
theorem d_P_swap_121 : decode b_P_swap 121 = .ok (.invokevirtual 165, 3) := by decide +kernel
theorem d_P_swap_124 : decode b_P_swap 124 = .ok (.aload_n 0, 1) := by decide +kernel
theorem d_P_swap_125 : decode b_P_swap 125 = .ok (.iload_n 1, 1) := by decide +kernel
theorem d_P_swap_126 : decode b_P_swap 126 = .ok (.iconst 1, 1) := by decide +kernel
theorem d_P_swap_127 : decode b_P_swap 127 = .ok (.iload 5, 2) := by decide +kernel
theorem d_P_swap_129 : decode b_P_swap 129 = .ok (.isub, 1) := by decide +kernel
theorem d_P_swap_130 : decode b_P_swap 130 = .ok (.aload_n 0, 1) := by decide +kernel
theorem d_P_swap_131 : decode b_P_swap 131 = .ok (.getfield 48, 3) := by decide +kernel
theorem d_P_swap_134 : decode b_P_swap 134 = .ok (.getfield 169, 3) := by decide +kernel
theorem d_P_swap_137 : decode b_P_swap 137 = .ok (.lneg, 1) := by decide +kernel
theorem d_P_swap_138 : decode b_P_swap 138 = .ok (.invokevirtual 165, 3) := by decide +kernel
theorem d_P_swap_141 : decode b_P_swap 141 = .ok (.aload_n 0, 1) := by decide +kernel
theorem d_P_swap_142 : decode b_P_swap 142 = .ok (.getfield 21, 3) := by decide +kernel
theorem d_P_swap_145 : decode b_P_swap 145 = .ok (.iload 5, 2) := by decide +kernel
theorem d_P_swap_147 : decode b_P_swap 147 = .ok (.invokevirtual 172, 3) := by decide +kernel
theorem d_P_swap_150 : decode b_P_swap 150 = .ok (.aload_n 0, 1) := by decide +kernel
theorem d_P_swap_151 : decode b_P_swap 151 = .ok (.aload_n 0, 1) := by decide +kernel
theorem d_P_swap_152 : decode b_P_swap 152 = .ok (.getfield 48, 3) := by decide +kernel
theorem d_P_swap_155 : decode b_P_swap 155 = .ok (.getfield 175, 3) := by decide +kernel
theorem d_P_swap_158 : decode b_P_swap 158 = .ok (.putfield 63, 3) := by decide +kernel
theorem d_P_swap_161 : decode b_P_swap 161 = .ok (.aload_n 0, 1) := by decide +kernel
theorem d_P_swap_162 : decode b_P_swap 162 = .ok (.aload_n 0, 1) := by decide +kernel
theorem d_P_swap_163 : decode b_P_swap 163 = .ok (.getfield 48, 3) := by decide +kernel
theorem d_P_swap_166 : decode b_P_swap 166 = .ok (.getfield 178, 3) := by decide +kernel
theorem d_P_swap_169 : decode b_P_swap 169 = .ok (.putfield 66, 3) := by decide +kernel
theorem d_P_swap_172 : decode b_P_swap 172 = .ok (.aload_n 0, 1) := by decide +kernel
theorem d_P_swap_173 : decode b_P_swap 173 = .ok (.getfield 48, 3) := by decide +kernel
theorem d_P_swap_176 : decode b_P_swap 176 = .ok (.getfield 162, 3) := by decide +kernel
theorem d_P_swap_179 : decode b_P_swap 179 = .ok (.aload_n 0, 1) := by decide +kernel
theorem d_P_swap_180 : decode b_P_swap 180 = .ok (.getfield 48, 3) := by decide +kernel
theorem d_P_swap_183 : decode b_P_swap 183 = .ok (.getfield 169, 3) := by decide +kernel
theorem d_P_swap_186 : decode b_P_swap 186 = .ok (.invokestatic 134, 3) := by decide +kernel
theorem d_P_swap_189 : decode b_P_swap 189 = .ok (.lreturn, 1) := by decide +kernel
theorem d_P_quote_0 : decode b_P_quote 0 = .ok (.aload_n 0, 1) := by decide +kernel
theorem d_P_quote_1 : decode b_P_quote 1 = .ok (.getfield 52, 3) := by decide +kernel
theorem d_P_quote_4 : decode b_P_quote 4 = .ok (.ifCond .ne 7, 3) := by decide +kernel
theorem d_P_quote_7 : decode b_P_quote 7 = .ok (.ldc2_w 79, 3) := by decide +kernel
theorem d_P_quote_10 : decode b_P_quote 10 = .ok (.lreturn, 1) := by decide +kernel
theorem d_P_quote_11 : decode b_P_quote 11 = .ok (.aload_n 0, 1) := by decide +kernel
theorem d_P_quote_12 : decode b_P_quote 12 = .ok (.iload_n 1, 1) := by decide +kernel
theorem d_P_quote_13 : decode b_P_quote 13 = .ok (.iload_n 2, 1) := by decide +kernel
theorem d_P_quote_14 : decode b_P_quote 14 = .ok (.iload_n 3, 1) := by decide +kernel
theorem d_P_quote_15 : decode b_P_quote 15 = .ok (.invokevirtual 146, 3) := by decide +kernel
theorem d_P_quote_18 : decode b_P_quote 18 = .ok (.ifCond .ne 7, 3) := by decide +kernel
theorem d_P_quote_21 : decode b_P_quote 21 = .ok (.ldc2_w 86, 3) := by decide +kernel
theorem d_P_quote_24 : decode b_P_quote 24 = .ok (.lreturn, 1) := by decide +kernel
theorem d_P_quote_25 : decode b_P_quote 25 = .ok (.aload_n 0, 1) := by decide +kernel
theorem d_P_quote_26 : decode b_P_quote 26 = .ok (.getfield 48, 3) := by decide +kernel
theorem d_P_quote_29 : decode b_P_quote 29 = .ok (.aload_n 0, 1) := by decide +kernel
theorem d_P_quote_30 : decode b_P_quote 30 = .ok (.getfield 63, 3) := by decide +kernel
theorem d_P_quote_33 : decode b_P_quote 33 = .ok (.aload_n 0, 1) := by decide +kernel
theorem d_P_quote_34 : decode b_P_quote 34 = .ok (.getfield 66, 3) := by decide +kernel
theorem d_P_quote_37 : decode b_P_quote 37 = .ok (.iload_n 1, 1) := by decide +kernel
theorem d_P_quote_38 : decode b_P_quote 38 = .ok (.invokevirtual 150, 3) := by decide +kernel
theorem d_P_quote_41 : decode b_P_quote 41 = .ok (.aload_n 0, 1) := by decide +kernel
theorem d_P_quote_42 : decode b_P_quote 42 = .ok (.getfield 48, 3) := by decide +kernel
theorem d_P_quote_45 : decode b_P_quote 45 = .ok (.aload_n 0, 1) := by decide +kernel
theorem d_P_quote_46 : decode b_P_quote 46 = .ok (.getfield 21, 3) := by decide +kernel
theorem d_P_quote_49 : decode b_P_quote 49 = .ok (.iload_n 2, 1) := by decide +kernel
theorem d_P_quote_50 : decode b_P_quote 50 = .ok (.iload_n 3, 1) := by decide +kernel
theorem d_P_quote_51 : decode b_P_quote 51 = .ok (.invokestatic 59, 3) := by decide +kernel
theorem d_P_quote_54 : decode b_P_quote 54 = .ok (.invokevirtual 154, 3) := by decide +kernel
theorem d_P_quote_57 : decode b_P_quote 57 = .ok (.aload_n 0, 1) := by decide +kernel
theorem d_P_quote_58 : decode b_P_quote 58 = .ok (.getfield 48, 3) := by decide +kernel
theorem d_P_quote_61 : decode b_P_quote 61 = .ok (.getfield 162, 3) := by decide +kernel
theorem d_P_quote_64 : decode b_P_quote 64 = .ok (.aload_n 0, 1) := by decide +kernel
theorem d_P_quote_65 : decode b_P_quote 65 = .ok (.getfield 48, 3) := by decide +kernel
theorem d_P_quote_68 : decode b_P_quote 68 = .ok (.getfield 169, 3) := by decide +kernel
theorem d_P_quote_71 : decode b_P_quote 71 = .ok (.invokestatic 134, 3) := by decide +kernel
theorem d_P_quote_74 : decode b_P_quote 74 = .ok (.lreturn, 1) := by decide +kernel
theorem d_P_flash_0 : decode b_P_flash 0 = .ok (.aload_n 0, 1) := by decide +kernel
theorem d_P_flash_1 : decode b_P_flash 1 = .ok (.getfield 52, 3) := by decide +kernel
theorem d_P_flash_4 : decode b_P_flash 4 = .ok (.ifCond .ne 7, 3) := by decide +kernel
theorem d_P_flash_7 : decode b_P_flash 7 = .ok (.ldc2_w 79, 3) := by decide +kernel
theorem d_P_flash_10 : decode b_P_flash 10 = .ok (.lreturn, 1) := by decide +kernel
theorem d_P_flash_11 : decode b_P_flash 11 = .ok (.aload_n 0, 1) := by decide +kernel
theorem d_P_flash_12 : decode b_P_flash 12 = .ok (.getfield 21, 3) := by decide +kernel
theorem d_P_flash_15 : decode b_P_flash 15 = .ok (.aload_n 0, 1) := by decide +kernel
theorem d_P_flash_16 : decode b_P_flash 16 = .ok (.getfield 66, 3) := by decide +kernel
theorem d_P_flash_19 : decode b_P_flash 19 = .ok (.invokevirtual 181, 3) := by decide +kernel
theorem d_P_flash_22 : decode b_P_flash 22 = .ok (.lstore 4, 2) := by decide +kernel
theorem d_P_flash_24 : decode b_P_flash 24 = .ok (.iload_n 1, 1) := by decide +kernel
theorem d_P_flash_25 : decode b_P_flash 25 = .ok (.invokestatic 72, 3) := by decide +kernel
theorem d_P_flash_28 : decode b_P_flash 28 = .ok (.ifCond .eq 28, 3) := by decide +kernel
theorem d_P_flash_31 : decode b_P_flash 31 = .ok (.aload_n 0, 1) := by decide +kernel
theorem d_P_flash_32 : decode b_P_flash 32 = .ok (.iconst 0, 1) := by decide +kernel
theorem d_P_flash_33 : decode b_P_flash 33 = .ok (.iload_n 2, 1) := by decide +kernel
theorem d_P_flash_34 : decode b_P_flash 34 = .ok (.invokevirtual 185, 3) := by decide +kernel
theorem d_P_flash_37 : decode b_P_flash 37 = .ok (.ifCond .eq 19, 3) := by decide +kernel
theorem d_P_flash_40 : decode b_P_flash 40 = .ok (.aload_n 0, 1) := by decide +kernel
theorem d_P_flash_41 : decode b_P_flash 41 = .ok (.iconst 1, 1) := by decide +kernel
theorem d_P_flash_42 : decode b_P_flash 42 = .ok (.iload_n 3, 1) := by decide +kernel
theorem d_P_flash_43 : decode b_P_flash 43 = .ok (.invokevirtual 185, 3) := by decide +kernel
theorem d_P_flash_46 : decode b_P_flash 46 = .ok (.ifCond .eq 10, 3) := by decide +kernel
theorem d_P_flash_49 : decode b_P_flash 49 = .ok (.lload 4, 2) := by decide +kernel
theorem d_P_flash_51 : decode b_P_flash 51 = .ok (.lconst 0, 1) := by decide +kernel
theorem d_P_flash_52 : decode b_P_flash 52 = .ok (.lcmp, 1) := by decide +kernel
theorem d_P_flash_53 : decode b_P_flash 53 = .ok (.ifCond .ne 7, 3) := by decide +kernel
theorem d_P_flash_56 : decode b_P_flash 56 = .ok (.ldc2_w 86, 3) := by decide +kernel
theorem d_P_flash_59 : decode b_P_flash 59 = .ok (.lreturn, 1) := by decide +kernel
theorem d_P_flash_60 : decode b_P_flash 60 = .ok (.iload_n 2, 1) := by decide +kernel
theorem d_P_flash_61 : decode b_P_flash 61 = .ok (.i2l, 1) := by decide +kernel
theorem d_P_flash_62 : decode b_P_flash 62 = .ok (.aload_n 0, 1) := by decide +kernel
theorem d_P_flash_63 : decode b_P_flash 63 = .ok (.getfield 40, 3) := by decide +kernel
theorem d_P_flash_66 : decode b_P_flash 66 = .ok (.i2l, 1) := by decide +kernel
theorem d_P_flash_67 : decode b_P_flash 67 = .ok (.lmul, 1) := by decide +kernel
theorem d_P_flash_68 : decode b_P_flash 68 = .ok (.ldc2_w 188, 3) := by decide +kernel
theorem d_P_flash_71 : decode b_P_flash 71 = .ok (.iconst 1, 1) := by decide +kernel
theorem d_P_flash_72 : decode b_P_flash 72 = .ok (.invokestatic 190, 3) := by decide +kernel
theorem d_P_flash_75 : decode b_P_flash 75 = .ok (.lstore 6, 2) := by decide +kernel
theorem d_P_flash_77 : decode b_P_flash 77 = .ok (.iload_n 3, 1) := by decide +kernel
theorem d_P_flash_78 : decode b_P_flash 78 = .ok (.i2l, 1) := by decide +kernel
theorem d_P_flash_79 : decode b_P_flash 79 = .ok (.aload_n 0, 1) := by decide +kernel
theorem d_P_flash_80 : decode b_P_flash 80 = .ok (.getfield 40, 3) := by decide +kernel
theorem d_P_flash_83 : decode b_P_flash 83 = .ok (.i2l, 1) := by decide +kernel
theorem d_P_flash_84 : decode b_P_flash 84 = .ok (.lmul, 1) := by decide +kernel
theorem d_P_flash_85 : decode b_P_flash 85 = .ok (.ldc2_w 188, 3) := by decide +kernel
theorem d_P_flash_88 : decode b_P_flash 88 = .ok (.iconst 1, 1) := by decide +kernel
theorem d_P_flash_89 : decode b_P_flash 89 = .ok (.invokestatic 190, 3) := by decide +kernel
theorem d_P_flash_92 : decode b_P_flash 92 = .ok (.lstore 8, 2) := by decide +kernel
theorem d_P_flash_94 : decode b_P_flash 94 = .ok (.aload_n 0, 1) := by decide +kernel
theorem d_P_flash_95 : decode b_P_flash 95 = .ok (.iload_n 1, 1) := by decide +kernel
theorem d_P_flash_96 : decode b_P_flash 96 = .ok (.lload 6, 2) := by decide +kernel
theorem d_P_flash_98 : decode b_P_flash 98 = .ok (.lload 8, 2) := by decide +kernel
theorem d_P_flash_100 : decode b_P_flash 100 = .ok (.invokevirtual 107, 3) := by decide +kernel
theorem d_P_flash_103 : decode b_P_flash 103 = .ok (.ifCond .ne 7, 3) := by decide +kernel
theorem d_P_flash_106 : decode b_P_flash 106 = .ok (.ldc2_w 111, 3) := by decide +kernel
theorem d_P_flash_109 : decode b_P_flash 109 = .ok (.lreturn, 1) := by decide +kernel
theorem d_P_flash_110 : decode b_P_flash 110 = .ok (.aload_n 0, 1) := by decide +kernel
theorem d_P_flash_111 : decode b_P_flash 111 = .ok (.iload_n 1, 1) := by decide +kernel
theorem d_P_flash_112 : decode b_P_flash 112 = .ok (.lload 6, 2) := by decide +kernel
theorem d_P_flash_114 : decode b_P_flash 114 = .ok (.lload 8, 2) := by decide +kernel
theorem d_P_flash_116 : decode b_P_flash 116 = .ok (.invokevirtual 113, 3) := by decide +kernel
theorem d_P_flash_119 : decode b_P_flash 119 = .ok (.aload_n 0, 1) := by decide +kernel
theorem d_P_flash_120 : decode b_P_flash 120 = .ok (.iconst 0, 1) := by decide +kernel
theorem d_P_flash_121 : decode b_P_flash 121 = .ok (.lload 6, 2) := by decide +kernel
theorem d_P_flash_123 : decode b_P_flash 123 = .ok (.lload 4, 2) := by decide +kernel
theorem d_P_flash_125 : decode b_P_flash 125 = .ok (.invokevirtual 194, 3) := by decide +kernel
theorem d_P_flash_128 : decode b_P_flash 128 = .ok (.aload_n 0, 1) := by decide +kernel
theorem d_P_flash_129 : decode b_P_flash 129 = .ok (.iconst 1, 1) := by decide +kernel
theorem d_P_flash_130 : decode b_P_flash 130 = .ok (.lload 8, 2) := by decide +kernel
theorem d_P_flash_132 : decode b_P_flash 132 = .ok (.lload 4, 2) := by decide +kernel
theorem d_P_flash_134 : decode b_P_flash 134 = .ok (.invokevirtual 194, 3) := by decide +kernel
theorem d_P_flash_137 : decode b_P_flash 137 = .ok (.lload 6, 2) := by decide +kernel
theorem d_P_flash_139 : decode b_P_flash 139 = .ok (.lload 8, 2) := by decide +kernel
theorem d_P_flash_141 : decode b_P_flash 141 = .ok (.invokestatic 134, 3) := by decide +kernel
theorem d_P_flash_144 : decode b_P_flash 144 = .ok (.lreturn, 1) := by decide +kernel
theorem d_P_advance_0 : decode b_P_advance 0 = .ok (.iload_n 1, 1) := by decide +kernel
theorem d_P_advance_1 : decode b_P_advance 1 = .ok (.ifCond .lt 10, 3) := by decide +kernel
theorem d_P_advance_4 : decode b_P_advance 4 = .ok (.iload_n 1, 1) := by decide +kernel
theorem d_P_advance_5 : decode b_P_advance 5 = .ok (.sipush 10000, 3) := by decide +kernel
theorem d_P_advance_8 : decode b_P_advance 8 = .ok (.if_icmp .le 5, 3) := by decide +kernel
theorem d_P_advance_11 : decode b_P_advance 11 = .ok (.iconst 0, 1) := by decide +kernel
theorem d_P_advance_12 : decode b_P_advance 12 = .ok (.ireturn, 1) := by decide +kernel
theorem d_P_advance_13 : decode b_P_advance 13 = .ok (.aload_n 0, 1) := by decide +kernel
theorem d_P_advance_14 : decode b_P_advance 14 = .ok (.getfield 28, 3) := by decide +kernel
theorem d_P_advance_17 : decode b_P_advance 17 = .ok (.iload_n 1, 1) := by decide +kernel
theorem d_P_advance_18 : decode b_P_advance 18 = .ok (.aload_n 0, 1) := by decide +kernel
theorem d_P_advance_19 : decode b_P_advance 19 = .ok (.getfield 66, 3) := by decide +kernel
theorem d_P_advance_22 : decode b_P_advance 22 = .ok (.invokevirtual 197, 3) := by decide +kernel
theorem d_P_advance_25 : decode b_P_advance 25 = .ok (.iconst 1, 1) := by decide +kernel
theorem d_P_advance_26 : decode b_P_advance 26 = .ok (.ireturn, 1) := by decide +kernel
theorem d_P_observe_0 : decode b_P_observe 0 = .ok (.aload_n 0, 1) := by decide +kernel
theorem d_P_observe_1 : decode b_P_observe 1 = .ok (.getfield 52, 3) := by decide +kernel
theorem d_P_observe_4 : decode b_P_observe 4 = .ok (.ifCond .ne 7, 3) := by decide +kernel
theorem d_P_observe_7 : decode b_P_observe 7 = .ok (.ldc2_w 79, 3) := by decide +kernel
theorem d_P_observe_10 : decode b_P_observe 10 = .ok (.lreturn, 1) := by decide +kernel
theorem d_P_observe_11 : decode b_P_observe 11 = .ok (.iload_n 1, 1) := by decide +kernel
theorem d_P_observe_12 : decode b_P_observe 12 = .ok (.ifCond .ge 7, 3) := by decide +kernel
theorem d_P_observe_15 : decode b_P_observe 15 = .ok (.ldc2_w 86, 3) := by decide +kernel
theorem d_P_observe_18 : decode b_P_observe 18 = .ok (.lreturn, 1) := by decide +kernel
theorem d_P_observe_19 : decode b_P_observe 19 = .ok (.aload_n 0, 1) := by decide +kernel
theorem d_P_observe_20 : decode b_P_observe 20 = .ok (.getfield 28, 3) := by decide +kernel
theorem d_P_observe_23 : decode b_P_observe 23 = .ok (.getfield 201, 3) := by decide +kernel
theorem d_P_observe_26 : decode b_P_observe 26 = .ok (.iload_n 1, 1) := by decide +kernel
theorem d_P_observe_27 : decode b_P_observe 27 = .ok (.i2l, 1) := by decide +kernel
theorem d_P_observe_28 : decode b_P_observe 28 = .ok (.lsub, 1) := by decide +kernel
theorem d_P_observe_29 : decode b_P_observe 29 = .ok (.lstore_n 2, 1) := by decide +kernel
theorem d_P_observe_30 : decode b_P_observe 30 = .ok (.aload_n 0, 1) := by decide +kernel
theorem d_P_observe_31 : decode b_P_observe 31 = .ok (.getfield 28, 3) := by decide +kernel
theorem d_P_observe_34 : decode b_P_observe 34 = .ok (.lload_n 2, 1) := by decide +kernel
theorem d_P_observe_35 : decode b_P_observe 35 = .ok (.invokevirtual 204, 3) := by decide +kernel
theorem d_P_observe_38 : decode b_P_observe 38 = .ok (.ifCond .eq 18, 3) := by decide +kernel
theorem d_P_observe_41 : decode b_P_observe 41 = .ok (.aload_n 0, 1) := by decide +kernel
theorem d_P_observe_42 : decode b_P_observe 42 = .ok (.getfield 28, 3) := by decide +kernel
theorem d_P_observe_45 : decode b_P_observe 45 = .ok (.lload_n 2, 1) := by decide +kernel
theorem d_P_observe_46 : decode b_P_observe 46 = .ok (.aload_n 0, 1) := by decide +kernel
theorem d_P_observe_47 : decode b_P_observe 47 = .ok (.getfield 66, 3) := by decide +kernel
theorem d_P_observe_50 : decode b_P_observe 50 = .ok (.invokevirtual 208, 3) := by decide +kernel
theorem d_P_observe_53 : decode b_P_observe 53 = .ok (.goto 6, 3) := by decide +kernel
theorem d_P_observe_56 : decode b_P_observe 56 = .ok (.ldc2_w 212, 3) := by decide +kernel
theorem d_P_observe_59 : decode b_P_observe 59 = .ok (.lreturn, 1) := by decide +kernel
theorem d_P_price_0 : decode b_P_price 0 = .ok (.aload_n 0, 1) := by decide +kernel
theorem d_P_price_1 : decode b_P_price 1 = .ok (.getfield 63, 3) := by decide +kernel
theorem d_P_price_4 : decode b_P_price 4 = .ok (.ireturn, 1) := by decide +kernel
theorem d_P_step_0 : decode b_P_step 0 = .ok (.aload_n 0, 1) := by decide +kernel
theorem d_P_step_1 : decode b_P_step 1 = .ok (.getfield 66, 3) := by decide +kernel
theorem d_P_step_4 : decode b_P_step 4 = .ok (.ireturn, 1) := by decide +kernel
theorem d_P_depth_0 : decode b_P_depth 0 = .ok (.aload_n 0, 1) := by decide +kernel
theorem d_P_depth_1 : decode b_P_depth 1 = .ok (.getfield 21, 3) := by decide +kernel
theorem d_P_depth_4 : decode b_P_depth 4 = .ok (.aload_n 0, 1) := by decide +kernel
theorem d_P_depth_5 : decode b_P_depth 5 = .ok (.getfield 66, 3) := by decide +kernel
theorem d_P_depth_8 : decode b_P_depth 8 = .ok (.invokevirtual 181, 3) := by decide +kernel
theorem d_P_depth_11 : decode b_P_depth 11 = .ok (.l2i, 1) := by decide +kernel
theorem d_P_depth_12 : decode b_P_depth 12 = .ok (.ireturn, 1) := by decide +kernel
theorem d_P_wallet_0 : decode b_P_wallet 0 = .ok (.iload_n 1, 1) := by decide +kernel
theorem d_P_wallet_1 : decode b_P_wallet 1 = .ok (.invokestatic 72, 3) := by decide +kernel
theorem d_P_wallet_4 : decode b_P_wallet 4 = .ok (.ifCond .eq 21, 3) := by decide +kernel
theorem d_P_wallet_7 : decode b_P_wallet 7 = .ok (.iload_n 2, 1) := by decide +kernel
theorem d_P_wallet_8 : decode b_P_wallet 8 = .ok (.invokestatic 75, 3) := by decide +kernel
theorem d_P_wallet_11 : decode b_P_wallet 11 = .ok (.ifCond .eq 14, 3) := by decide +kernel
theorem d_P_wallet_14 : decode b_P_wallet 14 = .ok (.aload_n 0, 1) := by decide +kernel
theorem d_P_wallet_15 : decode b_P_wallet 15 = .ok (.getfield 11, 3) := by decide +kernel
theorem d_P_wallet_18 : decode b_P_wallet 18 = .ok (.iload_n 1, 1) := by decide +kernel
theorem d_P_wallet_19 : decode b_P_wallet 19 = .ok (.aaload, 1) := by decide +kernel
theorem d_P_wallet_20 : decode b_P_wallet 20 = .ok (.iload_n 2, 1) := by decide +kernel
theorem d_P_wallet_21 : decode b_P_wallet 21 = .ok (.laload, 1) := by decide +kernel
theorem d_P_wallet_22 : decode b_P_wallet 22 = .ok (.goto 6, 3) := by decide +kernel
theorem d_P_wallet_25 : decode b_P_wallet 25 = .ok (.ldc2_w 86, 3) := by decide +kernel
theorem d_P_wallet_28 : decode b_P_wallet 28 = .ok (.lreturn, 1) := by decide +kernel
theorem d_P_reserve_0 : decode b_P_reserve 0 = .ok (.iload_n 1, 1) := by decide +kernel
theorem d_P_reserve_1 : decode b_P_reserve 1 = .ok (.invokestatic 75, 3) := by decide +kernel
theorem d_P_reserve_4 : decode b_P_reserve 4 = .ok (.ifCond .eq 12, 3) := by decide +kernel
theorem d_P_reserve_7 : decode b_P_reserve 7 = .ok (.aload_n 0, 1) := by decide +kernel
theorem d_P_reserve_8 : decode b_P_reserve 8 = .ok (.getfield 14, 3) := by decide +kernel
theorem d_P_reserve_11 : decode b_P_reserve 11 = .ok (.iload_n 1, 1) := by decide +kernel
theorem d_P_reserve_12 : decode b_P_reserve 12 = .ok (.laload, 1) := by decide +kernel
theorem d_P_reserve_13 : decode b_P_reserve 13 = .ok (.goto 6, 3) := by decide +kernel
theorem d_P_reserve_16 : decode b_P_reserve 16 = .ok (.ldc2_w 86, 3) := by decide +kernel
theorem d_P_reserve_19 : decode b_P_reserve 19 = .ok (.lreturn, 1) := by decide +kernel
theorem d_P_lot_0 : decode b_P_lot 0 = .ok (.aload_n 0, 1) := by decide +kernel
theorem d_P_lot_1 : decode b_P_lot 1 = .ok (.getfield 21, 3) := by decide +kernel
theorem d_P_lot_4 : decode b_P_lot 4 = .ok (.iload_n 1, 1) := by decide +kernel
theorem d_P_lot_5 : decode b_P_lot 5 = .ok (.iload_n 2, 1) := by decide +kernel
theorem d_P_lot_6 : decode b_P_lot 6 = .ok (.iload_n 3, 1) := by decide +kernel
theorem d_P_lot_7 : decode b_P_lot 7 = .ok (.invokevirtual 138, 3) := by decide +kernel
theorem d_P_lot_10 : decode b_P_lot 10 = .ok (.astore 5, 2) := by decide +kernel
theorem d_P_lot_12 : decode b_P_lot 12 = .ok (.aload 5, 2) := by decide +kernel
theorem d_P_lot_14 : decode b_P_lot 14 = .ok (.ifnonnull 7, 3) := by decide +kernel
theorem d_P_lot_17 : decode b_P_lot 17 = .ok (.ldc2_w 141, 3) := by decide +kernel
theorem d_P_lot_20 : decode b_P_lot 20 = .ok (.lreturn, 1) := by decide +kernel
theorem d_P_lot_21 : decode b_P_lot 21 = .ok (.iload 4, 2) := by decide +kernel
theorem d_P_lot_23 : decode b_P_lot 23 = .ok (.tableswitch 47 0 2 #[25, 31, 39], 25) := by decide +kernel
theorem d_P_lot_48 : decode b_P_lot 48 = .ok (.aload 5, 2) := by decide +kernel
theorem d_P_lot_50 : decode b_P_lot 50 = .ok (.getfield 130, 3) := by decide +kernel
theorem d_P_lot_53 : decode b_P_lot 53 = .ok (.lreturn, 1) := by decide +kernel
theorem d_P_lot_54 : decode b_P_lot 54 = .ok (.aload 5, 2) := by decide +kernel
theorem d_P_lot_56 : decode b_P_lot 56 = .ok (.getfield 143, 3) := by decide +kernel
theorem d_P_lot_59 : decode b_P_lot 59 = .ok (.iconst 0, 1) := by decide +kernel
theorem d_P_lot_60 : decode b_P_lot 60 = .ok (.laload, 1) := by decide +kernel
theorem d_P_lot_61 : decode b_P_lot 61 = .ok (.lreturn, 1) := by decide +kernel
theorem d_P_lot_62 : decode b_P_lot 62 = .ok (.aload 5, 2) := by decide +kernel
theorem d_P_lot_64 : decode b_P_lot 64 = .ok (.getfield 143, 3) := by decide +kernel
theorem d_P_lot_67 : decode b_P_lot 67 = .ok (.iconst 1, 1) := by decide +kernel
theorem d_P_lot_68 : decode b_P_lot 68 = .ok (.laload, 1) := by decide +kernel
theorem d_P_lot_69 : decode b_P_lot 69 = .ok (.lreturn, 1) := by decide +kernel
theorem d_P_lot_70 : decode b_P_lot 70 = .ok (.ldc2_w 86, 3) := by decide +kernel
theorem d_P_lot_73 : decode b_P_lot 73 = .ok (.lreturn, 1) := by decide +kernel
theorem d_P_net_0 : decode b_P_net 0 = .ok (.aload_n 0, 1) := by decide +kernel
theorem d_P_net_1 : decode b_P_net 1 = .ok (.getfield 21, 3) := by decide +kernel
theorem d_P_net_4 : decode b_P_net 4 = .ok (.iload_n 1, 1) := by decide +kernel
theorem d_P_net_5 : decode b_P_net 5 = .ok (.invokevirtual 214, 3) := by decide +kernel
theorem d_P_net_8 : decode b_P_net 8 = .ok (.l2i, 1) := by decide +kernel
theorem d_P_net_9 : decode b_P_net 9 = .ok (.ireturn, 1) := by decide +kernel
theorem d_P_isSpacing_0 : decode b_P_isSpacing 0 = .ok (.iload_n 0, 1) := by decide +kernel
theorem d_P_isSpacing_1 : decode b_P_isSpacing 1 = .ok (.iconst 1, 1) := by decide +kernel
theorem d_P_isSpacing_2 : decode b_P_isSpacing 2 = .ok (.if_icmp .lt 24, 3) := by decide +kernel
theorem d_P_isSpacing_5 : decode b_P_isSpacing 5 = .ok (.iload_n 0, 1) := by decide +kernel
theorem d_P_isSpacing_6 : decode b_P_isSpacing 6 = .ok (.bipush 8, 2) := by decide +kernel
theorem d_P_isSpacing_8 : decode b_P_isSpacing 8 = .ok (.if_icmp .gt 18, 3) := by decide +kernel
theorem d_P_isSpacing_11 : decode b_P_isSpacing 11 = .ok (.iload_n 0, 1) := by decide +kernel
theorem d_P_isSpacing_12 : decode b_P_isSpacing 12 = .ok (.iconst 5, 1) := by decide +kernel
theorem d_P_isSpacing_13 : decode b_P_isSpacing 13 = .ok (.if_icmp .eq 13, 3) := by decide +kernel
theorem d_P_isSpacing_16 : decode b_P_isSpacing 16 = .ok (.iload_n 0, 1) := by decide +kernel
theorem d_P_isSpacing_17 : decode b_P_isSpacing 17 = .ok (.bipush 7, 2) := by decide +kernel
theorem d_P_isSpacing_19 : decode b_P_isSpacing 19 = .ok (.if_icmp .eq 7, 3) := by decide +kernel
theorem d_P_isSpacing_22 : decode b_P_isSpacing 22 = .ok (.iconst 1, 1) := by decide +kernel
theorem d_P_isSpacing_23 : decode b_P_isSpacing 23 = .ok (.goto 4, 3) := by decide +kernel
theorem d_P_isSpacing_26 : decode b_P_isSpacing 26 = .ok (.iconst 0, 1) := by decide +kernel
theorem d_P_isSpacing_27 : decode b_P_isSpacing 27 = .ok (.ireturn, 1) := by decide +kernel
theorem d_P_isStep_0 : decode b_P_isStep 0 = .ok (.iload_n 0, 1) := by decide +kernel
theorem d_P_isStep_1 : decode b_P_isStep 1 = .ok (.bipush (-24), 2) := by decide +kernel
theorem d_P_isStep_3 : decode b_P_isStep 3 = .ok (.if_icmp .lt 13, 3) := by decide +kernel
theorem d_P_isStep_6 : decode b_P_isStep 6 = .ok (.iload_n 0, 1) := by decide +kernel
theorem d_P_isStep_7 : decode b_P_isStep 7 = .ok (.bipush 24, 2) := by decide +kernel
theorem d_P_isStep_9 : decode b_P_isStep 9 = .ok (.if_icmp .gt 7, 3) := by decide +kernel
theorem d_P_isStep_12 : decode b_P_isStep 12 = .ok (.iconst 1, 1) := by decide +kernel
theorem d_P_isStep_13 : decode b_P_isStep 13 = .ok (.goto 4, 3) := by decide +kernel
theorem d_P_isStep_16 : decode b_P_isStep 16 = .ok (.iconst 0, 1) := by decide +kernel
theorem d_P_isStep_17 : decode b_P_isStep 17 = .ok (.ireturn, 1) := by decide +kernel
theorem d_P_isOwner_0 : decode b_P_isOwner 0 = .ok (.iload_n 0, 1) := by decide +kernel
theorem d_P_isOwner_1 : decode b_P_isOwner 1 = .ok (.ifCond .lt 12, 3) := by decide +kernel
theorem d_P_isOwner_4 : decode b_P_isOwner 4 = .ok (.iload_n 0, 1) := by decide +kernel
theorem d_P_isOwner_5 : decode b_P_isOwner 5 = .ok (.iconst 4, 1) := by decide +kernel
theorem d_P_isOwner_6 : decode b_P_isOwner 6 = .ok (.if_icmp .ge 7, 3) := by decide +kernel
theorem d_P_isOwner_9 : decode b_P_isOwner 9 = .ok (.iconst 1, 1) := by decide +kernel
theorem d_P_isOwner_10 : decode b_P_isOwner 10 = .ok (.goto 4, 3) := by decide +kernel
theorem d_P_isOwner_13 : decode b_P_isOwner 13 = .ok (.iconst 0, 1) := by decide +kernel
theorem d_P_isOwner_14 : decode b_P_isOwner 14 = .ok (.ireturn, 1) := by decide +kernel
theorem d_P_isToken_0 : decode b_P_isToken 0 = .ok (.iload_n 0, 1) := by decide +kernel
theorem d_P_isToken_1 : decode b_P_isToken 1 = .ok (.ifCond .lt 12, 3) := by decide +kernel
theorem d_P_isToken_4 : decode b_P_isToken 4 = .ok (.iload_n 0, 1) := by decide +kernel
theorem d_P_isToken_5 : decode b_P_isToken 5 = .ok (.iconst 2, 1) := by decide +kernel
theorem d_P_isToken_6 : decode b_P_isToken 6 = .ok (.if_icmp .ge 7, 3) := by decide +kernel
theorem d_P_isToken_9 : decode b_P_isToken 9 = .ok (.iconst 1, 1) := by decide +kernel
theorem d_P_isToken_10 : decode b_P_isToken 10 = .ok (.goto 4, 3) := by decide +kernel
theorem d_P_isToken_13 : decode b_P_isToken 13 = .ok (.iconst 0, 1) := by decide +kernel
theorem d_P_isToken_14 : decode b_P_isToken 14 = .ok (.ireturn, 1) := by decide +kernel
theorem d_P_isRange_0 : decode b_P_isRange 0 = .ok (.iload_n 1, 1) := by decide +kernel
theorem d_P_isRange_1 : decode b_P_isRange 1 = .ok (.invokestatic 56, 3) := by decide +kernel
theorem d_P_isRange_4 : decode b_P_isRange 4 = .ok (.ifCond .eq 37, 3) := by decide +kernel
theorem d_P_isRange_7 : decode b_P_isRange 7 = .ok (.iload_n 2, 1) := by decide +kernel
theorem d_P_isRange_8 : decode b_P_isRange 8 = .ok (.invokestatic 56, 3) := by decide +kernel
theorem d_P_isRange_11 : decode b_P_isRange 11 = .ok (.ifCond .eq 30, 3) := by decide +kernel
theorem d_P_isRange_14 : decode b_P_isRange 14 = .ok (.iload_n 1, 1) := by decide +kernel
theorem d_P_isRange_15 : decode b_P_isRange 15 = .ok (.iload_n 2, 1) := by decide +kernel
theorem d_P_isRange_16 : decode b_P_isRange 16 = .ok (.if_icmp .ge 25, 3) := by decide +kernel
theorem d_P_isRange_19 : decode b_P_isRange 19 = .ok (.iload_n 1, 1) := by decide +kernel
theorem d_P_isRange_20 : decode b_P_isRange 20 = .ok (.aload_n 0, 1) := by decide +kernel
theorem d_P_isRange_21 : decode b_P_isRange 21 = .ok (.getfield 36, 3) := by decide +kernel
theorem d_P_isRange_24 : decode b_P_isRange 24 = .ok (.irem, 1) := by decide +kernel
theorem d_P_isRange_25 : decode b_P_isRange 25 = .ok (.ifCond .ne 16, 3) := by decide +kernel
theorem d_P_isRange_28 : decode b_P_isRange 28 = .ok (.iload_n 2, 1) := by decide +kernel
theorem d_P_isRange_29 : decode b_P_isRange 29 = .ok (.aload_n 0, 1) := by decide +kernel
theorem d_P_isRange_30 : decode b_P_isRange 30 = .ok (.getfield 36, 3) := by decide +kernel
theorem d_P_isRange_33 : decode b_P_isRange 33 = .ok (.irem, 1) := by decide +kernel
theorem d_P_isRange_34 : decode b_P_isRange 34 = .ok (.ifCond .ne 7, 3) := by decide +kernel
theorem d_P_isRange_37 : decode b_P_isRange 37 = .ok (.iconst 1, 1) := by decide +kernel
theorem d_P_isRange_38 : decode b_P_isRange 38 = .ok (.goto 4, 3) := by decide +kernel
theorem d_P_isRange_41 : decode b_P_isRange 41 = .ok (.iconst 0, 1) := by decide +kernel
theorem d_P_isRange_42 : decode b_P_isRange 42 = .ok (.ireturn, 1) := by decide +kernel
theorem d_P_isTrade_0 : decode b_P_isTrade 0 = .ok (.iload_n 2, 1) := by decide +kernel
theorem d_P_isTrade_1 : decode b_P_isTrade 1 = .ok (.ifCond .eq 22, 3) := by decide +kernel
theorem d_P_isTrade_4 : decode b_P_isTrade 4 = .ok (.iload_n 2, 1) := by decide +kernel
theorem d_P_isTrade_5 : decode b_P_isTrade 5 = .ok (.ldc 217, 2) := by decide +kernel
theorem d_P_isTrade_7 : decode b_P_isTrade 7 = .ok (.if_icmp .lt 16, 3) := by decide +kernel
theorem d_P_isTrade_10 : decode b_P_isTrade 10 = .ok (.iload_n 2, 1) := by decide +kernel
theorem d_P_isTrade_11 : decode b_P_isTrade 11 = .ok (.ldc 85, 2) := by decide +kernel
theorem d_P_isTrade_13 : decode b_P_isTrade 13 = .ok (.if_icmp .gt 10, 3) := by decide +kernel
theorem d_P_isTrade_16 : decode b_P_isTrade 16 = .ok (.iload_n 3, 1) := by decide +kernel
theorem d_P_isTrade_17 : decode b_P_isTrade 17 = .ok (.invokestatic 56, 3) := by decide +kernel
theorem d_P_isTrade_20 : decode b_P_isTrade 20 = .ok (.ifCond .ne 5, 3) := by decide +kernel
theorem d_P_isTrade_23 : decode b_P_isTrade 23 = .ok (.iconst 0, 1) := by decide +kernel
theorem d_P_isTrade_24 : decode b_P_isTrade 24 = .ok (.ireturn, 1) := by decide +kernel
theorem d_P_isTrade_25 : decode b_P_isTrade 25 = .ok (.iload_n 1, 1) := by decide +kernel
theorem d_P_isTrade_26 : decode b_P_isTrade 26 = .ok (.ifCond .eq 22, 3) := by decide +kernel
theorem d_P_isTrade_29 : decode b_P_isTrade 29 = .ok (.iload_n 3, 1) := by decide +kernel
theorem d_P_isTrade_30 : decode b_P_isTrade 30 = .ok (.invokestatic 59, 3) := by decide +kernel
theorem d_P_isTrade_33 : decode b_P_isTrade 33 = .ok (.aload_n 0, 1) := by decide +kernel
theorem d_P_isTrade_34 : decode b_P_isTrade 34 = .ok (.getfield 63, 3) := by decide +kernel
theorem d_P_isTrade_37 : decode b_P_isTrade 37 = .ok (.if_icmp .ge 7, 3) := by decide +kernel
theorem d_P_isTrade_40 : decode b_P_isTrade 40 = .ok (.iconst 1, 1) := by decide +kernel
theorem d_P_isTrade_41 : decode b_P_isTrade 41 = .ok (.goto 23, 3) := by decide +kernel
theorem d_P_isTrade_44 : decode b_P_isTrade 44 = .ok (.iconst 0, 1) := by decide +kernel
theorem d_P_isTrade_45 : decode b_P_isTrade 45 = .ok (.goto 19, 3) := by decide +kernel
theorem d_P_isTrade_48 : decode b_P_isTrade 48 = .ok (.iload_n 3, 1) := by decide +kernel
theorem d_P_isTrade_49 : decode b_P_isTrade 49 = .ok (.invokestatic 59, 3) := by decide +kernel
theorem d_P_isTrade_52 : decode b_P_isTrade 52 = .ok (.aload_n 0, 1) := by decide +kernel
theorem d_P_isTrade_53 : decode b_P_isTrade 53 = .ok (.getfield 63, 3) := by decide +kernel
theorem d_P_isTrade_56 : decode b_P_isTrade 56 = .ok (.if_icmp .le 7, 3) := by decide +kernel
theorem d_P_isTrade_59 : decode b_P_isTrade 59 = .ok (.iconst 1, 1) := by decide +kernel
theorem d_P_isTrade_60 : decode b_P_isTrade 60 = .ok (.goto 4, 3) := by decide +kernel
theorem d_P_isTrade_63 : decode b_P_isTrade 63 = .ok (.iconst 0, 1) := by decide +kernel
theorem d_P_isTrade_64 : decode b_P_isTrade 64 = .ok (.ireturn, 1) := by decide +kernel
theorem d_P_canLend_0 : decode b_P_canLend 0 = .ok (.iload_n 2, 1) := by decide +kernel
theorem d_P_canLend_1 : decode b_P_canLend 1 = .ok (.ifCond .lt 25, 3) := by decide +kernel
theorem d_P_canLend_4 : decode b_P_canLend 4 = .ok (.iload_n 2, 1) := by decide +kernel
theorem d_P_canLend_5 : decode b_P_canLend 5 = .ok (.ldc 85, 2) := by decide +kernel
theorem d_P_canLend_7 : decode b_P_canLend 7 = .ok (.if_icmp .gt 19, 3) := by decide +kernel
theorem d_P_canLend_10 : decode b_P_canLend 10 = .ok (.iload_n 2, 1) := by decide +kernel
theorem d_P_canLend_11 : decode b_P_canLend 11 = .ok (.i2l, 1) := by decide +kernel
theorem d_P_canLend_12 : decode b_P_canLend 12 = .ok (.aload_n 0, 1) := by decide +kernel
theorem d_P_canLend_13 : decode b_P_canLend 13 = .ok (.getfield 14, 3) := by decide +kernel
theorem d_P_canLend_16 : decode b_P_canLend 16 = .ok (.iload_n 1, 1) := by decide +kernel
theorem d_P_canLend_17 : decode b_P_canLend 17 = .ok (.laload, 1) := by decide +kernel
theorem d_P_canLend_18 : decode b_P_canLend 18 = .ok (.lcmp, 1) := by decide +kernel
theorem d_P_canLend_19 : decode b_P_canLend 19 = .ok (.ifCond .gt 7, 3) := by decide +kernel
theorem d_P_canLend_22 : decode b_P_canLend 22 = .ok (.iconst 1, 1) := by decide +kernel
theorem d_P_canLend_23 : decode b_P_canLend 23 = .ok (.goto 4, 3) := by decide +kernel
theorem d_P_canLend_26 : decode b_P_canLend 26 = .ok (.iconst 0, 1) := by decide +kernel
theorem d_P_canLend_27 : decode b_P_canLend 27 = .ok (.ireturn, 1) := by decide +kernel
theorem d_P_canPay_0 : decode b_P_canPay 0 = .ok (.aload_n 0, 1) := by decide +kernel
theorem d_P_canPay_1 : decode b_P_canPay 1 = .ok (.getfield 11, 3) := by decide +kernel
theorem d_P_canPay_4 : decode b_P_canPay 4 = .ok (.iload_n 1, 1) := by decide +kernel
theorem d_P_canPay_5 : decode b_P_canPay 5 = .ok (.aaload, 1) := by decide +kernel
theorem d_P_canPay_6 : decode b_P_canPay 6 = .ok (.iconst 0, 1) := by decide +kernel
theorem d_P_canPay_7 : decode b_P_canPay 7 = .ok (.laload, 1) := by decide +kernel
theorem d_P_canPay_8 : decode b_P_canPay 8 = .ok (.lload_n 2, 1) := by decide +kernel
theorem d_P_canPay_9 : decode b_P_canPay 9 = .ok (.lcmp, 1) := by decide +kernel
theorem d_P_canPay_10 : decode b_P_canPay 10 = .ok (.ifCond .lt 21, 3) := by decide +kernel
theorem d_P_canPay_13 : decode b_P_canPay 13 = .ok (.aload_n 0, 1) := by decide +kernel
theorem d_P_canPay_14 : decode b_P_canPay 14 = .ok (.getfield 11, 3) := by decide +kernel
theorem d_P_canPay_17 : decode b_P_canPay 17 = .ok (.iload_n 1, 1) := by decide +kernel
theorem d_P_canPay_18 : decode b_P_canPay 18 = .ok (.aaload, 1) := by decide +kernel
theorem d_P_canPay_19 : decode b_P_canPay 19 = .ok (.iconst 1, 1) := by decide +kernel
theorem d_P_canPay_20 : decode b_P_canPay 20 = .ok (.laload, 1) := by decide +kernel
theorem d_P_canPay_21 : decode b_P_canPay 21 = .ok (.lload 4, 2) := by decide +kernel
theorem d_P_canPay_23 : decode b_P_canPay 23 = .ok (.lcmp, 1) := by decide +kernel
theorem d_P_canPay_24 : decode b_P_canPay 24 = .ok (.ifCond .lt 7, 3) := by decide +kernel
theorem d_P_canPay_27 : decode b_P_canPay 27 = .ok (.iconst 1, 1) := by decide +kernel
theorem d_P_canPay_28 : decode b_P_canPay 28 = .ok (.goto 4, 3) := by decide +kernel
theorem d_P_canPay_31 : decode b_P_canPay 31 = .ok (.iconst 0, 1) := by decide +kernel
theorem d_P_canPay_32 : decode b_P_canPay 32 = .ok (.ireturn, 1) := by decide +kernel
theorem d_P_pay_0 : decode b_P_pay 0 = .ok (.aload_n 0, 1) := by decide +kernel
theorem d_P_pay_1 : decode b_P_pay 1 = .ok (.iload_n 1, 1) := by decide +kernel
theorem d_P_pay_2 : decode b_P_pay 2 = .ok (.iconst 0, 1) := by decide +kernel
theorem d_P_pay_3 : decode b_P_pay 3 = .ok (.lload_n 2, 1) := by decide +kernel
theorem d_P_pay_4 : decode b_P_pay 4 = .ok (.invokevirtual 165, 3) := by decide +kernel
theorem d_P_pay_7 : decode b_P_pay 7 = .ok (.aload_n 0, 1) := by decide +kernel
theorem d_P_pay_8 : decode b_P_pay 8 = .ok (.iload_n 1, 1) := by decide +kernel
theorem d_P_pay_9 : decode b_P_pay 9 = .ok (.iconst 1, 1) := by decide +kernel
theorem d_P_pay_10 : decode b_P_pay 10 = .ok (.lload 4, 2) := by decide +kernel
theorem d_P_pay_12 : decode b_P_pay 12 = .ok (.invokevirtual 165, 3) := by decide +kernel
theorem d_P_pay_15 : decode b_P_pay 15 = .ok (.return_, 1) := by decide +kernel
theorem d_P_transfer_0 : decode b_P_transfer 0 = .ok (.aload_n 0, 1) := by decide +kernel
theorem d_P_transfer_1 : decode b_P_transfer 1 = .ok (.getfield 11, 3) := by decide +kernel
theorem d_P_transfer_4 : decode b_P_transfer 4 = .ok (.iload_n 1, 1) := by decide +kernel
theorem d_P_transfer_5 : decode b_P_transfer 5 = .ok (.aaload, 1) := by decide +kernel
theorem d_P_transfer_6 : decode b_P_transfer 6 = .ok (.iload_n 2, 1) := by decide +kernel
theorem d_P_transfer_7 : decode b_P_transfer 7 = .ok (.dup2, 1) := by decide +kernel
theorem d_P_transfer_8 : decode b_P_transfer 8 = .ok (.laload, 1) := by decide +kernel
theorem d_P_transfer_9 : decode b_P_transfer 9 = .ok (.lload_n 3, 1) := by decide +kernel
theorem d_P_transfer_10 : decode b_P_transfer 10 = .ok (.lsub, 1) := by decide +kernel
theorem d_P_transfer_11 : decode b_P_transfer 11 = .ok (.lastore, 1) := by decide +kernel
theorem d_P_transfer_12 : decode b_P_transfer 12 = .ok (.aload_n 0, 1) := by decide +kernel
theorem d_P_transfer_13 : decode b_P_transfer 13 = .ok (.getfield 14, 3) := by decide +kernel
theorem d_P_transfer_16 : decode b_P_transfer 16 = .ok (.iload_n 2, 1) := by decide +kernel
theorem d_P_transfer_17 : decode b_P_transfer 17 = .ok (.dup2, 1) := by decide +kernel
theorem d_P_transfer_18 : decode b_P_transfer 18 = .ok (.laload, 1) := by decide +kernel
theorem d_P_transfer_19 : decode b_P_transfer 19 = .ok (.lload_n 3, 1) := by decide +kernel
theorem d_P_transfer_20 : decode b_P_transfer 20 = .ok (.ladd, 1) := by decide +kernel
theorem d_P_transfer_21 : decode b_P_transfer 21 = .ok (.lastore, 1) := by decide +kernel
theorem d_P_transfer_22 : decode b_P_transfer 22 = .ok (.return_, 1) := by decide +kernel
theorem d_P_takeFee_0 : decode b_P_takeFee 0 = .ok (.aload_n 0, 1) := by decide +kernel
theorem d_P_takeFee_1 : decode b_P_takeFee 1 = .ok (.getfield 21, 3) := by decide +kernel
theorem d_P_takeFee_4 : decode b_P_takeFee 4 = .ok (.invokevirtual 218, 3) := by decide +kernel
theorem d_P_takeFee_7 : decode b_P_takeFee 7 = .ok (.aload_n 0, 1) := by decide +kernel
theorem d_P_takeFee_8 : decode b_P_takeFee 8 = .ok (.getfield 21, 3) := by decide +kernel
theorem d_P_takeFee_11 : decode b_P_takeFee 11 = .ok (.aload_n 0, 1) := by decide +kernel
theorem d_P_takeFee_12 : decode b_P_takeFee 12 = .ok (.getfield 66, 3) := by decide +kernel
theorem d_P_takeFee_15 : decode b_P_takeFee 15 = .ok (.lload_n 2, 1) := by decide +kernel
theorem d_P_takeFee_16 : decode b_P_takeFee 16 = .ok (.lload 4, 2) := by decide +kernel
theorem d_P_takeFee_18 : decode b_P_takeFee 18 = .ok (.invokevirtual 221, 3) := by decide +kernel
theorem d_P_takeFee_21 : decode b_P_takeFee 21 = .ok (.aload_n 0, 1) := by decide +kernel
theorem d_P_takeFee_22 : decode b_P_takeFee 22 = .ok (.getfield 21, 3) := by decide +kernel
theorem d_P_takeFee_25 : decode b_P_takeFee 25 = .ok (.iload_n 1, 1) := by decide +kernel
theorem d_P_takeFee_26 : decode b_P_takeFee 26 = .ok (.invokevirtual 172, 3) := by decide +kernel
theorem d_P_takeFee_29 : decode b_P_takeFee 29 = .ok (.return_, 1) := by decide +kernel
theorem d_P_zeroOfRange_0 : decode b_P_zeroOfRange 0 = .ok (.aload_n 0, 1) := by decide +kernel
theorem d_P_zeroOfRange_1 : decode b_P_zeroOfRange 1 = .ok (.getfield 66, 3) := by decide +kernel
theorem d_P_zeroOfRange_4 : decode b_P_zeroOfRange 4 = .ok (.iload_n 2, 1) := by decide +kernel
theorem d_P_zeroOfRange_5 : decode b_P_zeroOfRange 5 = .ok (.if_icmp .lt 5, 3) := by decide +kernel
theorem d_P_zeroOfRange_8 : decode b_P_zeroOfRange 8 = .ok (.lconst 0, 1) := by decide +kernel
theorem d_P_zeroOfRange_9 : decode b_P_zeroOfRange 9 = .ok (.lreturn, 1) := by decide +kernel
theorem d_P_zeroOfRange_10 : decode b_P_zeroOfRange 10 = .ok (.aload_n 0, 1) := by decide +kernel
theorem d_P_zeroOfRange_11 : decode b_P_zeroOfRange 11 = .ok (.getfield 66, 3) := by decide +kernel
theorem d_P_zeroOfRange_14 : decode b_P_zeroOfRange 14 = .ok (.iload_n 1, 1) := by decide +kernel
theorem d_P_zeroOfRange_15 : decode b_P_zeroOfRange 15 = .ok (.if_icmp .ge 10, 3) := by decide +kernel
theorem d_P_zeroOfRange_18 : decode b_P_zeroOfRange 18 = .ok (.iload_n 1, 1) := by decide +kernel
theorem d_P_zeroOfRange_19 : decode b_P_zeroOfRange 19 = .ok (.invokestatic 59, 3) := by decide +kernel
theorem d_P_zeroOfRange_22 : decode b_P_zeroOfRange 22 = .ok (.goto 7, 3) := by decide +kernel
theorem d_P_zeroOfRange_25 : decode b_P_zeroOfRange 25 = .ok (.aload_n 0, 1) := by decide +kernel
theorem d_P_zeroOfRange_26 : decode b_P_zeroOfRange 26 = .ok (.getfield 63, 3) := by decide +kernel
theorem d_P_zeroOfRange_29 : decode b_P_zeroOfRange 29 = .ok (.istore 6, 2) := by decide +kernel
theorem d_P_zeroOfRange_31 : decode b_P_zeroOfRange 31 = .ok (.iload 6, 2) := by decide +kernel
theorem d_P_zeroOfRange_33 : decode b_P_zeroOfRange 33 = .ok (.i2l, 1) := by decide +kernel
theorem d_P_zeroOfRange_34 : decode b_P_zeroOfRange 34 = .ok (.iload_n 2, 1) := by decide +kernel
theorem d_P_zeroOfRange_35 : decode b_P_zeroOfRange 35 = .ok (.invokestatic 59, 3) := by decide +kernel
theorem d_P_zeroOfRange_38 : decode b_P_zeroOfRange 38 = .ok (.i2l, 1) := by decide +kernel
theorem d_P_zeroOfRange_39 : decode b_P_zeroOfRange 39 = .ok (.lload_n 3, 1) := by decide +kernel
theorem d_P_zeroOfRange_40 : decode b_P_zeroOfRange 40 = .ok (.iload 5, 2) := by decide +kernel
theorem d_P_zeroOfRange_42 : decode b_P_zeroOfRange 42 = .ok (.invokestatic 224, 3) := by decide +kernel
theorem d_P_zeroOfRange_45 : decode b_P_zeroOfRange 45 = .ok (.lreturn, 1) := by decide +kernel
theorem d_P_oneOfRange_0 : decode b_P_oneOfRange 0 = .ok (.aload_n 0, 1) := by decide +kernel
theorem d_P_oneOfRange_1 : decode b_P_oneOfRange 1 = .ok (.getfield 66, 3) := by decide +kernel
theorem d_P_oneOfRange_4 : decode b_P_oneOfRange 4 = .ok (.iload_n 1, 1) := by decide +kernel
theorem d_P_oneOfRange_5 : decode b_P_oneOfRange 5 = .ok (.if_icmp .ge 5, 3) := by decide +kernel
theorem d_P_oneOfRange_8 : decode b_P_oneOfRange 8 = .ok (.lconst 0, 1) := by decide +kernel
theorem d_P_oneOfRange_9 : decode b_P_oneOfRange 9 = .ok (.lreturn, 1) := by decide +kernel
theorem d_P_oneOfRange_10 : decode b_P_oneOfRange 10 = .ok (.aload_n 0, 1) := by decide +kernel
theorem d_P_oneOfRange_11 : decode b_P_oneOfRange 11 = .ok (.getfield 66, 3) := by decide +kernel
theorem d_P_oneOfRange_14 : decode b_P_oneOfRange 14 = .ok (.iload_n 2, 1) := by decide +kernel
theorem d_P_oneOfRange_15 : decode b_P_oneOfRange 15 = .ok (.if_icmp .lt 10, 3) := by decide +kernel
theorem d_P_oneOfRange_18 : decode b_P_oneOfRange 18 = .ok (.iload_n 2, 1) := by decide +kernel
theorem d_P_oneOfRange_19 : decode b_P_oneOfRange 19 = .ok (.invokestatic 59, 3) := by decide +kernel
theorem d_P_oneOfRange_22 : decode b_P_oneOfRange 22 = .ok (.goto 7, 3) := by decide +kernel
theorem d_P_oneOfRange_25 : decode b_P_oneOfRange 25 = .ok (.aload_n 0, 1) := by decide +kernel
theorem d_P_oneOfRange_26 : decode b_P_oneOfRange 26 = .ok (.getfield 63, 3) := by decide +kernel
theorem d_P_oneOfRange_29 : decode b_P_oneOfRange 29 = .ok (.istore 6, 2) := by decide +kernel
theorem d_P_oneOfRange_31 : decode b_P_oneOfRange 31 = .ok (.iload_n 1, 1) := by decide +kernel
theorem d_P_oneOfRange_32 : decode b_P_oneOfRange 32 = .ok (.invokestatic 59, 3) := by decide +kernel
theorem d_P_oneOfRange_35 : decode b_P_oneOfRange 35 = .ok (.i2l, 1) := by decide +kernel
theorem d_P_oneOfRange_36 : decode b_P_oneOfRange 36 = .ok (.iload 6, 2) := by decide +kernel
theorem d_P_oneOfRange_38 : decode b_P_oneOfRange 38 = .ok (.i2l, 1) := by decide +kernel
theorem d_P_oneOfRange_39 : decode b_P_oneOfRange 39 = .ok (.lload_n 3, 1) := by decide +kernel
theorem d_P_oneOfRange_40 : decode b_P_oneOfRange 40 = .ok (.iload 5, 2) := by decide +kernel
theorem d_P_oneOfRange_42 : decode b_P_oneOfRange 42 = .ok (.invokestatic 228, 3) := by decide +kernel
theorem d_P_oneOfRange_45 : decode b_P_oneOfRange 45 = .ok (.lreturn, 1) := by decide +kernel
theorem d_P_zeroBetween_0 : decode b_P_zeroBetween 0 = .ok (.lload 4, 2) := by decide +kernel
theorem d_P_zeroBetween_2 : decode b_P_zeroBetween 2 = .ok (.ldc2_w 231, 3) := by decide +kernel
theorem d_P_zeroBetween_5 : decode b_P_zeroBetween 5 = .ok (.lmul, 1) := by decide +kernel
theorem d_P_zeroBetween_6 : decode b_P_zeroBetween 6 = .ok (.lload_n 2, 1) := by decide +kernel
theorem d_P_zeroBetween_7 : decode b_P_zeroBetween 7 = .ok (.lload_n 0, 1) := by decide +kernel
theorem d_P_zeroBetween_8 : decode b_P_zeroBetween 8 = .ok (.lsub, 1) := by decide +kernel
theorem d_P_zeroBetween_9 : decode b_P_zeroBetween 9 = .ok (.lmul, 1) := by decide +kernel
theorem d_P_zeroBetween_10 : decode b_P_zeroBetween 10 = .ok (.lload_n 0, 1) := by decide +kernel
theorem d_P_zeroBetween_11 : decode b_P_zeroBetween 11 = .ok (.lload_n 2, 1) := by decide +kernel
theorem d_P_zeroBetween_12 : decode b_P_zeroBetween 12 = .ok (.lmul, 1) := by decide +kernel
theorem d_P_zeroBetween_13 : decode b_P_zeroBetween 13 = .ok (.iload 6, 2) := by decide +kernel
theorem d_P_zeroBetween_15 : decode b_P_zeroBetween 15 = .ok (.invokestatic 190, 3) := by decide +kernel
theorem d_P_zeroBetween_18 : decode b_P_zeroBetween 18 = .ok (.lreturn, 1) := by decide +kernel
theorem d_P_oneBetween_0 : decode b_P_oneBetween 0 = .ok (.lload 4, 2) := by decide +kernel
theorem d_P_oneBetween_2 : decode b_P_oneBetween 2 = .ok (.lload_n 2, 1) := by decide +kernel
theorem d_P_oneBetween_3 : decode b_P_oneBetween 3 = .ok (.lload_n 0, 1) := by decide +kernel
theorem d_P_oneBetween_4 : decode b_P_oneBetween 4 = .ok (.lsub, 1) := by decide +kernel
theorem d_P_oneBetween_5 : decode b_P_oneBetween 5 = .ok (.lmul, 1) := by decide +kernel
theorem d_P_oneBetween_6 : decode b_P_oneBetween 6 = .ok (.ldc2_w 231, 3) := by decide +kernel
theorem d_P_oneBetween_9 : decode b_P_oneBetween 9 = .ok (.iload 6, 2) := by decide +kernel
theorem d_P_oneBetween_11 : decode b_P_oneBetween 11 = .ok (.invokestatic 190, 3) := by decide +kernel
theorem d_P_oneBetween_14 : decode b_P_oneBetween 14 = .ok (.lreturn, 1) := by decide +kernel
theorem d_P_quotient_0 : decode b_P_quotient 0 = .ok (.lload_n 2, 1) := by decide +kernel
theorem d_P_quotient_1 : decode b_P_quotient 1 = .ok (.lconst 1, 1) := by decide +kernel
theorem d_P_quotient_2 : decode b_P_quotient 2 = .ok (.lcmp, 1) := by decide +kernel
theorem d_P_quotient_3 : decode b_P_quotient 3 = .ok (.ifCond .ge 5, 3) := by decide +kernel
theorem d_P_quotient_6 : decode b_P_quotient 6 = .ok (.lconst 0, 1) := by decide +kernel
theorem d_P_quotient_7 : decode b_P_quotient 7 = .ok (.lreturn, 1) := by decide +kernel
theorem d_P_quotient_8 : decode b_P_quotient 8 = .ok (.lload_n 0, 1) := by decide +kernel
theorem d_P_quotient_9 : decode b_P_quotient 9 = .ok (.lload_n 2, 1) := by decide +kernel
theorem d_P_quotient_10 : decode b_P_quotient 10 = .ok (.ldiv, 1) := by decide +kernel
theorem d_P_quotient_11 : decode b_P_quotient 11 = .ok (.lstore 5, 2) := by decide +kernel
theorem d_P_quotient_13 : decode b_P_quotient 13 = .ok (.iload 4, 2) := by decide +kernel
theorem d_P_quotient_15 : decode b_P_quotient 15 = .ok (.ifCond .eq 18, 3) := by decide +kernel
theorem d_P_quotient_18 : decode b_P_quotient 18 = .ok (.lload_n 0, 1) := by decide +kernel
theorem d_P_quotient_19 : decode b_P_quotient 19 = .ok (.lload_n 2, 1) := by decide +kernel
theorem d_P_quotient_20 : decode b_P_quotient 20 = .ok (.lrem, 1) := by decide +kernel
theorem d_P_quotient_21 : decode b_P_quotient 21 = .ok (.lconst 0, 1) := by decide +kernel
theorem d_P_quotient_22 : decode b_P_quotient 22 = .ok (.lcmp, 1) := by decide +kernel
theorem d_P_quotient_23 : decode b_P_quotient 23 = .ok (.ifCond .eq 10, 3) := by decide +kernel
theorem d_P_quotient_26 : decode b_P_quotient 26 = .ok (.lload 5, 2) := by decide +kernel
theorem d_P_quotient_28 : decode b_P_quotient 28 = .ok (.lconst 1, 1) := by decide +kernel
theorem d_P_quotient_29 : decode b_P_quotient 29 = .ok (.ladd, 1) := by decide +kernel
theorem d_P_quotient_30 : decode b_P_quotient 30 = .ok (.goto 5, 3) := by decide +kernel
theorem d_P_quotient_33 : decode b_P_quotient 33 = .ok (.lload 5, 2) := by decide +kernel
theorem d_P_quotient_35 : decode b_P_quotient 35 = .ok (.lreturn, 1) := by decide +kernel
theorem d_P_pair_0 : decode b_P_pair 0 = .ok (.lload_n 0, 1) := by decide +kernel
theorem d_P_pair_1 : decode b_P_pair 1 = .ok (.ldc2_w 233, 3) := by decide +kernel
theorem d_P_pair_4 : decode b_P_pair 4 = .ok (.lmul, 1) := by decide +kernel
theorem d_P_pair_5 : decode b_P_pair 5 = .ok (.lload_n 2, 1) := by decide +kernel
theorem d_P_pair_6 : decode b_P_pair 6 = .ok (.ladd, 1) := by decide +kernel
theorem d_P_pair_7 : decode b_P_pair 7 = .ok (.lreturn, 1) := by decide +kernel
theorem d_P_priceOf_0 : decode b_P_priceOf 0 = .ok (.getstatic 235, 3) := by decide +kernel
theorem d_P_priceOf_3 : decode b_P_priceOf 3 = .ok (.iload_n 0, 1) := by decide +kernel
theorem d_P_priceOf_4 : decode b_P_priceOf 4 = .ok (.bipush (-24), 2) := by decide +kernel
theorem d_P_priceOf_6 : decode b_P_priceOf 6 = .ok (.isub, 1) := by decide +kernel
theorem d_P_priceOf_7 : decode b_P_priceOf 7 = .ok (.iaload, 1) := by decide +kernel
theorem d_P_priceOf_8 : decode b_P_priceOf 8 = .ok (.ireturn, 1) := by decide +kernel
theorem d_P_greatestStepAt_0 : decode b_P_greatestStepAt 0 = .ok (.bipush 24, 2) := by decide +kernel
theorem d_P_greatestStepAt_2 : decode b_P_greatestStepAt 2 = .ok (.istore_n 1, 1) := by decide +kernel
theorem d_P_greatestStepAt_3 : decode b_P_greatestStepAt 3 = .ok (.iload_n 1, 1) := by decide +kernel
theorem d_P_greatestStepAt_4 : decode b_P_greatestStepAt 4 = .ok (.bipush (-24), 2) := by decide +kernel
theorem d_P_greatestStepAt_6 : decode b_P_greatestStepAt 6 = .ok (.if_icmp .lt 17, 3) := by decide +kernel
theorem d_P_greatestStepAt_9 : decode b_P_greatestStepAt 9 = .ok (.iload_n 1, 1) := by decide +kernel
theorem d_P_greatestStepAt_10 : decode b_P_greatestStepAt 10 = .ok (.invokestatic 59, 3) := by decide +kernel
theorem d_P_greatestStepAt_13 : decode b_P_greatestStepAt 13 = .ok (.iload_n 0, 1) := by decide +kernel
theorem d_P_greatestStepAt_14 : decode b_P_greatestStepAt 14 = .ok (.if_icmp .le 9, 3) := by decide +kernel
theorem d_P_greatestStepAt_17 : decode b_P_greatestStepAt 17 = .ok (.iinc 1 (-1), 3) := by decide +kernel
theorem d_P_greatestStepAt_20 : decode b_P_greatestStepAt 20 = .ok (.goto (-17), 3) := by decide +kernel
theorem d_P_greatestStepAt_23 : decode b_P_greatestStepAt 23 = .ok (.iload_n 1, 1) := by decide +kernel
theorem d_P_greatestStepAt_24 : decode b_P_greatestStepAt 24 = .ok (.ireturn, 1) := by decide +kernel
