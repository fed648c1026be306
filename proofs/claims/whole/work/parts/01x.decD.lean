theorem d_D_init_0 : decode b_D_init 0 = .ok (.aload_n 0, 1) := by decide +kernel
theorem d_D_init_1 : decode b_D_init 1 = .ok (.invokespecial 3, 3) := by decide +kernel
theorem d_D_init_4 : decode b_D_init 4 = .ok (.aload_n 0, 1) := by decide +kernel
theorem d_D_init_5 : decode b_D_init 5 = .ok (.iload_n 1, 1) := by decide +kernel
theorem d_D_init_6 : decode b_D_init 6 = .ok (.putfield 9, 3) := by decide +kernel
theorem d_D_init_9 : decode b_D_init 9 = .ok (.return_, 1) := by decide +kernel
theorem d_D_tokenIn_0 : decode b_D_tokenIn 0 = .ok (.aload_n 0, 1) := by decide +kernel
theorem d_D_tokenIn_1 : decode b_D_tokenIn 1 = .ok (.getfield 15, 3) := by decide +kernel
theorem d_D_tokenIn_4 : decode b_D_tokenIn 4 = .ok (.ifCond .eq 7, 3) := by decide +kernel
theorem d_D_tokenIn_7 : decode b_D_tokenIn 7 = .ok (.iconst 0, 1) := by decide +kernel
theorem d_D_tokenIn_8 : decode b_D_tokenIn 8 = .ok (.goto 4, 3) := by decide +kernel
theorem d_D_tokenIn_11 : decode b_D_tokenIn 11 = .ok (.iconst 1, 1) := by decide +kernel
theorem d_D_tokenIn_12 : decode b_D_tokenIn 12 = .ok (.ireturn, 1) := by decide +kernel
theorem d_D_startAt_0 : decode b_D_startAt 0 = .ok (.aload_n 0, 1) := by decide +kernel
theorem d_D_startAt_1 : decode b_D_startAt 1 = .ok (.iload_n 1, 1) := by decide +kernel
theorem d_D_startAt_2 : decode b_D_startAt 2 = .ok (.putfield 19, 3) := by decide +kernel
theorem d_D_startAt_5 : decode b_D_startAt 5 = .ok (.aload_n 0, 1) := by decide +kernel
theorem d_D_startAt_6 : decode b_D_startAt 6 = .ok (.iload_n 2, 1) := by decide +kernel
theorem d_D_startAt_7 : decode b_D_startAt 7 = .ok (.putfield 22, 3) := by decide +kernel
theorem d_D_startAt_10 : decode b_D_startAt 10 = .ok (.aload_n 0, 1) := by decide +kernel
theorem d_D_startAt_11 : decode b_D_startAt 11 = .ok (.iload_n 3, 1) := by decide +kernel
theorem d_D_startAt_12 : decode b_D_startAt 12 = .ok (.putfield 15, 3) := by decide +kernel
theorem d_D_startAt_15 : decode b_D_startAt 15 = .ok (.aload_n 0, 1) := by decide +kernel
theorem d_D_startAt_16 : decode b_D_startAt 16 = .ok (.lconst 0, 1) := by decide +kernel
theorem d_D_startAt_17 : decode b_D_startAt 17 = .ok (.putfield 25, 3) := by decide +kernel
theorem d_D_startAt_20 : decode b_D_startAt 20 = .ok (.aload_n 0, 1) := by decide +kernel
theorem d_D_startAt_21 : decode b_D_startAt 21 = .ok (.lconst 0, 1) := by decide +kernel
theorem d_D_startAt_22 : decode b_D_startAt 22 = .ok (.putfield 29, 3) := by decide +kernel
theorem d_D_startAt_25 : decode b_D_startAt 25 = .ok (.return_, 1) := by decide +kernel
theorem d_D_workOut_0 : decode b_D_workOut 0 = .ok (.aload_n 0, 1) := by decide +kernel
theorem d_D_workOut_1 : decode b_D_workOut 1 = .ok (.iload_n 2, 1) := by decide +kernel
theorem d_D_workOut_2 : decode b_D_workOut 2 = .ok (.i2l, 1) := by decide +kernel
theorem d_D_workOut_3 : decode b_D_workOut 3 = .ok (.putfield 32, 3) := by decide +kernel
theorem d_D_workOut_6 : decode b_D_workOut 6 = .ok (.aload_n 0, 1) := by decide +kernel
theorem d_D_workOut_7 : decode b_D_workOut 7 = .ok (.iload_n 3, 1) := by decide +kernel
theorem d_D_workOut_8 : decode b_D_workOut 8 = .ok (.putfield 35, 3) := by decide +kernel
theorem d_D_workOut_11 : decode b_D_workOut 11 = .ok (.aload_n 1, 1) := by decide +kernel
theorem d_D_workOut_12 : decode b_D_workOut 12 = .ok (.invokevirtual 38, 3) := by decide +kernel
theorem d_D_workOut_15 : decode b_D_workOut 15 = .ok (.iconst 0, 1) := by decide +kernel
theorem d_D_workOut_16 : decode b_D_workOut 16 = .ok (.istore 4, 2) := by decide +kernel
theorem d_D_workOut_18 : decode b_D_workOut 18 = .ok (.iload 4, 2) := by decide +kernel
theorem d_D_workOut_20 : decode b_D_workOut 20 = .ok (.bipush 64, 2) := by decide +kernel
theorem d_D_workOut_22 : decode b_D_workOut 22 = .ok (.if_icmp .ge 34, 3) := by decide +kernel
theorem d_D_workOut_25 : decode b_D_workOut 25 = .ok (.aload_n 0, 1) := by decide +kernel
theorem d_D_workOut_26 : decode b_D_workOut 26 = .ok (.getfield 32, 3) := by decide +kernel
theorem d_D_workOut_29 : decode b_D_workOut 29 = .ok (.lconst 0, 1) := by decide +kernel
theorem d_D_workOut_30 : decode b_D_workOut 30 = .ok (.lcmp, 1) := by decide +kernel
theorem d_D_workOut_31 : decode b_D_workOut 31 = .ok (.ifCond .eq 25, 3) := by decide +kernel
theorem d_D_workOut_34 : decode b_D_workOut 34 = .ok (.aload_n 0, 1) := by decide +kernel
theorem d_D_workOut_35 : decode b_D_workOut 35 = .ok (.getfield 19, 3) := by decide +kernel
theorem d_D_workOut_38 : decode b_D_workOut 38 = .ok (.aload_n 0, 1) := by decide +kernel
theorem d_D_workOut_39 : decode b_D_workOut 39 = .ok (.getfield 35, 3) := by decide +kernel
theorem d_D_workOut_42 : decode b_D_workOut 42 = .ok (.if_icmp .eq 14, 3) := by decide +kernel
theorem d_D_workOut_45 : decode b_D_workOut 45 = .ok (.aload_n 0, 1) := by decide +kernel
theorem d_D_workOut_46 : decode b_D_workOut 46 = .ok (.aload_n 1, 1) := by decide +kernel
theorem d_D_workOut_47 : decode b_D_workOut 47 = .ok (.invokevirtual 43, 3) := by decide +kernel
theorem d_D_workOut_50 : decode b_D_workOut 50 = .ok (.iinc 4 1, 3) := by decide +kernel
theorem d_D_workOut_53 : decode b_D_workOut 53 = .ok (.goto (-35), 3) := by decide +kernel
theorem d_D_workOut_56 : decode b_D_workOut 56 = .ok (.return_, 1) := by decide +kernel
theorem d_D_goOneLeg_0 : decode b_D_goOneLeg 0 = .ok (.aload_n 0, 1) := by decide +kernel
theorem d_D_goOneLeg_1 : decode b_D_goOneLeg 1 = .ok (.getfield 15, 3) := by decide +kernel
theorem d_D_goOneLeg_4 : decode b_D_goOneLeg 4 = .ok (.ifCond .eq 14, 3) := by decide +kernel
theorem d_D_goOneLeg_7 : decode b_D_goOneLeg 7 = .ok (.aload_n 1, 1) := by decide +kernel
theorem d_D_goOneLeg_8 : decode b_D_goOneLeg 8 = .ok (.aload_n 0, 1) := by decide +kernel
theorem d_D_goOneLeg_9 : decode b_D_goOneLeg 9 = .ok (.getfield 22, 3) := by decide +kernel
theorem d_D_goOneLeg_12 : decode b_D_goOneLeg 12 = .ok (.invokevirtual 47, 3) := by decide +kernel
theorem d_D_goOneLeg_15 : decode b_D_goOneLeg 15 = .ok (.goto 11, 3) := by decide +kernel
theorem d_D_goOneLeg_18 : decode b_D_goOneLeg 18 = .ok (.aload_n 1, 1) := by decide +kernel
theorem d_D_goOneLeg_19 : decode b_D_goOneLeg 19 = .ok (.aload_n 0, 1) := by decide +kernel
theorem d_D_goOneLeg_20 : decode b_D_goOneLeg 20 = .ok (.getfield 22, 3) := by decide +kernel
theorem d_D_goOneLeg_23 : decode b_D_goOneLeg 23 = .ok (.invokevirtual 51, 3) := by decide +kernel
theorem d_D_goOneLeg_26 : decode b_D_goOneLeg 26 = .ok (.istore_n 2, 1) := by decide +kernel
theorem d_D_goOneLeg_27 : decode b_D_goOneLeg 27 = .ok (.aload_n 0, 1) := by decide +kernel
theorem d_D_goOneLeg_28 : decode b_D_goOneLeg 28 = .ok (.iload_n 2, 1) := by decide +kernel
theorem d_D_goOneLeg_29 : decode b_D_goOneLeg 29 = .ok (.invokevirtual 54, 3) := by decide +kernel
theorem d_D_goOneLeg_32 : decode b_D_goOneLeg 32 = .ok (.istore_n 3, 1) := by decide +kernel
theorem d_D_goOneLeg_33 : decode b_D_goOneLeg 33 = .ok (.aload_n 1, 1) := by decide +kernel
theorem d_D_goOneLeg_34 : decode b_D_goOneLeg 34 = .ok (.aload_n 0, 1) := by decide +kernel
theorem d_D_goOneLeg_35 : decode b_D_goOneLeg 35 = .ok (.getfield 22, 3) := by decide +kernel
theorem d_D_goOneLeg_38 : decode b_D_goOneLeg 38 = .ok (.invokevirtual 57, 3) := by decide +kernel
theorem d_D_goOneLeg_41 : decode b_D_goOneLeg 41 = .ok (.lstore 4, 2) := by decide +kernel
theorem d_D_goOneLeg_43 : decode b_D_goOneLeg 43 = .ok (.aload_n 0, 1) := by decide +kernel
theorem d_D_goOneLeg_44 : decode b_D_goOneLeg 44 = .ok (.getfield 32, 3) := by decide +kernel
theorem d_D_goOneLeg_47 : decode b_D_goOneLeg 47 = .ok (.lconst 0, 1) := by decide +kernel
theorem d_D_goOneLeg_48 : decode b_D_goOneLeg 48 = .ok (.lcmp, 1) := by decide +kernel
theorem d_D_goOneLeg_49 : decode b_D_goOneLeg 49 = .ok (.ifCond .le 13, 3) := by decide +kernel
theorem d_D_goOneLeg_52 : decode b_D_goOneLeg 52 = .ok (.aload_n 0, 1) := by decide +kernel
theorem d_D_goOneLeg_53 : decode b_D_goOneLeg 53 = .ok (.lload 4, 2) := by decide +kernel
theorem d_D_goOneLeg_55 : decode b_D_goOneLeg 55 = .ok (.iload_n 3, 1) := by decide +kernel
theorem d_D_goOneLeg_56 : decode b_D_goOneLeg 56 = .ok (.invokevirtual 61, 3) := by decide +kernel
theorem d_D_goOneLeg_59 : decode b_D_goOneLeg 59 = .ok (.goto 10, 3) := by decide +kernel
theorem d_D_goOneLeg_62 : decode b_D_goOneLeg 62 = .ok (.aload_n 0, 1) := by decide +kernel
theorem d_D_goOneLeg_63 : decode b_D_goOneLeg 63 = .ok (.lload 4, 2) := by decide +kernel
theorem d_D_goOneLeg_65 : decode b_D_goOneLeg 65 = .ok (.iload_n 3, 1) := by decide +kernel
theorem d_D_goOneLeg_66 : decode b_D_goOneLeg 66 = .ok (.invokevirtual 65, 3) := by decide +kernel
theorem d_D_goOneLeg_69 : decode b_D_goOneLeg 69 = .ok (.istore 6, 2) := by decide +kernel
theorem d_D_goOneLeg_71 : decode b_D_goOneLeg 71 = .ok (.aload_n 0, 1) := by decide +kernel
theorem d_D_goOneLeg_72 : decode b_D_goOneLeg 72 = .ok (.lload 4, 2) := by decide +kernel
theorem d_D_goOneLeg_74 : decode b_D_goOneLeg 74 = .ok (.iload 6, 2) := by decide +kernel
theorem d_D_goOneLeg_76 : decode b_D_goOneLeg 76 = .ok (.invokevirtual 68, 3) := by decide +kernel
theorem d_D_goOneLeg_79 : decode b_D_goOneLeg 79 = .ok (.lstore 7, 2) := by decide +kernel
theorem d_D_goOneLeg_81 : decode b_D_goOneLeg 81 = .ok (.aload_n 0, 1) := by decide +kernel
theorem d_D_goOneLeg_82 : decode b_D_goOneLeg 82 = .ok (.lload 4, 2) := by decide +kernel
theorem d_D_goOneLeg_84 : decode b_D_goOneLeg 84 = .ok (.iload 6, 2) := by decide +kernel
theorem d_D_goOneLeg_86 : decode b_D_goOneLeg 86 = .ok (.invokevirtual 72, 3) := by decide +kernel
theorem d_D_goOneLeg_89 : decode b_D_goOneLeg 89 = .ok (.lstore 9, 2) := by decide +kernel
theorem d_D_goOneLeg_91 : decode b_D_goOneLeg 91 = .ok (.aload_n 0, 1) := by decide +kernel
theorem d_D_goOneLeg_92 : decode b_D_goOneLeg 92 = .ok (.getfield 32, 3) := by decide +kernel
theorem d_D_goOneLeg_95 : decode b_D_goOneLeg 95 = .ok (.lconst 0, 1) := by decide +kernel
theorem d_D_goOneLeg_96 : decode b_D_goOneLeg 96 = .ok (.lcmp, 1) := by decide +kernel
theorem d_D_goOneLeg_97 : decode b_D_goOneLeg 97 = .ok (.ifCond .ge 15, 3) := by decide +kernel
theorem d_D_goOneLeg_100 : decode b_D_goOneLeg 100 = .ok (.lload 9, 2) := by decide +kernel
theorem d_D_goOneLeg_102 : decode b_D_goOneLeg 102 = .ok (.aload_n 0, 1) := by decide +kernel
theorem d_D_goOneLeg_103 : decode b_D_goOneLeg 103 = .ok (.getfield 32, 3) := by decide +kernel
theorem d_D_goOneLeg_106 : decode b_D_goOneLeg 106 = .ok (.lneg, 1) := by decide +kernel
theorem d_D_goOneLeg_107 : decode b_D_goOneLeg 107 = .ok (.invokestatic 75, 3) := by decide +kernel
theorem d_D_goOneLeg_110 : decode b_D_goOneLeg 110 = .ok (.lstore 9, 2) := by decide +kernel
theorem d_D_goOneLeg_112 : decode b_D_goOneLeg 112 = .ok (.aload_n 0, 1) := by decide +kernel
theorem d_D_goOneLeg_113 : decode b_D_goOneLeg 113 = .ok (.getfield 32, 3) := by decide +kernel
theorem d_D_goOneLeg_116 : decode b_D_goOneLeg 116 = .ok (.lconst 0, 1) := by decide +kernel
theorem d_D_goOneLeg_117 : decode b_D_goOneLeg 117 = .ok (.lcmp, 1) := by decide +kernel
theorem d_D_goOneLeg_118 : decode b_D_goOneLeg 118 = .ok (.ifCond .le 13, 3) := by decide +kernel
theorem d_D_goOneLeg_121 : decode b_D_goOneLeg 121 = .ok (.iload 6, 2) := by decide +kernel
theorem d_D_goOneLeg_123 : decode b_D_goOneLeg 123 = .ok (.iload_n 3, 1) := by decide +kernel
theorem d_D_goOneLeg_124 : decode b_D_goOneLeg 124 = .ok (.if_icmp .eq 7, 3) := by decide +kernel
theorem d_D_goOneLeg_127 : decode b_D_goOneLeg 127 = .ok (.iconst 1, 1) := by decide +kernel
theorem d_D_goOneLeg_128 : decode b_D_goOneLeg 128 = .ok (.goto 4, 3) := by decide +kernel
theorem d_D_goOneLeg_131 : decode b_D_goOneLeg 131 = .ok (.iconst 0, 1) := by decide +kernel
theorem d_D_goOneLeg_132 : decode b_D_goOneLeg 132 = .ok (.istore 11, 2) := by decide +kernel
theorem d_D_goOneLeg_134 : decode b_D_goOneLeg 134 = .ok (.iload 11, 2) := by decide +kernel
theorem d_D_goOneLeg_136 : decode b_D_goOneLeg 136 = .ok (.ifCond .eq 13, 3) := by decide +kernel
theorem d_D_goOneLeg_139 : decode b_D_goOneLeg 139 = .ok (.aload_n 0, 1) := by decide +kernel
theorem d_D_goOneLeg_140 : decode b_D_goOneLeg 140 = .ok (.getfield 32, 3) := by decide +kernel
theorem d_D_goOneLeg_143 : decode b_D_goOneLeg 143 = .ok (.lload 7, 2) := by decide +kernel
theorem d_D_goOneLeg_145 : decode b_D_goOneLeg 145 = .ok (.lsub, 1) := by decide +kernel
theorem d_D_goOneLeg_146 : decode b_D_goOneLeg 146 = .ok (.goto 24, 3) := by decide +kernel
theorem d_D_goOneLeg_149 : decode b_D_goOneLeg 149 = .ok (.lload 7, 2) := by decide +kernel
theorem d_D_goOneLeg_151 : decode b_D_goOneLeg 151 = .ok (.aload_n 0, 1) := by decide +kernel
theorem d_D_goOneLeg_152 : decode b_D_goOneLeg 152 = .ok (.getfield 9, 3) := by decide +kernel
theorem d_D_goOneLeg_155 : decode b_D_goOneLeg 155 = .ok (.i2l, 1) := by decide +kernel
theorem d_D_goOneLeg_156 : decode b_D_goOneLeg 156 = .ok (.lmul, 1) := by decide +kernel
theorem d_D_goOneLeg_157 : decode b_D_goOneLeg 157 = .ok (.ldc2_w 81, 3) := by decide +kernel
theorem d_D_goOneLeg_160 : decode b_D_goOneLeg 160 = .ok (.aload_n 0, 1) := by decide +kernel
theorem d_D_goOneLeg_161 : decode b_D_goOneLeg 161 = .ok (.getfield 9, 3) := by decide +kernel
theorem d_D_goOneLeg_164 : decode b_D_goOneLeg 164 = .ok (.i2l, 1) := by decide +kernel
theorem d_D_goOneLeg_165 : decode b_D_goOneLeg 165 = .ok (.lsub, 1) := by decide +kernel
theorem d_D_goOneLeg_166 : decode b_D_goOneLeg 166 = .ok (.iconst 1, 1) := by decide +kernel
theorem d_D_goOneLeg_167 : decode b_D_goOneLeg 167 = .ok (.invokestatic 83, 3) := by decide +kernel
theorem d_D_goOneLeg_170 : decode b_D_goOneLeg 170 = .ok (.lstore 12, 2) := by decide +kernel
theorem d_D_goOneLeg_172 : decode b_D_goOneLeg 172 = .ok (.aload_n 0, 1) := by decide +kernel
theorem d_D_goOneLeg_173 : decode b_D_goOneLeg 173 = .ok (.dup, 1) := by decide +kernel
theorem d_D_goOneLeg_174 : decode b_D_goOneLeg 174 = .ok (.getfield 25, 3) := by decide +kernel
theorem d_D_goOneLeg_177 : decode b_D_goOneLeg 177 = .ok (.lload 7, 2) := by decide +kernel
theorem d_D_goOneLeg_179 : decode b_D_goOneLeg 179 = .ok (.lload 12, 2) := by decide +kernel
theorem d_D_goOneLeg_181 : decode b_D_goOneLeg 181 = .ok (.ladd, 1) := by decide +kernel
theorem d_D_goOneLeg_182 : decode b_D_goOneLeg 182 = .ok (.ladd, 1) := by decide +kernel
theorem d_D_goOneLeg_183 : decode b_D_goOneLeg 183 = .ok (.putfield 25, 3) := by decide +kernel
theorem d_D_goOneLeg_186 : decode b_D_goOneLeg 186 = .ok (.aload_n 0, 1) := by decide +kernel
theorem d_D_goOneLeg_187 : decode b_D_goOneLeg 187 = .ok (.dup, 1) := by decide +kernel
theorem d_D_goOneLeg_188 : decode b_D_goOneLeg 188 = .ok (.getfield 29, 3) := by decide +kernel
theorem d_D_goOneLeg_191 : decode b_D_goOneLeg 191 = .ok (.lload 9, 2) := by decide +kernel
theorem d_D_goOneLeg_193 : decode b_D_goOneLeg 193 = .ok (.ladd, 1) := by decide +kernel
theorem d_D_goOneLeg_194 : decode b_D_goOneLeg 194 = .ok (.putfield 29, 3) := by decide +kernel
theorem d_D_goOneLeg_197 : decode b_D_goOneLeg 197 = .ok (.aload_n 0, 1) := by decide +kernel
theorem d_D_goOneLeg_198 : decode b_D_goOneLeg 198 = .ok (.dup, 1) := by decide +kernel
theorem d_D_goOneLeg_199 : decode b_D_goOneLeg 199 = .ok (.getfield 32, 3) := by decide +kernel
theorem d_D_goOneLeg_202 : decode b_D_goOneLeg 202 = .ok (.aload_n 0, 1) := by decide +kernel
theorem d_D_goOneLeg_203 : decode b_D_goOneLeg 203 = .ok (.getfield 32, 3) := by decide +kernel
theorem d_D_goOneLeg_206 : decode b_D_goOneLeg 206 = .ok (.lconst 0, 1) := by decide +kernel
theorem d_D_goOneLeg_207 : decode b_D_goOneLeg 207 = .ok (.lcmp, 1) := by decide +kernel
theorem d_D_goOneLeg_208 : decode b_D_goOneLeg 208 = .ok (.ifCond .le 12, 3) := by decide +kernel
theorem d_D_goOneLeg_211 : decode b_D_goOneLeg 211 = .ok (.lload 7, 2) := by decide +kernel
theorem d_D_goOneLeg_213 : decode b_D_goOneLeg 213 = .ok (.lload 12, 2) := by decide +kernel
theorem d_D_goOneLeg_215 : decode b_D_goOneLeg 215 = .ok (.ladd, 1) := by decide +kernel
theorem d_D_goOneLeg_216 : decode b_D_goOneLeg 216 = .ok (.lneg, 1) := by decide +kernel
theorem d_D_goOneLeg_217 : decode b_D_goOneLeg 217 = .ok (.goto 5, 3) := by decide +kernel
theorem d_D_goOneLeg_220 : decode b_D_goOneLeg 220 = .ok (.lload 9, 2) := by decide +kernel
theorem d_D_goOneLeg_222 : decode b_D_goOneLeg 222 = .ok (.ladd, 1) := by decide +kernel
theorem d_D_goOneLeg_223 : decode b_D_goOneLeg 223 = .ok (.putfield 32, 3) := by decide +kernel
theorem d_D_goOneLeg_226 : decode b_D_goOneLeg 226 = .ok (.aload_n 1, 1) := by decide +kernel
theorem d_D_goOneLeg_227 : decode b_D_goOneLeg 227 = .ok (.aload_n 0, 1) := by decide +kernel
theorem d_D_goOneLeg_228 : decode b_D_goOneLeg 228 = .ok (.getfield 22, 3) := by decide +kernel
theorem d_D_goOneLeg_231 : decode b_D_goOneLeg 231 = .ok (.lload 12, 2) := by decide +kernel
theorem d_D_goOneLeg_233 : decode b_D_goOneLeg 233 = .ok (.lload 4, 2) := by decide +kernel
theorem d_D_goOneLeg_235 : decode b_D_goOneLeg 235 = .ok (.invokevirtual 87, 3) := by decide +kernel
theorem d_D_goOneLeg_238 : decode b_D_goOneLeg 238 = .ok (.aload_n 0, 1) := by decide +kernel
theorem d_D_goOneLeg_239 : decode b_D_goOneLeg 239 = .ok (.iload 6, 2) := by decide +kernel
theorem d_D_goOneLeg_241 : decode b_D_goOneLeg 241 = .ok (.iload_n 2, 1) := by decide +kernel
theorem d_D_goOneLeg_242 : decode b_D_goOneLeg 242 = .ok (.invokevirtual 91, 3) := by decide +kernel
theorem d_D_goOneLeg_245 : decode b_D_goOneLeg 245 = .ok (.return_, 1) := by decide +kernel
theorem d_D_targetBefore_0 : decode b_D_targetBefore 0 = .ok (.iload_n 1, 1) := by decide +kernel
theorem d_D_targetBefore_1 : decode b_D_targetBefore 1 = .ok (.sipush 1000, 3) := by decide +kernel
theorem d_D_targetBefore_4 : decode b_D_targetBefore 4 = .ok (.if_icmp .ne 8, 3) := by decide +kernel
theorem d_D_targetBefore_7 : decode b_D_targetBefore 7 = .ok (.aload_n 0, 1) := by decide +kernel
theorem d_D_targetBefore_8 : decode b_D_targetBefore 8 = .ok (.getfield 35, 3) := by decide +kernel
theorem d_D_targetBefore_11 : decode b_D_targetBefore 11 = .ok (.ireturn, 1) := by decide +kernel
theorem d_D_targetBefore_12 : decode b_D_targetBefore 12 = .ok (.aload_n 0, 1) := by decide +kernel
theorem d_D_targetBefore_13 : decode b_D_targetBefore 13 = .ok (.getfield 15, 3) := by decide +kernel
theorem d_D_targetBefore_16 : decode b_D_targetBefore 16 = .ok (.ifCond .eq 17, 3) := by decide +kernel
theorem d_D_targetBefore_19 : decode b_D_targetBefore 19 = .ok (.iload_n 1, 1) := by decide +kernel
theorem d_D_targetBefore_20 : decode b_D_targetBefore 20 = .ok (.invokestatic 95, 3) := by decide +kernel
theorem d_D_targetBefore_23 : decode b_D_targetBefore 23 = .ok (.aload_n 0, 1) := by decide +kernel
theorem d_D_targetBefore_24 : decode b_D_targetBefore 24 = .ok (.getfield 35, 3) := by decide +kernel
theorem d_D_targetBefore_27 : decode b_D_targetBefore 27 = .ok (.invokestatic 98, 3) := by decide +kernel
theorem d_D_targetBefore_30 : decode b_D_targetBefore 30 = .ok (.goto 14, 3) := by decide +kernel
theorem d_D_targetBefore_33 : decode b_D_targetBefore 33 = .ok (.iload_n 1, 1) := by decide +kernel
theorem d_D_targetBefore_34 : decode b_D_targetBefore 34 = .ok (.invokestatic 95, 3) := by decide +kernel
theorem d_D_targetBefore_37 : decode b_D_targetBefore 37 = .ok (.aload_n 0, 1) := by decide +kernel
theorem d_D_targetBefore_38 : decode b_D_targetBefore 38 = .ok (.getfield 35, 3) := by decide +kernel
theorem d_D_targetBefore_41 : decode b_D_targetBefore 41 = .ok (.invokestatic 102, 3) := by decide +kernel
theorem d_D_targetBefore_44 : decode b_D_targetBefore 44 = .ok (.ireturn, 1) := by decide +kernel
theorem d_D_priceAfterPaying_0 : decode b_D_priceAfterPaying 0 = .ok (.aload_n 0, 1) := by decide +kernel
theorem d_D_priceAfterPaying_1 : decode b_D_priceAfterPaying 1 = .ok (.getfield 32, 3) := by decide +kernel
theorem d_D_priceAfterPaying_4 : decode b_D_priceAfterPaying 4 = .ok (.ldc2_w 81, 3) := by decide +kernel
theorem d_D_priceAfterPaying_7 : decode b_D_priceAfterPaying 7 = .ok (.aload_n 0, 1) := by decide +kernel
theorem d_D_priceAfterPaying_8 : decode b_D_priceAfterPaying 8 = .ok (.getfield 9, 3) := by decide +kernel
theorem d_D_priceAfterPaying_11 : decode b_D_priceAfterPaying 11 = .ok (.i2l, 1) := by decide +kernel
theorem d_D_priceAfterPaying_12 : decode b_D_priceAfterPaying 12 = .ok (.lsub, 1) := by decide +kernel
theorem d_D_priceAfterPaying_13 : decode b_D_priceAfterPaying 13 = .ok (.lmul, 1) := by decide +kernel
theorem d_D_priceAfterPaying_14 : decode b_D_priceAfterPaying 14 = .ok (.ldc2_w 81, 3) := by decide +kernel
theorem d_D_priceAfterPaying_17 : decode b_D_priceAfterPaying 17 = .ok (.ldiv, 1) := by decide +kernel
theorem d_D_priceAfterPaying_18 : decode b_D_priceAfterPaying 18 = .ok (.lstore 4, 2) := by decide +kernel
theorem d_D_priceAfterPaying_20 : decode b_D_priceAfterPaying 20 = .ok (.lload 4, 2) := by decide +kernel
theorem d_D_priceAfterPaying_22 : decode b_D_priceAfterPaying 22 = .ok (.aload_n 0, 1) := by decide +kernel
theorem d_D_priceAfterPaying_23 : decode b_D_priceAfterPaying 23 = .ok (.lload_n 1, 1) := by decide +kernel
theorem d_D_priceAfterPaying_24 : decode b_D_priceAfterPaying 24 = .ok (.iload_n 3, 1) := by decide +kernel
theorem d_D_priceAfterPaying_25 : decode b_D_priceAfterPaying 25 = .ok (.invokevirtual 68, 3) := by decide +kernel
theorem d_D_priceAfterPaying_28 : decode b_D_priceAfterPaying 28 = .ok (.lcmp, 1) := by decide +kernel
theorem d_D_priceAfterPaying_29 : decode b_D_priceAfterPaying 29 = .ok (.ifCond .lt 5, 3) := by decide +kernel
theorem d_D_priceAfterPaying_32 : decode b_D_priceAfterPaying 32 = .ok (.iload_n 3, 1) := by decide +kernel
theorem d_D_priceAfterPaying_33 : decode b_D_priceAfterPaying 33 = .ok (.ireturn, 1) := by decide +kernel
theorem d_D_priceAfterPaying_34 : decode b_D_priceAfterPaying 34 = .ok (.aload_n 0, 1) := by decide +kernel
theorem d_D_priceAfterPaying_35 : decode b_D_priceAfterPaying 35 = .ok (.getfield 15, 3) := by decide +kernel
theorem d_D_priceAfterPaying_38 : decode b_D_priceAfterPaying 38 = .ok (.ifCond .eq 34, 3) := by decide +kernel
theorem d_D_priceAfterPaying_41 : decode b_D_priceAfterPaying 41 = .ok (.lload_n 1, 1) := by decide +kernel
theorem d_D_priceAfterPaying_42 : decode b_D_priceAfterPaying 42 = .ok (.ldc2_w 104, 3) := by decide +kernel
theorem d_D_priceAfterPaying_45 : decode b_D_priceAfterPaying 45 = .ok (.lmul, 1) := by decide +kernel
theorem d_D_priceAfterPaying_46 : decode b_D_priceAfterPaying 46 = .ok (.aload_n 0, 1) := by decide +kernel
theorem d_D_priceAfterPaying_47 : decode b_D_priceAfterPaying 47 = .ok (.getfield 19, 3) := by decide +kernel
theorem d_D_priceAfterPaying_50 : decode b_D_priceAfterPaying 50 = .ok (.i2l, 1) := by decide +kernel
theorem d_D_priceAfterPaying_51 : decode b_D_priceAfterPaying 51 = .ok (.lmul, 1) := by decide +kernel
theorem d_D_priceAfterPaying_52 : decode b_D_priceAfterPaying 52 = .ok (.lload_n 1, 1) := by decide +kernel
theorem d_D_priceAfterPaying_53 : decode b_D_priceAfterPaying 53 = .ok (.ldc2_w 104, 3) := by decide +kernel
theorem d_D_priceAfterPaying_56 : decode b_D_priceAfterPaying 56 = .ok (.lmul, 1) := by decide +kernel
theorem d_D_priceAfterPaying_57 : decode b_D_priceAfterPaying 57 = .ok (.lload 4, 2) := by decide +kernel
theorem d_D_priceAfterPaying_59 : decode b_D_priceAfterPaying 59 = .ok (.aload_n 0, 1) := by decide +kernel
theorem d_D_priceAfterPaying_60 : decode b_D_priceAfterPaying 60 = .ok (.getfield 19, 3) := by decide +kernel
theorem d_D_priceAfterPaying_63 : decode b_D_priceAfterPaying 63 = .ok (.i2l, 1) := by decide +kernel
theorem d_D_priceAfterPaying_64 : decode b_D_priceAfterPaying 64 = .ok (.lmul, 1) := by decide +kernel
theorem d_D_priceAfterPaying_65 : decode b_D_priceAfterPaying 65 = .ok (.ladd, 1) := by decide +kernel
theorem d_D_priceAfterPaying_66 : decode b_D_priceAfterPaying 66 = .ok (.iconst 1, 1) := by decide +kernel
theorem d_D_priceAfterPaying_67 : decode b_D_priceAfterPaying 67 = .ok (.invokestatic 83, 3) := by decide +kernel
theorem d_D_priceAfterPaying_70 : decode b_D_priceAfterPaying 70 = .ok (.l2i, 1) := by decide +kernel
theorem d_D_priceAfterPaying_71 : decode b_D_priceAfterPaying 71 = .ok (.ireturn, 1) := by decide +kernel
theorem d_D_priceAfterPaying_72 : decode b_D_priceAfterPaying 72 = .ok (.aload_n 0, 1) := by decide +kernel
theorem d_D_priceAfterPaying_73 : decode b_D_priceAfterPaying 73 = .ok (.getfield 19, 3) := by decide +kernel
theorem d_D_priceAfterPaying_76 : decode b_D_priceAfterPaying 76 = .ok (.i2l, 1) := by decide +kernel
theorem d_D_priceAfterPaying_77 : decode b_D_priceAfterPaying 77 = .ok (.lload 4, 2) := by decide +kernel
theorem d_D_priceAfterPaying_79 : decode b_D_priceAfterPaying 79 = .ok (.ldc2_w 104, 3) := by decide +kernel
theorem d_D_priceAfterPaying_82 : decode b_D_priceAfterPaying 82 = .ok (.lmul, 1) := by decide +kernel
theorem d_D_priceAfterPaying_83 : decode b_D_priceAfterPaying 83 = .ok (.lload_n 1, 1) := by decide +kernel
theorem d_D_priceAfterPaying_84 : decode b_D_priceAfterPaying 84 = .ok (.iconst 0, 1) := by decide +kernel
theorem d_D_priceAfterPaying_85 : decode b_D_priceAfterPaying 85 = .ok (.invokestatic 83, 3) := by decide +kernel
theorem d_D_priceAfterPaying_88 : decode b_D_priceAfterPaying 88 = .ok (.ladd, 1) := by decide +kernel
theorem d_D_priceAfterPaying_89 : decode b_D_priceAfterPaying 89 = .ok (.l2i, 1) := by decide +kernel
theorem d_D_priceAfterPaying_90 : decode b_D_priceAfterPaying 90 = .ok (.ireturn, 1) := by decide +kernel
theorem d_D_priceAfterTaking_0 : decode b_D_priceAfterTaking 0 = .ok (.aload_n 0, 1) := by decide +kernel
theorem d_D_priceAfterTaking_1 : decode b_D_priceAfterTaking 1 = .ok (.getfield 32, 3) := by decide +kernel
theorem d_D_priceAfterTaking_4 : decode b_D_priceAfterTaking 4 = .ok (.lneg, 1) := by decide +kernel
theorem d_D_priceAfterTaking_5 : decode b_D_priceAfterTaking 5 = .ok (.lstore 4, 2) := by decide +kernel
theorem d_D_priceAfterTaking_7 : decode b_D_priceAfterTaking 7 = .ok (.lload 4, 2) := by decide +kernel
theorem d_D_priceAfterTaking_9 : decode b_D_priceAfterTaking 9 = .ok (.aload_n 0, 1) := by decide +kernel
theorem d_D_priceAfterTaking_10 : decode b_D_priceAfterTaking 10 = .ok (.lload_n 1, 1) := by decide +kernel
theorem d_D_priceAfterTaking_11 : decode b_D_priceAfterTaking 11 = .ok (.iload_n 3, 1) := by decide +kernel
theorem d_D_priceAfterTaking_12 : decode b_D_priceAfterTaking 12 = .ok (.invokevirtual 72, 3) := by decide +kernel
theorem d_D_priceAfterTaking_15 : decode b_D_priceAfterTaking 15 = .ok (.lcmp, 1) := by decide +kernel
theorem d_D_priceAfterTaking_16 : decode b_D_priceAfterTaking 16 = .ok (.ifCond .lt 5, 3) := by decide +kernel
theorem d_D_priceAfterTaking_19 : decode b_D_priceAfterTaking 19 = .ok (.iload_n 3, 1) := by decide +kernel
theorem d_D_priceAfterTaking_20 : decode b_D_priceAfterTaking 20 = .ok (.ireturn, 1) := by decide +kernel
theorem d_D_priceAfterTaking_21 : decode b_D_priceAfterTaking 21 = .ok (.aload_n 0, 1) := by decide +kernel
theorem d_D_priceAfterTaking_22 : decode b_D_priceAfterTaking 22 = .ok (.getfield 15, 3) := by decide +kernel
theorem d_D_priceAfterTaking_25 : decode b_D_priceAfterTaking 25 = .ok (.ifCond .eq 22, 3) := by decide +kernel
theorem d_D_priceAfterTaking_28 : decode b_D_priceAfterTaking 28 = .ok (.aload_n 0, 1) := by decide +kernel
theorem d_D_priceAfterTaking_29 : decode b_D_priceAfterTaking 29 = .ok (.getfield 19, 3) := by decide +kernel
theorem d_D_priceAfterTaking_32 : decode b_D_priceAfterTaking 32 = .ok (.i2l, 1) := by decide +kernel
theorem d_D_priceAfterTaking_33 : decode b_D_priceAfterTaking 33 = .ok (.lload 4, 2) := by decide +kernel
theorem d_D_priceAfterTaking_35 : decode b_D_priceAfterTaking 35 = .ok (.ldc2_w 104, 3) := by decide +kernel
theorem d_D_priceAfterTaking_38 : decode b_D_priceAfterTaking 38 = .ok (.lmul, 1) := by decide +kernel
theorem d_D_priceAfterTaking_39 : decode b_D_priceAfterTaking 39 = .ok (.lload_n 1, 1) := by decide +kernel
theorem d_D_priceAfterTaking_40 : decode b_D_priceAfterTaking 40 = .ok (.iconst 1, 1) := by decide +kernel
theorem d_D_priceAfterTaking_41 : decode b_D_priceAfterTaking 41 = .ok (.invokestatic 83, 3) := by decide +kernel
theorem d_D_priceAfterTaking_44 : decode b_D_priceAfterTaking 44 = .ok (.lsub, 1) := by decide +kernel
theorem d_D_priceAfterTaking_45 : decode b_D_priceAfterTaking 45 = .ok (.l2i, 1) := by decide +kernel
theorem d_D_priceAfterTaking_46 : decode b_D_priceAfterTaking 46 = .ok (.ireturn, 1) := by decide +kernel
theorem d_D_priceAfterTaking_47 : decode b_D_priceAfterTaking 47 = .ok (.lload_n 1, 1) := by decide +kernel
theorem d_D_priceAfterTaking_48 : decode b_D_priceAfterTaking 48 = .ok (.ldc2_w 104, 3) := by decide +kernel
theorem d_D_priceAfterTaking_51 : decode b_D_priceAfterTaking 51 = .ok (.lmul, 1) := by decide +kernel
theorem d_D_priceAfterTaking_52 : decode b_D_priceAfterTaking 52 = .ok (.aload_n 0, 1) := by decide +kernel
theorem d_D_priceAfterTaking_53 : decode b_D_priceAfterTaking 53 = .ok (.getfield 19, 3) := by decide +kernel
theorem d_D_priceAfterTaking_56 : decode b_D_priceAfterTaking 56 = .ok (.i2l, 1) := by decide +kernel
theorem d_D_priceAfterTaking_57 : decode b_D_priceAfterTaking 57 = .ok (.lmul, 1) := by decide +kernel
theorem d_D_priceAfterTaking_58 : decode b_D_priceAfterTaking 58 = .ok (.lload_n 1, 1) := by decide +kernel
theorem d_D_priceAfterTaking_59 : decode b_D_priceAfterTaking 59 = .ok (.ldc2_w 104, 3) := by decide +kernel
theorem d_D_priceAfterTaking_62 : decode b_D_priceAfterTaking 62 = .ok (.lmul, 1) := by decide +kernel
theorem d_D_priceAfterTaking_63 : decode b_D_priceAfterTaking 63 = .ok (.lload 4, 2) := by decide +kernel
theorem d_D_priceAfterTaking_65 : decode b_D_priceAfterTaking 65 = .ok (.aload_n 0, 1) := by decide +kernel
theorem d_D_priceAfterTaking_66 : decode b_D_priceAfterTaking 66 = .ok (.getfield 19, 3) := by decide +kernel
theorem d_D_priceAfterTaking_69 : decode b_D_priceAfterTaking 69 = .ok (.i2l, 1) := by decide +kernel
theorem d_D_priceAfterTaking_70 : decode b_D_priceAfterTaking 70 = .ok (.lmul, 1) := by decide +kernel
theorem d_D_priceAfterTaking_71 : decode b_D_priceAfterTaking 71 = .ok (.lsub, 1) := by decide +kernel
theorem d_D_priceAfterTaking_72 : decode b_D_priceAfterTaking 72 = .ok (.iconst 1, 1) := by decide +kernel
theorem d_D_priceAfterTaking_73 : decode b_D_priceAfterTaking 73 = .ok (.invokestatic 83, 3) := by decide +kernel
theorem d_D_priceAfterTaking_76 : decode b_D_priceAfterTaking 76 = .ok (.l2i, 1) := by decide +kernel
theorem d_D_priceAfterTaking_77 : decode b_D_priceAfterTaking 77 = .ok (.ireturn, 1) := by decide +kernel
theorem d_D_amountIn_0 : decode b_D_amountIn 0 = .ok (.aload_n 0, 1) := by decide +kernel
theorem d_D_amountIn_1 : decode b_D_amountIn 1 = .ok (.getfield 15, 3) := by decide +kernel
theorem d_D_amountIn_4 : decode b_D_amountIn 4 = .ok (.ifCond .eq 18, 3) := by decide +kernel
theorem d_D_amountIn_7 : decode b_D_amountIn 7 = .ok (.iload_n 3, 1) := by decide +kernel
theorem d_D_amountIn_8 : decode b_D_amountIn 8 = .ok (.i2l, 1) := by decide +kernel
theorem d_D_amountIn_9 : decode b_D_amountIn 9 = .ok (.aload_n 0, 1) := by decide +kernel
theorem d_D_amountIn_10 : decode b_D_amountIn 10 = .ok (.getfield 19, 3) := by decide +kernel
theorem d_D_amountIn_13 : decode b_D_amountIn 13 = .ok (.i2l, 1) := by decide +kernel
theorem d_D_amountIn_14 : decode b_D_amountIn 14 = .ok (.lload_n 1, 1) := by decide +kernel
theorem d_D_amountIn_15 : decode b_D_amountIn 15 = .ok (.iconst 1, 1) := by decide +kernel
theorem d_D_amountIn_16 : decode b_D_amountIn 16 = .ok (.invokestatic 106, 3) := by decide +kernel
theorem d_D_amountIn_19 : decode b_D_amountIn 19 = .ok (.goto 15, 3) := by decide +kernel
theorem d_D_amountIn_22 : decode b_D_amountIn 22 = .ok (.aload_n 0, 1) := by decide +kernel
theorem d_D_amountIn_23 : decode b_D_amountIn 23 = .ok (.getfield 19, 3) := by decide +kernel
theorem d_D_amountIn_26 : decode b_D_amountIn 26 = .ok (.i2l, 1) := by decide +kernel
theorem d_D_amountIn_27 : decode b_D_amountIn 27 = .ok (.iload_n 3, 1) := by decide +kernel
theorem d_D_amountIn_28 : decode b_D_amountIn 28 = .ok (.i2l, 1) := by decide +kernel
theorem d_D_amountIn_29 : decode b_D_amountIn 29 = .ok (.lload_n 1, 1) := by decide +kernel
theorem d_D_amountIn_30 : decode b_D_amountIn 30 = .ok (.iconst 1, 1) := by decide +kernel
theorem d_D_amountIn_31 : decode b_D_amountIn 31 = .ok (.invokestatic 110, 3) := by decide +kernel
theorem d_D_amountIn_34 : decode b_D_amountIn 34 = .ok (.lreturn, 1) := by decide +kernel
theorem d_D_amountOut_0 : decode b_D_amountOut 0 = .ok (.aload_n 0, 1) := by decide +kernel
theorem d_D_amountOut_1 : decode b_D_amountOut 1 = .ok (.getfield 15, 3) := by decide +kernel
theorem d_D_amountOut_4 : decode b_D_amountOut 4 = .ok (.ifCond .eq 18, 3) := by decide +kernel
theorem d_D_amountOut_7 : decode b_D_amountOut 7 = .ok (.iload_n 3, 1) := by decide +kernel
theorem d_D_amountOut_8 : decode b_D_amountOut 8 = .ok (.i2l, 1) := by decide +kernel
theorem d_D_amountOut_9 : decode b_D_amountOut 9 = .ok (.aload_n 0, 1) := by decide +kernel
theorem d_D_amountOut_10 : decode b_D_amountOut 10 = .ok (.getfield 19, 3) := by decide +kernel
theorem d_D_amountOut_13 : decode b_D_amountOut 13 = .ok (.i2l, 1) := by decide +kernel
theorem d_D_amountOut_14 : decode b_D_amountOut 14 = .ok (.lload_n 1, 1) := by decide +kernel
theorem d_D_amountOut_15 : decode b_D_amountOut 15 = .ok (.iconst 0, 1) := by decide +kernel
theorem d_D_amountOut_16 : decode b_D_amountOut 16 = .ok (.invokestatic 110, 3) := by decide +kernel
theorem d_D_amountOut_19 : decode b_D_amountOut 19 = .ok (.goto 15, 3) := by decide +kernel
theorem d_D_amountOut_22 : decode b_D_amountOut 22 = .ok (.aload_n 0, 1) := by decide +kernel
theorem d_D_amountOut_23 : decode b_D_amountOut 23 = .ok (.getfield 19, 3) := by decide +kernel
theorem d_D_amountOut_26 : decode b_D_amountOut 26 = .ok (.i2l, 1) := by decide +kernel
theorem d_D_amountOut_27 : decode b_D_amountOut 27 = .ok (.iload_n 3, 1) := by decide +kernel
theorem d_D_amountOut_28 : decode b_D_amountOut 28 = .ok (.i2l, 1) := by decide +kernel
theorem d_D_amountOut_29 : decode b_D_amountOut 29 = .ok (.lload_n 1, 1) := by decide +kernel
theorem d_D_amountOut_30 : decode b_D_amountOut 30 = .ok (.iconst 0, 1) := by decide +kernel
theorem d_D_amountOut_31 : decode b_D_amountOut 31 = .ok (.invokestatic 106, 3) := by decide +kernel
theorem d_D_amountOut_34 : decode b_D_amountOut 34 = .ok (.lreturn, 1) := by decide +kernel
theorem d_D_moveTo_0 : decode b_D_moveTo 0 = .ok (.iload_n 1, 1) := by decide +kernel
theorem d_D_moveTo_1 : decode b_D_moveTo 1 = .ok (.aload_n 0, 1) := by decide +kernel
theorem d_D_moveTo_2 : decode b_D_moveTo 2 = .ok (.getfield 19, 3) := by decide +kernel
theorem d_D_moveTo_5 : decode b_D_moveTo 5 = .ok (.if_icmp .eq 7, 3) := by decide +kernel
theorem d_D_moveTo_8 : decode b_D_moveTo 8 = .ok (.iconst 1, 1) := by decide +kernel
theorem d_D_moveTo_9 : decode b_D_moveTo 9 = .ok (.goto 4, 3) := by decide +kernel
theorem d_D_moveTo_12 : decode b_D_moveTo 12 = .ok (.iconst 0, 1) := by decide +kernel
theorem d_D_moveTo_13 : decode b_D_moveTo 13 = .ok (.istore_n 3, 1) := by decide +kernel
theorem d_D_moveTo_14 : decode b_D_moveTo 14 = .ok (.aload_n 0, 1) := by decide +kernel
theorem d_D_moveTo_15 : decode b_D_moveTo 15 = .ok (.iload_n 1, 1) := by decide +kernel
theorem d_D_moveTo_16 : decode b_D_moveTo 16 = .ok (.putfield 19, 3) := by decide +kernel
theorem d_D_moveTo_19 : decode b_D_moveTo 19 = .ok (.iload_n 2, 1) := by decide +kernel
theorem d_D_moveTo_20 : decode b_D_moveTo 20 = .ok (.sipush 1000, 3) := by decide +kernel
theorem d_D_moveTo_23 : decode b_D_moveTo 23 = .ok (.if_icmp .eq 32, 3) := by decide +kernel
theorem d_D_moveTo_26 : decode b_D_moveTo 26 = .ok (.iload_n 1, 1) := by decide +kernel
theorem d_D_moveTo_27 : decode b_D_moveTo 27 = .ok (.iload_n 2, 1) := by decide +kernel
theorem d_D_moveTo_28 : decode b_D_moveTo 28 = .ok (.invokestatic 95, 3) := by decide +kernel
theorem d_D_moveTo_31 : decode b_D_moveTo 31 = .ok (.if_icmp .ne 24, 3) := by decide +kernel
theorem d_D_moveTo_34 : decode b_D_moveTo 34 = .ok (.aload_n 0, 1) := by decide +kernel
theorem d_D_moveTo_35 : decode b_D_moveTo 35 = .ok (.aload_n 0, 1) := by decide +kernel
theorem d_D_moveTo_36 : decode b_D_moveTo 36 = .ok (.getfield 15, 3) := by decide +kernel
theorem d_D_moveTo_39 : decode b_D_moveTo 39 = .ok (.ifCond .eq 9, 3) := by decide +kernel
theorem d_D_moveTo_42 : decode b_D_moveTo 42 = .ok (.iload_n 2, 1) := by decide +kernel
theorem d_D_moveTo_43 : decode b_D_moveTo 43 = .ok (.iconst 1, 1) := by decide +kernel
theorem d_D_moveTo_44 : decode b_D_moveTo 44 = .ok (.isub, 1) := by decide +kernel
theorem d_D_moveTo_45 : decode b_D_moveTo 45 = .ok (.goto 4, 3) := by decide +kernel
theorem d_D_moveTo_48 : decode b_D_moveTo 48 = .ok (.iload_n 2, 1) := by decide +kernel
theorem d_D_moveTo_49 : decode b_D_moveTo 49 = .ok (.putfield 22, 3) := by decide +kernel
theorem d_D_moveTo_52 : decode b_D_moveTo 52 = .ok (.goto 15, 3) := by decide +kernel
theorem d_D_moveTo_55 : decode b_D_moveTo 55 = .ok (.iload_n 3, 1) := by decide +kernel
theorem d_D_moveTo_56 : decode b_D_moveTo 56 = .ok (.ifCond .eq 11, 3) := by decide +kernel
theorem d_D_moveTo_59 : decode b_D_moveTo 59 = .ok (.aload_n 0, 1) := by decide +kernel
theorem d_D_moveTo_60 : decode b_D_moveTo 60 = .ok (.iload_n 1, 1) := by decide +kernel
theorem d_D_moveTo_61 : decode b_D_moveTo 61 = .ok (.invokestatic 113, 3) := by decide +kernel
theorem d_D_moveTo_64 : decode b_D_moveTo 64 = .ok (.putfield 22, 3) := by decide +kernel
theorem d_D_moveTo_67 : decode b_D_moveTo 67 = .ok (.return_, 1) := by decide +kernel
