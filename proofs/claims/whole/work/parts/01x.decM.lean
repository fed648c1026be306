theorem d_M_init_0 : decode b_M_init 0 = .ok (.aload_n 0, 1) := by decide +kernel
theorem d_M_init_1 : decode b_M_init 1 = .ok (.invokespecial 1, 3) := by decide +kernel
theorem d_M_init_4 : decode b_M_init 4 = .ok (.aload_n 0, 1) := by decide +kernel
theorem d_M_init_5 : decode b_M_init 5 = .ok (.bipush 49, 2) := by decide +kernel
theorem d_M_init_7 : decode b_M_init 7 = .ok (.newarray .long, 2) := by decide +kernel
theorem d_M_init_9 : decode b_M_init 9 = .ok (.putfield 7, 3) := by decide +kernel
theorem d_M_init_12 : decode b_M_init 12 = .ok (.aload_n 0, 1) := by decide +kernel
theorem d_M_init_13 : decode b_M_init 13 = .ok (.bipush 8, 2) := by decide +kernel
theorem d_M_init_15 : decode b_M_init 15 = .ok (.newarray .long, 2) := by decide +kernel
theorem d_M_init_17 : decode b_M_init 17 = .ok (.putfield 13, 3) := by decide +kernel
theorem d_M_init_20 : decode b_M_init 20 = .ok (.aload_n 0, 1) := by decide +kernel
theorem d_M_init_21 : decode b_M_init 21 = .ok (.iconst 2, 1) := by decide +kernel
theorem d_M_init_22 : decode b_M_init 22 = .ok (.newarray .long, 2) := by decide +kernel
theorem d_M_init_24 : decode b_M_init 24 = .ok (.putfield 16, 3) := by decide +kernel
theorem d_M_init_27 : decode b_M_init 27 = .ok (.aload_n 0, 1) := by decide +kernel
theorem d_M_init_28 : decode b_M_init 28 = .ok (.bipush 10, 2) := by decide +kernel
theorem d_M_init_30 : decode b_M_init 30 = .ok (.newarray .boolean, 2) := by decide +kernel
theorem d_M_init_32 : decode b_M_init 32 = .ok (.putfield 19, 3) := by decide +kernel
theorem d_M_init_35 : decode b_M_init 35 = .ok (.aload_n 0, 1) := by decide +kernel
theorem d_M_init_36 : decode b_M_init 36 = .ok (.bipush 10, 2) := by decide +kernel
theorem d_M_init_38 : decode b_M_init 38 = .ok (.newarray .int, 2) := by decide +kernel
theorem d_M_init_40 : decode b_M_init 40 = .ok (.putfield 23, 3) := by decide +kernel
theorem d_M_init_43 : decode b_M_init 43 = .ok (.aload_n 0, 1) := by decide +kernel
theorem d_M_init_44 : decode b_M_init 44 = .ok (.bipush 10, 2) := by decide +kernel
theorem d_M_init_46 : decode b_M_init 46 = .ok (.newarray .int, 2) := by decide +kernel
theorem d_M_init_48 : decode b_M_init 48 = .ok (.putfield 27, 3) := by decide +kernel
theorem d_M_init_51 : decode b_M_init 51 = .ok (.aload_n 0, 1) := by decide +kernel
theorem d_M_init_52 : decode b_M_init 52 = .ok (.bipush 10, 2) := by decide +kernel
theorem d_M_init_54 : decode b_M_init 54 = .ok (.newarray .int, 2) := by decide +kernel
theorem d_M_init_56 : decode b_M_init 56 = .ok (.putfield 30, 3) := by decide +kernel
theorem d_M_init_59 : decode b_M_init 59 = .ok (.aload_n 0, 1) := by decide +kernel
theorem d_M_init_60 : decode b_M_init 60 = .ok (.bipush 10, 2) := by decide +kernel
theorem d_M_init_62 : decode b_M_init 62 = .ok (.newarray .long, 2) := by decide +kernel
theorem d_M_init_64 : decode b_M_init 64 = .ok (.putfield 33, 3) := by decide +kernel
theorem d_M_init_67 : decode b_M_init 67 = .ok (.aload_n 0, 1) := by decide +kernel
theorem d_M_init_68 : decode b_M_init 68 = .ok (.bipush 20, 2) := by decide +kernel
theorem d_M_init_70 : decode b_M_init 70 = .ok (.newarray .long, 2) := by decide +kernel
theorem d_M_init_72 : decode b_M_init 72 = .ok (.putfield 36, 3) := by decide +kernel
theorem d_M_init_75 : decode b_M_init 75 = .ok (.aload_n 0, 1) := by decide +kernel
theorem d_M_init_76 : decode b_M_init 76 = .ok (.bipush 20, 2) := by decide +kernel
theorem d_M_init_78 : decode b_M_init 78 = .ok (.newarray .long, 2) := by decide +kernel
theorem d_M_init_80 : decode b_M_init 80 = .ok (.putfield 39, 3) := by decide +kernel
theorem d_M_init_83 : decode b_M_init 83 = .ok (.aload_n 0, 1) := by decide +kernel
theorem d_M_init_84 : decode b_M_init 84 = .ok (.bipush 8, 2) := by decide +kernel
theorem d_M_init_86 : decode b_M_init 86 = .ok (.newarray .long, 2) := by decide +kernel
theorem d_M_init_88 : decode b_M_init 88 = .ok (.putfield 42, 3) := by decide +kernel
theorem d_M_init_91 : decode b_M_init 91 = .ok (.aload_n 0, 1) := by decide +kernel
theorem d_M_init_92 : decode b_M_init 92 = .ok (.bipush 8, 2) := by decide +kernel
theorem d_M_init_94 : decode b_M_init 94 = .ok (.newarray .long, 2) := by decide +kernel
theorem d_M_init_96 : decode b_M_init 96 = .ok (.putfield 45, 3) := by decide +kernel
theorem d_M_init_99 : decode b_M_init 99 = .ok (.aload_n 0, 1) := by decide +kernel
theorem d_M_init_100 : decode b_M_init 100 = .ok (.bipush 10, 2) := by decide +kernel
theorem d_M_init_102 : decode b_M_init 102 = .ok (.newarray .long, 2) := by decide +kernel
theorem d_M_init_104 : decode b_M_init 104 = .ok (.putfield 48, 3) := by decide +kernel
theorem d_M_init_107 : decode b_M_init 107 = .ok (.iload_n 1, 1) := by decide +kernel
theorem d_M_init_108 : decode b_M_init 108 = .ok (.iconst 1, 1) := by decide +kernel
theorem d_M_init_109 : decode b_M_init 109 = .ok (.if_icmp .eq 30, 3) := by decide +kernel
theorem d_M_init_112 : decode b_M_init 112 = .ok (.iload_n 1, 1) := by decide +kernel
theorem d_M_init_113 : decode b_M_init 113 = .ok (.iconst 2, 1) := by decide +kernel
theorem d_M_init_114 : decode b_M_init 114 = .ok (.if_icmp .eq 25, 3) := by decide +kernel
theorem d_M_init_117 : decode b_M_init 117 = .ok (.iload_n 1, 1) := by decide +kernel
theorem d_M_init_118 : decode b_M_init 118 = .ok (.iconst 3, 1) := by decide +kernel
theorem d_M_init_119 : decode b_M_init 119 = .ok (.if_icmp .eq 20, 3) := by decide +kernel
theorem d_M_init_122 : decode b_M_init 122 = .ok (.iload_n 1, 1) := by decide +kernel
theorem d_M_init_123 : decode b_M_init 123 = .ok (.iconst 4, 1) := by decide +kernel
theorem d_M_init_124 : decode b_M_init 124 = .ok (.if_icmp .eq 15, 3) := by decide +kernel
theorem d_M_init_127 : decode b_M_init 127 = .ok (.iload_n 1, 1) := by decide +kernel
theorem d_M_init_128 : decode b_M_init 128 = .ok (.bipush 6, 2) := by decide +kernel
theorem d_M_init_130 : decode b_M_init 130 = .ok (.if_icmp .eq 9, 3) := by decide +kernel
theorem d_M_init_133 : decode b_M_init 133 = .ok (.iload_n 1, 1) := by decide +kernel
theorem d_M_init_134 : decode b_M_init 134 = .ok (.bipush 8, 2) := by decide +kernel
theorem d_M_init_136 : decode b_M_init 136 = .ok (.if_icmp .ne 7, 3) := by decide +kernel
theorem d_M_init_139 : decode b_M_init 139 = .ok (.iconst 1, 1) := by decide +kernel
theorem d_M_init_140 : decode b_M_init 140 = .ok (.goto 4, 3) := by decide +kernel
theorem d_M_init_143 : decode b_M_init 143 = .ok (.iconst 0, 1) := by decide +kernel
theorem d_M_init_144 : decode b_M_init 144 = .ok (.istore_n 3, 1) := by decide +kernel
theorem d_M_init_145 : decode b_M_init 145 = .ok (.aload_n 0, 1) := by decide +kernel
theorem d_M_init_146 : decode b_M_init 146 = .ok (.iload_n 3, 1) := by decide +kernel
theorem d_M_init_147 : decode b_M_init 147 = .ok (.ifCond .eq 7, 3) := by decide +kernel
theorem d_M_init_150 : decode b_M_init 150 = .ok (.iload_n 1, 1) := by decide +kernel
theorem d_M_init_151 : decode b_M_init 151 = .ok (.goto 4, 3) := by decide +kernel
theorem d_M_init_154 : decode b_M_init 154 = .ok (.iconst 1, 1) := by decide +kernel
theorem d_M_init_155 : decode b_M_init 155 = .ok (.putfield 51, 3) := by decide +kernel
theorem d_M_init_158 : decode b_M_init 158 = .ok (.aload_n 0, 1) := by decide +kernel
theorem d_M_init_159 : decode b_M_init 159 = .ok (.iload_n 2, 1) := by decide +kernel
theorem d_M_init_160 : decode b_M_init 160 = .ok (.ifCond .lt 13, 3) := by decide +kernel
theorem d_M_init_163 : decode b_M_init 163 = .ok (.iload_n 2, 1) := by decide +kernel
theorem d_M_init_164 : decode b_M_init 164 = .ok (.bipush 100, 2) := by decide +kernel
theorem d_M_init_166 : decode b_M_init 166 = .ok (.if_icmp .gt 7, 3) := by decide +kernel
theorem d_M_init_169 : decode b_M_init 169 = .ok (.iload_n 2, 1) := by decide +kernel
theorem d_M_init_170 : decode b_M_init 170 = .ok (.goto 4, 3) := by decide +kernel
theorem d_M_init_173 : decode b_M_init 173 = .ok (.iconst 3, 1) := by decide +kernel
theorem d_M_init_174 : decode b_M_init 174 = .ok (.putfield 55, 3) := by decide +kernel
theorem d_M_init_177 : decode b_M_init 177 = .ok (.aload_n 0, 1) := by decide +kernel
theorem d_M_init_178 : decode b_M_init 178 = .ok (.getfield 7, 3) := by decide +kernel
theorem d_M_init_181 : decode b_M_init 181 = .ok (.bipush 24, 2) := by decide +kernel
theorem d_M_init_183 : decode b_M_init 183 = .ok (.ldc2_w 58, 3) := by decide +kernel
theorem d_M_init_186 : decode b_M_init 186 = .ok (.lastore, 1) := by decide +kernel
theorem d_M_init_187 : decode b_M_init 187 = .ok (.iconst 1, 1) := by decide +kernel
theorem d_M_init_188 : decode b_M_init 188 = .ok (.istore 4, 2) := by decide +kernel
theorem d_M_init_190 : decode b_M_init 190 = .ok (.iload 4, 2) := by decide +kernel
theorem d_M_init_192 : decode b_M_init 192 = .ok (.bipush 24, 2) := by decide +kernel
theorem d_M_init_194 : decode b_M_init 194 = .ok (.if_icmp .gt 65, 3) := by decide +kernel
theorem d_M_init_197 : decode b_M_init 197 = .ok (.aload_n 0, 1) := by decide +kernel
theorem d_M_init_198 : decode b_M_init 198 = .ok (.getfield 7, 3) := by decide +kernel
theorem d_M_init_201 : decode b_M_init 201 = .ok (.bipush 24, 2) := by decide +kernel
theorem d_M_init_203 : decode b_M_init 203 = .ok (.iload 4, 2) := by decide +kernel
theorem d_M_init_205 : decode b_M_init 205 = .ok (.iadd, 1) := by decide +kernel
theorem d_M_init_206 : decode b_M_init 206 = .ok (.aload_n 0, 1) := by decide +kernel
theorem d_M_init_207 : decode b_M_init 207 = .ok (.getfield 7, 3) := by decide +kernel
theorem d_M_init_210 : decode b_M_init 210 = .ok (.bipush 23, 2) := by decide +kernel
theorem d_M_init_212 : decode b_M_init 212 = .ok (.iload 4, 2) := by decide +kernel
theorem d_M_init_214 : decode b_M_init 214 = .ok (.iadd, 1) := by decide +kernel
theorem d_M_init_215 : decode b_M_init 215 = .ok (.laload, 1) := by decide +kernel
theorem d_M_init_216 : decode b_M_init 216 = .ok (.ldc2_w 60, 3) := by decide +kernel
theorem d_M_init_219 : decode b_M_init 219 = .ok (.lmul, 1) := by decide +kernel
theorem d_M_init_220 : decode b_M_init 220 = .ok (.ldc2_w 62, 3) := by decide +kernel
theorem d_M_init_223 : decode b_M_init 223 = .ok (.ldiv, 1) := by decide +kernel
theorem d_M_init_224 : decode b_M_init 224 = .ok (.lastore, 1) := by decide +kernel
theorem d_M_init_225 : decode b_M_init 225 = .ok (.aload_n 0, 1) := by decide +kernel
theorem d_M_init_226 : decode b_M_init 226 = .ok (.getfield 7, 3) := by decide +kernel
theorem d_M_init_229 : decode b_M_init 229 = .ok (.bipush 24, 2) := by decide +kernel
theorem d_M_init_231 : decode b_M_init 231 = .ok (.iload 4, 2) := by decide +kernel
theorem d_M_init_233 : decode b_M_init 233 = .ok (.isub, 1) := by decide +kernel
theorem d_M_init_234 : decode b_M_init 234 = .ok (.aload_n 0, 1) := by decide +kernel
theorem d_M_init_235 : decode b_M_init 235 = .ok (.getfield 7, 3) := by decide +kernel
theorem d_M_init_238 : decode b_M_init 238 = .ok (.bipush 25, 2) := by decide +kernel
theorem d_M_init_240 : decode b_M_init 240 = .ok (.iload 4, 2) := by decide +kernel
theorem d_M_init_242 : decode b_M_init 242 = .ok (.isub, 1) := by decide +kernel
theorem d_M_init_243 : decode b_M_init 243 = .ok (.laload, 1) := by decide +kernel
theorem d_M_init_244 : decode b_M_init 244 = .ok (.ldc2_w 62, 3) := by decide +kernel
theorem d_M_init_247 : decode b_M_init 247 = .ok (.lmul, 1) := by decide +kernel
theorem d_M_init_248 : decode b_M_init 248 = .ok (.ldc2_w 60, 3) := by decide +kernel
theorem d_M_init_251 : decode b_M_init 251 = .ok (.ldiv, 1) := by decide +kernel
theorem d_M_init_252 : decode b_M_init 252 = .ok (.lastore, 1) := by decide +kernel
theorem d_M_init_253 : decode b_M_init 253 = .ok (.iinc 4 1, 3) := by decide +kernel
theorem d_M_init_256 : decode b_M_init 256 = .ok (.goto (-66), 3) := by decide +kernel
theorem d_M_init_259 : decode b_M_init 259 = .ok (.return_, 1) := by decide +kernel
theorem d_M_isStep_0 : decode b_M_isStep 0 = .ok (.iload_n 0, 1) := by decide +kernel
theorem d_M_isStep_1 : decode b_M_isStep 1 = .ok (.bipush (-24), 2) := by decide +kernel
theorem d_M_isStep_3 : decode b_M_isStep 3 = .ok (.if_icmp .lt 13, 3) := by decide +kernel
theorem d_M_isStep_6 : decode b_M_isStep 6 = .ok (.iload_n 0, 1) := by decide +kernel
theorem d_M_isStep_7 : decode b_M_isStep 7 = .ok (.bipush 24, 2) := by decide +kernel
theorem d_M_isStep_9 : decode b_M_isStep 9 = .ok (.if_icmp .gt 7, 3) := by decide +kernel
theorem d_M_isStep_12 : decode b_M_isStep 12 = .ok (.iconst 1, 1) := by decide +kernel
theorem d_M_isStep_13 : decode b_M_isStep 13 = .ok (.goto 4, 3) := by decide +kernel
theorem d_M_isStep_16 : decode b_M_isStep 16 = .ok (.iconst 0, 1) := by decide +kernel
theorem d_M_isStep_17 : decode b_M_isStep 17 = .ok (.ireturn, 1) := by decide +kernel
theorem d_M_price_0 : decode b_M_price 0 = .ok (.aload_n 0, 1) := by decide +kernel
theorem d_M_price_1 : decode b_M_price 1 = .ok (.getfield 7, 3) := by decide +kernel
theorem d_M_price_4 : decode b_M_price 4 = .ok (.iload_n 1, 1) := by decide +kernel
theorem d_M_price_5 : decode b_M_price 5 = .ok (.bipush 24, 2) := by decide +kernel
theorem d_M_price_7 : decode b_M_price 7 = .ok (.iadd, 1) := by decide +kernel
theorem d_M_price_8 : decode b_M_price 8 = .ok (.laload, 1) := by decide +kernel
theorem d_M_price_9 : decode b_M_price 9 = .ok (.lreturn, 1) := by decide +kernel
theorem d_M_quotient_0 : decode b_M_quotient 0 = .ok (.iload 4, 2) := by decide +kernel
theorem d_M_quotient_2 : decode b_M_quotient 2 = .ok (.ifCond .eq 13, 3) := by decide +kernel
theorem d_M_quotient_5 : decode b_M_quotient 5 = .ok (.lload_n 0, 1) := by decide +kernel
theorem d_M_quotient_6 : decode b_M_quotient 6 = .ok (.lload_n 2, 1) := by decide +kernel
theorem d_M_quotient_7 : decode b_M_quotient 7 = .ok (.ladd, 1) := by decide +kernel
theorem d_M_quotient_8 : decode b_M_quotient 8 = .ok (.lconst 1, 1) := by decide +kernel
theorem d_M_quotient_9 : decode b_M_quotient 9 = .ok (.lsub, 1) := by decide +kernel
theorem d_M_quotient_10 : decode b_M_quotient 10 = .ok (.lload_n 2, 1) := by decide +kernel
theorem d_M_quotient_11 : decode b_M_quotient 11 = .ok (.ldiv, 1) := by decide +kernel
theorem d_M_quotient_12 : decode b_M_quotient 12 = .ok (.goto 6, 3) := by decide +kernel
theorem d_M_quotient_15 : decode b_M_quotient 15 = .ok (.lload_n 0, 1) := by decide +kernel
theorem d_M_quotient_16 : decode b_M_quotient 16 = .ok (.lload_n 2, 1) := by decide +kernel
theorem d_M_quotient_17 : decode b_M_quotient 17 = .ok (.ldiv, 1) := by decide +kernel
theorem d_M_quotient_18 : decode b_M_quotient 18 = .ok (.lreturn, 1) := by decide +kernel
theorem d_M_zero_0 : decode b_M_zero 0 = .ok (.lload 4, 2) := by decide +kernel
theorem d_M_zero_2 : decode b_M_zero 2 = .ok (.ldc2_w 58, 3) := by decide +kernel
theorem d_M_zero_5 : decode b_M_zero 5 = .ok (.lmul, 1) := by decide +kernel
theorem d_M_zero_6 : decode b_M_zero 6 = .ok (.lload_n 2, 1) := by decide +kernel
theorem d_M_zero_7 : decode b_M_zero 7 = .ok (.lload_n 0, 1) := by decide +kernel
theorem d_M_zero_8 : decode b_M_zero 8 = .ok (.lsub, 1) := by decide +kernel
theorem d_M_zero_9 : decode b_M_zero 9 = .ok (.lmul, 1) := by decide +kernel
theorem d_M_zero_10 : decode b_M_zero 10 = .ok (.lload_n 0, 1) := by decide +kernel
theorem d_M_zero_11 : decode b_M_zero 11 = .ok (.lload_n 2, 1) := by decide +kernel
theorem d_M_zero_12 : decode b_M_zero 12 = .ok (.lmul, 1) := by decide +kernel
theorem d_M_zero_13 : decode b_M_zero 13 = .ok (.iload 6, 2) := by decide +kernel
theorem d_M_zero_15 : decode b_M_zero 15 = .ok (.invokestatic 64, 3) := by decide +kernel
theorem d_M_zero_18 : decode b_M_zero 18 = .ok (.lreturn, 1) := by decide +kernel
theorem d_M_one_0 : decode b_M_one 0 = .ok (.lload 4, 2) := by decide +kernel
theorem d_M_one_2 : decode b_M_one 2 = .ok (.lload_n 2, 1) := by decide +kernel
theorem d_M_one_3 : decode b_M_one 3 = .ok (.lload_n 0, 1) := by decide +kernel
theorem d_M_one_4 : decode b_M_one 4 = .ok (.lsub, 1) := by decide +kernel
theorem d_M_one_5 : decode b_M_one 5 = .ok (.lmul, 1) := by decide +kernel
theorem d_M_one_6 : decode b_M_one 6 = .ok (.ldc2_w 58, 3) := by decide +kernel
theorem d_M_one_9 : decode b_M_one 9 = .ok (.iload 6, 2) := by decide +kernel
theorem d_M_one_11 : decode b_M_one 11 = .ok (.invokestatic 64, 3) := by decide +kernel
theorem d_M_one_14 : decode b_M_one 14 = .ok (.lreturn, 1) := by decide +kernel
theorem d_M_note_0 : decode b_M_note 0 = .ok (.aload_n 0, 1) := by decide +kernel
theorem d_M_note_1 : decode b_M_note 1 = .ok (.getfield 68, 3) := by decide +kernel
theorem d_M_note_4 : decode b_M_note 4 = .ok (.ifCond .le 23, 3) := by decide +kernel
theorem d_M_note_7 : decode b_M_note 7 = .ok (.aload_n 0, 1) := by decide +kernel
theorem d_M_note_8 : decode b_M_note 8 = .ok (.getfield 42, 3) := by decide +kernel
theorem d_M_note_11 : decode b_M_note 11 = .ok (.aload_n 0, 1) := by decide +kernel
theorem d_M_note_12 : decode b_M_note 12 = .ok (.getfield 68, 3) := by decide +kernel
theorem d_M_note_15 : decode b_M_note 15 = .ok (.iconst 1, 1) := by decide +kernel
theorem d_M_note_16 : decode b_M_note 16 = .ok (.isub, 1) := by decide +kernel
theorem d_M_note_17 : decode b_M_note 17 = .ok (.laload, 1) := by decide +kernel
theorem d_M_note_18 : decode b_M_note 18 = .ok (.aload_n 0, 1) := by decide +kernel
theorem d_M_note_19 : decode b_M_note 19 = .ok (.getfield 71, 3) := by decide +kernel
theorem d_M_note_22 : decode b_M_note 22 = .ok (.lcmp, 1) := by decide +kernel
theorem d_M_note_23 : decode b_M_note 23 = .ok (.ifCond .ne 4, 3) := by decide +kernel
theorem d_M_note_26 : decode b_M_note 26 = .ok (.return_, 1) := by decide +kernel
theorem d_M_note_27 : decode b_M_note 27 = .ok (.aload_n 0, 1) := by decide +kernel
theorem d_M_note_28 : decode b_M_note 28 = .ok (.getfield 68, 3) := by decide +kernel
theorem d_M_note_31 : decode b_M_note 31 = .ok (.bipush 8, 2) := by decide +kernel
theorem d_M_note_33 : decode b_M_note 33 = .ok (.if_icmp .ne 51, 3) := by decide +kernel
theorem d_M_note_36 : decode b_M_note 36 = .ok (.iconst 0, 1) := by decide +kernel
theorem d_M_note_37 : decode b_M_note 37 = .ok (.istore_n 1, 1) := by decide +kernel
theorem d_M_note_38 : decode b_M_note 38 = .ok (.iload_n 1, 1) := by decide +kernel
theorem d_M_note_39 : decode b_M_note 39 = .ok (.bipush 7, 2) := by decide +kernel
theorem d_M_note_41 : decode b_M_note 41 = .ok (.if_icmp .ge 37, 3) := by decide +kernel
theorem d_M_note_44 : decode b_M_note 44 = .ok (.aload_n 0, 1) := by decide +kernel
theorem d_M_note_45 : decode b_M_note 45 = .ok (.getfield 42, 3) := by decide +kernel
theorem d_M_note_48 : decode b_M_note 48 = .ok (.iload_n 1, 1) := by decide +kernel
theorem d_M_note_49 : decode b_M_note 49 = .ok (.aload_n 0, 1) := by decide +kernel
theorem d_M_note_50 : decode b_M_note 50 = .ok (.getfield 42, 3) := by decide +kernel
theorem d_M_note_53 : decode b_M_note 53 = .ok (.iload_n 1, 1) := by decide +kernel
theorem d_M_note_54 : decode b_M_note 54 = .ok (.iconst 1, 1) := by decide +kernel
theorem d_M_note_55 : decode b_M_note 55 = .ok (.iadd, 1) := by decide +kernel
theorem d_M_note_56 : decode b_M_note 56 = .ok (.laload, 1) := by decide +kernel
theorem d_M_note_57 : decode b_M_note 57 = .ok (.lastore, 1) := by decide +kernel
theorem d_M_note_58 : decode b_M_note 58 = .ok (.aload_n 0, 1) := by decide +kernel
theorem d_M_note_59 : decode b_M_note 59 = .ok (.getfield 45, 3) := by decide +kernel
theorem d_M_note_62 : decode b_M_note 62 = .ok (.iload_n 1, 1) := by decide +kernel
theorem d_M_note_63 : decode b_M_note 63 = .ok (.aload_n 0, 1) := by decide +kernel
theorem d_M_note_64 : decode b_M_note 64 = .ok (.getfield 45, 3) := by decide +kernel
theorem d_M_note_67 : decode b_M_note 67 = .ok (.iload_n 1, 1) := by decide +kernel
theorem d_M_note_68 : decode b_M_note 68 = .ok (.iconst 1, 1) := by decide +kernel
theorem d_M_note_69 : decode b_M_note 69 = .ok (.iadd, 1) := by decide +kernel
theorem d_M_note_70 : decode b_M_note 70 = .ok (.laload, 1) := by decide +kernel
theorem d_M_note_71 : decode b_M_note 71 = .ok (.lastore, 1) := by decide +kernel
theorem d_M_note_72 : decode b_M_note 72 = .ok (.iinc 1 1, 3) := by decide +kernel
theorem d_M_note_75 : decode b_M_note 75 = .ok (.goto (-37), 3) := by decide +kernel
theorem d_M_note_78 : decode b_M_note 78 = .ok (.aload_n 0, 1) := by decide +kernel
theorem d_M_note_79 : decode b_M_note 79 = .ok (.bipush 7, 2) := by decide +kernel
theorem d_M_note_81 : decode b_M_note 81 = .ok (.putfield 68, 3) := by decide +kernel
theorem d_M_note_84 : decode b_M_note 84 = .ok (.aload_n 0, 1) := by decide +kernel
theorem d_M_note_85 : decode b_M_note 85 = .ok (.getfield 42, 3) := by decide +kernel
theorem d_M_note_88 : decode b_M_note 88 = .ok (.aload_n 0, 1) := by decide +kernel
theorem d_M_note_89 : decode b_M_note 89 = .ok (.getfield 68, 3) := by decide +kernel
theorem d_M_note_92 : decode b_M_note 92 = .ok (.aload_n 0, 1) := by decide +kernel
theorem d_M_note_93 : decode b_M_note 93 = .ok (.getfield 71, 3) := by decide +kernel
theorem d_M_note_96 : decode b_M_note 96 = .ok (.lastore, 1) := by decide +kernel
theorem d_M_note_97 : decode b_M_note 97 = .ok (.aload_n 0, 1) := by decide +kernel
theorem d_M_note_98 : decode b_M_note 98 = .ok (.getfield 45, 3) := by decide +kernel
theorem d_M_note_101 : decode b_M_note 101 = .ok (.aload_n 0, 1) := by decide +kernel
theorem d_M_note_102 : decode b_M_note 102 = .ok (.getfield 68, 3) := by decide +kernel
theorem d_M_note_105 : decode b_M_note 105 = .ok (.aload_n 0, 1) := by decide +kernel
theorem d_M_note_106 : decode b_M_note 106 = .ok (.getfield 75, 3) := by decide +kernel
theorem d_M_note_109 : decode b_M_note 109 = .ok (.lastore, 1) := by decide +kernel
theorem d_M_note_110 : decode b_M_note 110 = .ok (.aload_n 0, 1) := by decide +kernel
theorem d_M_note_111 : decode b_M_note 111 = .ok (.dup, 1) := by decide +kernel
theorem d_M_note_112 : decode b_M_note 112 = .ok (.getfield 68, 3) := by decide +kernel
theorem d_M_note_115 : decode b_M_note 115 = .ok (.iconst 1, 1) := by decide +kernel
theorem d_M_note_116 : decode b_M_note 116 = .ok (.iadd, 1) := by decide +kernel
theorem d_M_note_117 : decode b_M_note 117 = .ok (.putfield 68, 3) := by decide +kernel
theorem d_M_note_120 : decode b_M_note 120 = .ok (.return_, 1) := by decide +kernel
theorem d_M_open_0 : decode b_M_open 0 = .ok (.aload_n 0, 1) := by decide +kernel
theorem d_M_open_1 : decode b_M_open 1 = .ok (.getfield 78, 3) := by decide +kernel
theorem d_M_open_4 : decode b_M_open 4 = .ok (.ifCond .ne 10, 3) := by decide +kernel
theorem d_M_open_7 : decode b_M_open 7 = .ok (.iload_n 1, 1) := by decide +kernel
theorem d_M_open_8 : decode b_M_open 8 = .ok (.invokestatic 82, 3) := by decide +kernel
theorem d_M_open_11 : decode b_M_open 11 = .ok (.ifCond .ne 5, 3) := by decide +kernel
theorem d_M_open_14 : decode b_M_open 14 = .ok (.iconst 0, 1) := by decide +kernel
theorem d_M_open_15 : decode b_M_open 15 = .ok (.ireturn, 1) := by decide +kernel
theorem d_M_open_16 : decode b_M_open 16 = .ok (.aload_n 0, 1) := by decide +kernel
theorem d_M_open_17 : decode b_M_open 17 = .ok (.iconst 1, 1) := by decide +kernel
theorem d_M_open_18 : decode b_M_open 18 = .ok (.putfield 78, 3) := by decide +kernel
theorem d_M_open_21 : decode b_M_open 21 = .ok (.aload_n 0, 1) := by decide +kernel
theorem d_M_open_22 : decode b_M_open 22 = .ok (.iload_n 1, 1) := by decide +kernel
theorem d_M_open_23 : decode b_M_open 23 = .ok (.putfield 86, 3) := by decide +kernel
theorem d_M_open_26 : decode b_M_open 26 = .ok (.aload_n 0, 1) := by decide +kernel
theorem d_M_open_27 : decode b_M_open 27 = .ok (.aload_n 0, 1) := by decide +kernel
theorem d_M_open_28 : decode b_M_open 28 = .ok (.iload_n 1, 1) := by decide +kernel
theorem d_M_open_29 : decode b_M_open 29 = .ok (.invokevirtual 89, 3) := by decide +kernel
theorem d_M_open_32 : decode b_M_open 32 = .ok (.putfield 93, 3) := by decide +kernel
theorem d_M_open_35 : decode b_M_open 35 = .ok (.aload_n 0, 1) := by decide +kernel
theorem d_M_open_36 : decode b_M_open 36 = .ok (.invokevirtual 96, 3) := by decide +kernel
theorem d_M_open_39 : decode b_M_open 39 = .ok (.iconst 1, 1) := by decide +kernel
theorem d_M_open_40 : decode b_M_open 40 = .ok (.ireturn, 1) := by decide +kernel
theorem d_M_isOwner_0 : decode b_M_isOwner 0 = .ok (.iload_n 0, 1) := by decide +kernel
theorem d_M_isOwner_1 : decode b_M_isOwner 1 = .ok (.ifCond .lt 12, 3) := by decide +kernel
theorem d_M_isOwner_4 : decode b_M_isOwner 4 = .ok (.iload_n 0, 1) := by decide +kernel
theorem d_M_isOwner_5 : decode b_M_isOwner 5 = .ok (.iconst 3, 1) := by decide +kernel
theorem d_M_isOwner_6 : decode b_M_isOwner 6 = .ok (.if_icmp .gt 7, 3) := by decide +kernel
theorem d_M_isOwner_9 : decode b_M_isOwner 9 = .ok (.iconst 1, 1) := by decide +kernel
theorem d_M_isOwner_10 : decode b_M_isOwner 10 = .ok (.goto 4, 3) := by decide +kernel
theorem d_M_isOwner_13 : decode b_M_isOwner 13 = .ok (.iconst 0, 1) := by decide +kernel
theorem d_M_isOwner_14 : decode b_M_isOwner 14 = .ok (.ireturn, 1) := by decide +kernel
theorem d_M_fund_0 : decode b_M_fund 0 = .ok (.iload_n 1, 1) := by decide +kernel
theorem d_M_fund_1 : decode b_M_fund 1 = .ok (.invokestatic 99, 3) := by decide +kernel
theorem d_M_fund_4 : decode b_M_fund 4 = .ok (.ifCond .eq 22, 3) := by decide +kernel
theorem d_M_fund_7 : decode b_M_fund 7 = .ok (.iload_n 2, 1) := by decide +kernel
theorem d_M_fund_8 : decode b_M_fund 8 = .ok (.ifCond .lt 18, 3) := by decide +kernel
theorem d_M_fund_11 : decode b_M_fund 11 = .ok (.iload_n 2, 1) := by decide +kernel
theorem d_M_fund_12 : decode b_M_fund 12 = .ok (.iconst 1, 1) := by decide +kernel
theorem d_M_fund_13 : decode b_M_fund 13 = .ok (.if_icmp .gt 13, 3) := by decide +kernel
theorem d_M_fund_16 : decode b_M_fund 16 = .ok (.iload_n 3, 1) := by decide +kernel
theorem d_M_fund_17 : decode b_M_fund 17 = .ok (.ifCond .lt 9, 3) := by decide +kernel
theorem d_M_fund_20 : decode b_M_fund 20 = .ok (.iload_n 3, 1) := by decide +kernel
theorem d_M_fund_21 : decode b_M_fund 21 = .ok (.ldc 102, 2) := by decide +kernel
theorem d_M_fund_23 : decode b_M_fund 23 = .ok (.if_icmp .le 5, 3) := by decide +kernel
theorem d_M_fund_26 : decode b_M_fund 26 = .ok (.iconst 0, 1) := by decide +kernel
theorem d_M_fund_27 : decode b_M_fund 27 = .ok (.ireturn, 1) := by decide +kernel
theorem d_M_fund_28 : decode b_M_fund 28 = .ok (.aload_n 0, 1) := by decide +kernel
theorem d_M_fund_29 : decode b_M_fund 29 = .ok (.getfield 13, 3) := by decide +kernel
theorem d_M_fund_32 : decode b_M_fund 32 = .ok (.iconst 2, 1) := by decide +kernel
theorem d_M_fund_33 : decode b_M_fund 33 = .ok (.iload_n 1, 1) := by decide +kernel
theorem d_M_fund_34 : decode b_M_fund 34 = .ok (.imul, 1) := by decide +kernel
theorem d_M_fund_35 : decode b_M_fund 35 = .ok (.iload_n 2, 1) := by decide +kernel
theorem d_M_fund_36 : decode b_M_fund 36 = .ok (.iadd, 1) := by decide +kernel
theorem d_M_fund_37 : decode b_M_fund 37 = .ok (.dup2, 1) := by decide +kernel
theorem d_M_fund_38 : decode b_M_fund 38 = .ok (.laload, 1) := by decide +kernel
theorem d_M_fund_39 : decode b_M_fund 39 = .ok (.iload_n 3, 1) := by decide +kernel
theorem d_M_fund_40 : decode b_M_fund 40 = .ok (.i2l, 1) := by decide +kernel
theorem d_M_fund_41 : decode b_M_fund 41 = .ok (.ladd, 1) := by decide +kernel
theorem d_M_fund_42 : decode b_M_fund 42 = .ok (.lastore, 1) := by decide +kernel
theorem d_M_fund_43 : decode b_M_fund 43 = .ok (.iconst 1, 1) := by decide +kernel
theorem d_M_fund_44 : decode b_M_fund 44 = .ok (.ireturn, 1) := by decide +kernel
theorem d_M_find_0 : decode b_M_find 0 = .ok (.iconst 0, 1) := by decide +kernel
theorem d_M_find_1 : decode b_M_find 1 = .ok (.istore 4, 2) := by decide +kernel
theorem d_M_find_3 : decode b_M_find 3 = .ok (.iload 4, 2) := by decide +kernel
theorem d_M_find_5 : decode b_M_find 5 = .ok (.bipush 10, 2) := by decide +kernel
theorem d_M_find_7 : decode b_M_find 7 = .ok (.if_icmp .ge 55, 3) := by decide +kernel
theorem d_M_find_10 : decode b_M_find 10 = .ok (.aload_n 0, 1) := by decide +kernel
theorem d_M_find_11 : decode b_M_find 11 = .ok (.getfield 19, 3) := by decide +kernel
theorem d_M_find_14 : decode b_M_find 14 = .ok (.iload 4, 2) := by decide +kernel
theorem d_M_find_16 : decode b_M_find 16 = .ok (.baload, 1) := by decide +kernel
theorem d_M_find_17 : decode b_M_find 17 = .ok (.ifCond .eq 39, 3) := by decide +kernel
theorem d_M_find_20 : decode b_M_find 20 = .ok (.aload_n 0, 1) := by decide +kernel
theorem d_M_find_21 : decode b_M_find 21 = .ok (.getfield 23, 3) := by decide +kernel
theorem d_M_find_24 : decode b_M_find 24 = .ok (.iload 4, 2) := by decide +kernel
theorem d_M_find_26 : decode b_M_find 26 = .ok (.iaload, 1) := by decide +kernel
theorem d_M_find_27 : decode b_M_find 27 = .ok (.iload_n 1, 1) := by decide +kernel
theorem d_M_find_28 : decode b_M_find 28 = .ok (.if_icmp .ne 28, 3) := by decide +kernel
theorem d_M_find_31 : decode b_M_find 31 = .ok (.aload_n 0, 1) := by decide +kernel
theorem d_M_find_32 : decode b_M_find 32 = .ok (.getfield 27, 3) := by decide +kernel
theorem d_M_find_35 : decode b_M_find 35 = .ok (.iload 4, 2) := by decide +kernel
theorem d_M_find_37 : decode b_M_find 37 = .ok (.iaload, 1) := by decide +kernel
theorem d_M_find_38 : decode b_M_find 38 = .ok (.iload_n 2, 1) := by decide +kernel
theorem d_M_find_39 : decode b_M_find 39 = .ok (.if_icmp .ne 17, 3) := by decide +kernel
theorem d_M_find_42 : decode b_M_find 42 = .ok (.aload_n 0, 1) := by decide +kernel
theorem d_M_find_43 : decode b_M_find 43 = .ok (.getfield 30, 3) := by decide +kernel
theorem d_M_find_46 : decode b_M_find 46 = .ok (.iload 4, 2) := by decide +kernel
theorem d_M_find_48 : decode b_M_find 48 = .ok (.iaload, 1) := by decide +kernel
theorem d_M_find_49 : decode b_M_find 49 = .ok (.iload_n 3, 1) := by decide +kernel
theorem d_M_find_50 : decode b_M_find 50 = .ok (.if_icmp .ne 6, 3) := by decide +kernel
theorem d_M_find_53 : decode b_M_find 53 = .ok (.iload 4, 2) := by decide +kernel
theorem d_M_find_55 : decode b_M_find 55 = .ok (.ireturn, 1) := by decide +kernel
theorem d_M_find_56 : decode b_M_find 56 = .ok (.iinc 4 1, 3) := by decide +kernel
theorem d_M_find_59 : decode b_M_find 59 = .ok (.goto (-56), 3) := by decide +kernel
theorem d_M_find_62 : decode b_M_find 62 = .ok (.iconst (-1), 1) := by decide +kernel
theorem d_M_find_63 : decode b_M_find 63 = .ok (.ireturn, 1) := by decide +kernel
theorem d_M_depthAt_0 : decode b_M_depthAt 0 = .ok (.lconst 0, 1) := by decide +kernel
theorem d_M_depthAt_1 : decode b_M_depthAt 1 = .ok (.lstore_n 2, 1) := by decide +kernel
theorem d_M_depthAt_2 : decode b_M_depthAt 2 = .ok (.iconst 0, 1) := by decide +kernel
theorem d_M_depthAt_3 : decode b_M_depthAt 3 = .ok (.istore 4, 2) := by decide +kernel
theorem d_M_depthAt_5 : decode b_M_depthAt 5 = .ok (.iload 4, 2) := by decide +kernel
theorem d_M_depthAt_7 : decode b_M_depthAt 7 = .ok (.bipush 10, 2) := by decide +kernel
theorem d_M_depthAt_9 : decode b_M_depthAt 9 = .ok (.if_icmp .ge 55, 3) := by decide +kernel
theorem d_M_depthAt_12 : decode b_M_depthAt 12 = .ok (.lload_n 2, 1) := by decide +kernel
theorem d_M_depthAt_13 : decode b_M_depthAt 13 = .ok (.aload_n 0, 1) := by decide +kernel
theorem d_M_depthAt_14 : decode b_M_depthAt 14 = .ok (.getfield 19, 3) := by decide +kernel
theorem d_M_depthAt_17 : decode b_M_depthAt 17 = .ok (.iload 4, 2) := by decide +kernel
theorem d_M_depthAt_19 : decode b_M_depthAt 19 = .ok (.baload, 1) := by decide +kernel
theorem d_M_depthAt_20 : decode b_M_depthAt 20 = .ok (.ifCond .eq 35, 3) := by decide +kernel
theorem d_M_depthAt_23 : decode b_M_depthAt 23 = .ok (.aload_n 0, 1) := by decide +kernel
theorem d_M_depthAt_24 : decode b_M_depthAt 24 = .ok (.getfield 27, 3) := by decide +kernel
theorem d_M_depthAt_27 : decode b_M_depthAt 27 = .ok (.iload 4, 2) := by decide +kernel
theorem d_M_depthAt_29 : decode b_M_depthAt 29 = .ok (.iaload, 1) := by decide +kernel
theorem d_M_depthAt_30 : decode b_M_depthAt 30 = .ok (.iload_n 1, 1) := by decide +kernel
theorem d_M_depthAt_31 : decode b_M_depthAt 31 = .ok (.if_icmp .gt 24, 3) := by decide +kernel
theorem d_M_depthAt_34 : decode b_M_depthAt 34 = .ok (.iload_n 1, 1) := by decide +kernel
theorem d_M_depthAt_35 : decode b_M_depthAt 35 = .ok (.aload_n 0, 1) := by decide +kernel
theorem d_M_depthAt_36 : decode b_M_depthAt 36 = .ok (.getfield 30, 3) := by decide +kernel
theorem d_M_depthAt_39 : decode b_M_depthAt 39 = .ok (.iload 4, 2) := by decide +kernel
theorem d_M_depthAt_41 : decode b_M_depthAt 41 = .ok (.iaload, 1) := by decide +kernel
theorem d_M_depthAt_42 : decode b_M_depthAt 42 = .ok (.if_icmp .ge 13, 3) := by decide +kernel
theorem d_M_depthAt_45 : decode b_M_depthAt 45 = .ok (.aload_n 0, 1) := by decide +kernel
theorem d_M_depthAt_46 : decode b_M_depthAt 46 = .ok (.getfield 33, 3) := by decide +kernel
theorem d_M_depthAt_49 : decode b_M_depthAt 49 = .ok (.iload 4, 2) := by decide +kernel
theorem d_M_depthAt_51 : decode b_M_depthAt 51 = .ok (.laload, 1) := by decide +kernel
theorem d_M_depthAt_52 : decode b_M_depthAt 52 = .ok (.goto 4, 3) := by decide +kernel
theorem d_M_depthAt_55 : decode b_M_depthAt 55 = .ok (.lconst 0, 1) := by decide +kernel
theorem d_M_depthAt_56 : decode b_M_depthAt 56 = .ok (.ladd, 1) := by decide +kernel
theorem d_M_depthAt_57 : decode b_M_depthAt 57 = .ok (.lstore_n 2, 1) := by decide +kernel
theorem d_M_depthAt_58 : decode b_M_depthAt 58 = .ok (.iinc 4 1, 3) := by decide +kernel
theorem d_M_depthAt_61 : decode b_M_depthAt 61 = .ok (.goto (-56), 3) := by decide +kernel
theorem d_M_depthAt_64 : decode b_M_depthAt 64 = .ok (.lload_n 2, 1) := by decide +kernel
theorem d_M_depthAt_65 : decode b_M_depthAt 65 = .ok (.lreturn, 1) := by decide +kernel
theorem d_M_settle_0 : decode b_M_settle 0 = .ok (.iconst 0, 1) := by decide +kernel
theorem d_M_settle_1 : decode b_M_settle 1 = .ok (.istore_n 2, 1) := by decide +kernel
theorem d_M_settle_2 : decode b_M_settle 2 = .ok (.iload_n 2, 1) := by decide +kernel
theorem d_M_settle_3 : decode b_M_settle 3 = .ok (.iconst 2, 1) := by decide +kernel
theorem d_M_settle_4 : decode b_M_settle 4 = .ok (.if_icmp .ge 54, 3) := by decide +kernel
theorem d_M_settle_7 : decode b_M_settle 7 = .ok (.aload_n 0, 1) := by decide +kernel
theorem d_M_settle_8 : decode b_M_settle 8 = .ok (.getfield 36, 3) := by decide +kernel
theorem d_M_settle_11 : decode b_M_settle 11 = .ok (.iconst 2, 1) := by decide +kernel
theorem d_M_settle_12 : decode b_M_settle 12 = .ok (.iload_n 1, 1) := by decide +kernel
theorem d_M_settle_13 : decode b_M_settle 13 = .ok (.imul, 1) := by decide +kernel
theorem d_M_settle_14 : decode b_M_settle 14 = .ok (.iload_n 2, 1) := by decide +kernel
theorem d_M_settle_15 : decode b_M_settle 15 = .ok (.iadd, 1) := by decide +kernel
theorem d_M_settle_16 : decode b_M_settle 16 = .ok (.dup2, 1) := by decide +kernel
theorem d_M_settle_17 : decode b_M_settle 17 = .ok (.laload, 1) := by decide +kernel
theorem d_M_settle_18 : decode b_M_settle 18 = .ok (.aload_n 0, 1) := by decide +kernel
theorem d_M_settle_19 : decode b_M_settle 19 = .ok (.getfield 39, 3) := by decide +kernel
theorem d_M_settle_22 : decode b_M_settle 22 = .ok (.iconst 2, 1) := by decide +kernel
theorem d_M_settle_23 : decode b_M_settle 23 = .ok (.iload_n 1, 1) := by decide +kernel
theorem d_M_settle_24 : decode b_M_settle 24 = .ok (.imul, 1) := by decide +kernel
theorem d_M_settle_25 : decode b_M_settle 25 = .ok (.iload_n 2, 1) := by decide +kernel
theorem d_M_settle_26 : decode b_M_settle 26 = .ok (.iadd, 1) := by decide +kernel
theorem d_M_settle_27 : decode b_M_settle 27 = .ok (.laload, 1) := by decide +kernel
theorem d_M_settle_28 : decode b_M_settle 28 = .ok (.aload_n 0, 1) := by decide +kernel
theorem d_M_settle_29 : decode b_M_settle 29 = .ok (.getfield 33, 3) := by decide +kernel
theorem d_M_settle_32 : decode b_M_settle 32 = .ok (.iload_n 1, 1) := by decide +kernel
theorem d_M_settle_33 : decode b_M_settle 33 = .ok (.laload, 1) := by decide +kernel
theorem d_M_settle_34 : decode b_M_settle 34 = .ok (.lmul, 1) := by decide +kernel
theorem d_M_settle_35 : decode b_M_settle 35 = .ok (.ldc2_w 103, 3) := by decide +kernel
theorem d_M_settle_38 : decode b_M_settle 38 = .ok (.ldiv, 1) := by decide +kernel
theorem d_M_settle_39 : decode b_M_settle 39 = .ok (.ladd, 1) := by decide +kernel
theorem d_M_settle_40 : decode b_M_settle 40 = .ok (.lastore, 1) := by decide +kernel
theorem d_M_settle_41 : decode b_M_settle 41 = .ok (.aload_n 0, 1) := by decide +kernel
theorem d_M_settle_42 : decode b_M_settle 42 = .ok (.getfield 39, 3) := by decide +kernel
theorem d_M_settle_45 : decode b_M_settle 45 = .ok (.iconst 2, 1) := by decide +kernel
theorem d_M_settle_46 : decode b_M_settle 46 = .ok (.iload_n 1, 1) := by decide +kernel
theorem d_M_settle_47 : decode b_M_settle 47 = .ok (.imul, 1) := by decide +kernel
theorem d_M_settle_48 : decode b_M_settle 48 = .ok (.iload_n 2, 1) := by decide +kernel
theorem d_M_settle_49 : decode b_M_settle 49 = .ok (.iadd, 1) := by decide +kernel
theorem d_M_settle_50 : decode b_M_settle 50 = .ok (.lconst 0, 1) := by decide +kernel
theorem d_M_settle_51 : decode b_M_settle 51 = .ok (.lastore, 1) := by decide +kernel
theorem d_M_settle_52 : decode b_M_settle 52 = .ok (.iinc 2 1, 3) := by decide +kernel
theorem d_M_settle_55 : decode b_M_settle 55 = .ok (.goto (-53), 3) := by decide +kernel
theorem d_M_settle_58 : decode b_M_settle 58 = .ok (.return_, 1) := by decide +kernel
theorem d_M_sweep_0 : decode b_M_sweep 0 = .ok (.aload_n 0, 1) := by decide +kernel
theorem d_M_sweep_1 : decode b_M_sweep 1 = .ok (.getfield 19, 3) := by decide +kernel
theorem d_M_sweep_4 : decode b_M_sweep 4 = .ok (.iload_n 1, 1) := by decide +kernel
theorem d_M_sweep_5 : decode b_M_sweep 5 = .ok (.aload_n 0, 1) := by decide +kernel
theorem d_M_sweep_6 : decode b_M_sweep 6 = .ok (.getfield 33, 3) := by decide +kernel
theorem d_M_sweep_9 : decode b_M_sweep 9 = .ok (.iload_n 1, 1) := by decide +kernel
theorem d_M_sweep_10 : decode b_M_sweep 10 = .ok (.laload, 1) := by decide +kernel
theorem d_M_sweep_11 : decode b_M_sweep 11 = .ok (.lconst 0, 1) := by decide +kernel
theorem d_M_sweep_12 : decode b_M_sweep 12 = .ok (.lcmp, 1) := by decide +kernel
theorem d_M_sweep_13 : decode b_M_sweep 13 = .ok (.ifCond .gt 31, 3) := by decide +kernel
theorem d_M_sweep_16 : decode b_M_sweep 16 = .ok (.aload_n 0, 1) := by decide +kernel
theorem d_M_sweep_17 : decode b_M_sweep 17 = .ok (.getfield 36, 3) := by decide +kernel
theorem d_M_sweep_20 : decode b_M_sweep 20 = .ok (.iconst 2, 1) := by decide +kernel
theorem d_M_sweep_21 : decode b_M_sweep 21 = .ok (.iload_n 1, 1) := by decide +kernel
theorem d_M_sweep_22 : decode b_M_sweep 22 = .ok (.imul, 1) := by decide +kernel
theorem d_M_sweep_23 : decode b_M_sweep 23 = .ok (.laload, 1) := by decide +kernel
theorem d_M_sweep_24 : decode b_M_sweep 24 = .ok (.lconst 0, 1) := by decide +kernel
theorem d_M_sweep_25 : decode b_M_sweep 25 = .ok (.lcmp, 1) := by decide +kernel
theorem d_M_sweep_26 : decode b_M_sweep 26 = .ok (.ifCond .gt 18, 3) := by decide +kernel
theorem d_M_sweep_29 : decode b_M_sweep 29 = .ok (.aload_n 0, 1) := by decide +kernel
theorem d_M_sweep_30 : decode b_M_sweep 30 = .ok (.getfield 36, 3) := by decide +kernel
theorem d_M_sweep_33 : decode b_M_sweep 33 = .ok (.iconst 2, 1) := by decide +kernel
theorem d_M_sweep_34 : decode b_M_sweep 34 = .ok (.iload_n 1, 1) := by decide +kernel
theorem d_M_sweep_35 : decode b_M_sweep 35 = .ok (.imul, 1) := by decide +kernel
theorem d_M_sweep_36 : decode b_M_sweep 36 = .ok (.iconst 1, 1) := by decide +kernel
theorem d_M_sweep_37 : decode b_M_sweep 37 = .ok (.iadd, 1) := by decide +kernel
theorem d_M_sweep_38 : decode b_M_sweep 38 = .ok (.laload, 1) := by decide +kernel
theorem d_M_sweep_39 : decode b_M_sweep 39 = .ok (.lconst 0, 1) := by decide +kernel
theorem d_M_sweep_40 : decode b_M_sweep 40 = .ok (.lcmp, 1) := by decide +kernel
theorem d_M_sweep_41 : decode b_M_sweep 41 = .ok (.ifCond .le 7, 3) := by decide +kernel
theorem d_M_sweep_44 : decode b_M_sweep 44 = .ok (.iconst 1, 1) := by decide +kernel
theorem d_M_sweep_45 : decode b_M_sweep 45 = .ok (.goto 4, 3) := by decide +kernel
theorem d_M_sweep_48 : decode b_M_sweep 48 = .ok (.iconst 0, 1) := by decide +kernel
theorem d_M_sweep_49 : decode b_M_sweep 49 = .ok (.bastore, 1) := by decide +kernel
theorem d_M_sweep_50 : decode b_M_sweep 50 = .ok (.return_, 1) := by decide +kernel
theorem d_M_worthZero_0 : decode b_M_worthZero 0 = .ok (.aload_n 0, 1) := by decide +kernel
theorem d_M_worthZero_1 : decode b_M_worthZero 1 = .ok (.getfield 86, 3) := by decide +kernel
theorem d_M_worthZero_4 : decode b_M_worthZero 4 = .ok (.iload_n 1, 1) := by decide +kernel
theorem d_M_worthZero_5 : decode b_M_worthZero 5 = .ok (.if_icmp .ge 22, 3) := by decide +kernel
theorem d_M_worthZero_8 : decode b_M_worthZero 8 = .ok (.aload_n 0, 1) := by decide +kernel
theorem d_M_worthZero_9 : decode b_M_worthZero 9 = .ok (.iload_n 1, 1) := by decide +kernel
theorem d_M_worthZero_10 : decode b_M_worthZero 10 = .ok (.invokevirtual 89, 3) := by decide +kernel
theorem d_M_worthZero_13 : decode b_M_worthZero 13 = .ok (.aload_n 0, 1) := by decide +kernel
theorem d_M_worthZero_14 : decode b_M_worthZero 14 = .ok (.iload_n 2, 1) := by decide +kernel
theorem d_M_worthZero_15 : decode b_M_worthZero 15 = .ok (.invokevirtual 89, 3) := by decide +kernel
theorem d_M_worthZero_18 : decode b_M_worthZero 18 = .ok (.lload_n 3, 1) := by decide +kernel
theorem d_M_worthZero_19 : decode b_M_worthZero 19 = .ok (.iload 5, 2) := by decide +kernel
theorem d_M_worthZero_21 : decode b_M_worthZero 21 = .ok (.invokestatic 105, 3) := by decide +kernel
theorem d_M_worthZero_24 : decode b_M_worthZero 24 = .ok (.goto 30, 3) := by decide +kernel
theorem d_M_worthZero_27 : decode b_M_worthZero 27 = .ok (.aload_n 0, 1) := by decide +kernel
theorem d_M_worthZero_28 : decode b_M_worthZero 28 = .ok (.getfield 86, 3) := by decide +kernel
theorem d_M_worthZero_31 : decode b_M_worthZero 31 = .ok (.iload_n 2, 1) := by decide +kernel
theorem d_M_worthZero_32 : decode b_M_worthZero 32 = .ok (.if_icmp .lt 7, 3) := by decide +kernel
theorem d_M_worthZero_35 : decode b_M_worthZero 35 = .ok (.lconst 0, 1) := by decide +kernel
theorem d_M_worthZero_36 : decode b_M_worthZero 36 = .ok (.goto 18, 3) := by decide +kernel
theorem d_M_worthZero_39 : decode b_M_worthZero 39 = .ok (.aload_n 0, 1) := by decide +kernel
theorem d_M_worthZero_40 : decode b_M_worthZero 40 = .ok (.getfield 93, 3) := by decide +kernel
theorem d_M_worthZero_43 : decode b_M_worthZero 43 = .ok (.aload_n 0, 1) := by decide +kernel
theorem d_M_worthZero_44 : decode b_M_worthZero 44 = .ok (.iload_n 2, 1) := by decide +kernel
theorem d_M_worthZero_45 : decode b_M_worthZero 45 = .ok (.invokevirtual 89, 3) := by decide +kernel
theorem d_M_worthZero_48 : decode b_M_worthZero 48 = .ok (.lload_n 3, 1) := by decide +kernel
theorem d_M_worthZero_49 : decode b_M_worthZero 49 = .ok (.iload 5, 2) := by decide +kernel
theorem d_M_worthZero_51 : decode b_M_worthZero 51 = .ok (.invokestatic 105, 3) := by decide +kernel
theorem d_M_worthZero_54 : decode b_M_worthZero 54 = .ok (.lreturn, 1) := by decide +kernel
theorem d_M_worthOne_0 : decode b_M_worthOne 0 = .ok (.aload_n 0, 1) := by decide +kernel
theorem d_M_worthOne_1 : decode b_M_worthOne 1 = .ok (.getfield 86, 3) := by decide +kernel
theorem d_M_worthOne_4 : decode b_M_worthOne 4 = .ok (.iload_n 1, 1) := by decide +kernel
theorem d_M_worthOne_5 : decode b_M_worthOne 5 = .ok (.if_icmp .ge 7, 3) := by decide +kernel
theorem d_M_worthOne_8 : decode b_M_worthOne 8 = .ok (.lconst 0, 1) := by decide +kernel
theorem d_M_worthOne_9 : decode b_M_worthOne 9 = .ok (.goto 45, 3) := by decide +kernel
theorem d_M_worthOne_12 : decode b_M_worthOne 12 = .ok (.aload_n 0, 1) := by decide +kernel
theorem d_M_worthOne_13 : decode b_M_worthOne 13 = .ok (.getfield 86, 3) := by decide +kernel
theorem d_M_worthOne_16 : decode b_M_worthOne 16 = .ok (.iload_n 2, 1) := by decide +kernel
theorem d_M_worthOne_17 : decode b_M_worthOne 17 = .ok (.if_icmp .lt 22, 3) := by decide +kernel
theorem d_M_worthOne_20 : decode b_M_worthOne 20 = .ok (.aload_n 0, 1) := by decide +kernel
theorem d_M_worthOne_21 : decode b_M_worthOne 21 = .ok (.iload_n 1, 1) := by decide +kernel
theorem d_M_worthOne_22 : decode b_M_worthOne 22 = .ok (.invokevirtual 89, 3) := by decide +kernel
theorem d_M_worthOne_25 : decode b_M_worthOne 25 = .ok (.aload_n 0, 1) := by decide +kernel
theorem d_M_worthOne_26 : decode b_M_worthOne 26 = .ok (.iload_n 2, 1) := by decide +kernel
theorem d_M_worthOne_27 : decode b_M_worthOne 27 = .ok (.invokevirtual 89, 3) := by decide +kernel
theorem d_M_worthOne_30 : decode b_M_worthOne 30 = .ok (.lload_n 3, 1) := by decide +kernel
theorem d_M_worthOne_31 : decode b_M_worthOne 31 = .ok (.iload 5, 2) := by decide +kernel
theorem d_M_worthOne_33 : decode b_M_worthOne 33 = .ok (.invokestatic 109, 3) := by decide +kernel
theorem d_M_worthOne_36 : decode b_M_worthOne 36 = .ok (.goto 18, 3) := by decide +kernel
theorem d_M_worthOne_39 : decode b_M_worthOne 39 = .ok (.aload_n 0, 1) := by decide +kernel
theorem d_M_worthOne_40 : decode b_M_worthOne 40 = .ok (.iload_n 1, 1) := by decide +kernel
theorem d_M_worthOne_41 : decode b_M_worthOne 41 = .ok (.invokevirtual 89, 3) := by decide +kernel
theorem d_M_worthOne_44 : decode b_M_worthOne 44 = .ok (.aload_n 0, 1) := by decide +kernel
theorem d_M_worthOne_45 : decode b_M_worthOne 45 = .ok (.getfield 93, 3) := by decide +kernel
theorem d_M_worthOne_48 : decode b_M_worthOne 48 = .ok (.lload_n 3, 1) := by decide +kernel
theorem d_M_worthOne_49 : decode b_M_worthOne 49 = .ok (.iload 5, 2) := by decide +kernel
theorem d_M_worthOne_51 : decode b_M_worthOne 51 = .ok (.invokestatic 109, 3) := by decide +kernel
theorem d_M_worthOne_54 : decode b_M_worthOne 54 = .ok (.lreturn, 1) := by decide +kernel
theorem d_M_isRange_0 : decode b_M_isRange 0 = .ok (.iload_n 1, 1) := by decide +kernel
theorem d_M_isRange_1 : decode b_M_isRange 1 = .ok (.invokestatic 82, 3) := by decide +kernel
theorem d_M_isRange_4 : decode b_M_isRange 4 = .ok (.ifCond .eq 37, 3) := by decide +kernel
theorem d_M_isRange_7 : decode b_M_isRange 7 = .ok (.iload_n 2, 1) := by decide +kernel
theorem d_M_isRange_8 : decode b_M_isRange 8 = .ok (.invokestatic 82, 3) := by decide +kernel
theorem d_M_isRange_11 : decode b_M_isRange 11 = .ok (.ifCond .eq 30, 3) := by decide +kernel
theorem d_M_isRange_14 : decode b_M_isRange 14 = .ok (.iload_n 1, 1) := by decide +kernel
theorem d_M_isRange_15 : decode b_M_isRange 15 = .ok (.iload_n 2, 1) := by decide +kernel
theorem d_M_isRange_16 : decode b_M_isRange 16 = .ok (.if_icmp .ge 25, 3) := by decide +kernel
theorem d_M_isRange_19 : decode b_M_isRange 19 = .ok (.iload_n 1, 1) := by decide +kernel
theorem d_M_isRange_20 : decode b_M_isRange 20 = .ok (.aload_n 0, 1) := by decide +kernel
theorem d_M_isRange_21 : decode b_M_isRange 21 = .ok (.getfield 51, 3) := by decide +kernel
theorem d_M_isRange_24 : decode b_M_isRange 24 = .ok (.irem, 1) := by decide +kernel
theorem d_M_isRange_25 : decode b_M_isRange 25 = .ok (.ifCond .ne 16, 3) := by decide +kernel
theorem d_M_isRange_28 : decode b_M_isRange 28 = .ok (.iload_n 2, 1) := by decide +kernel
theorem d_M_isRange_29 : decode b_M_isRange 29 = .ok (.aload_n 0, 1) := by decide +kernel
theorem d_M_isRange_30 : decode b_M_isRange 30 = .ok (.getfield 51, 3) := by decide +kernel
theorem d_M_isRange_33 : decode b_M_isRange 33 = .ok (.irem, 1) := by decide +kernel
theorem d_M_isRange_34 : decode b_M_isRange 34 = .ok (.ifCond .ne 7, 3) := by decide +kernel
theorem d_M_isRange_37 : decode b_M_isRange 37 = .ok (.iconst 1, 1) := by decide +kernel
theorem d_M_isRange_38 : decode b_M_isRange 38 = .ok (.goto 4, 3) := by decide +kernel
theorem d_M_isRange_41 : decode b_M_isRange 41 = .ok (.iconst 0, 1) := by decide +kernel
theorem d_M_isRange_42 : decode b_M_isRange 42 = .ok (.ireturn, 1) := by decide +kernel
theorem d_M_mint_0 : decode b_M_mint 0 = .ok (.aload_n 0, 1) := by decide +kernel
theorem d_M_mint_1 : decode b_M_mint 1 = .ok (.getfield 78, 3) := by decide +kernel
theorem d_M_mint_4 : decode b_M_mint 4 = .ok (.ifCond .ne 7, 3) := by decide +kernel
theorem d_M_mint_7 : decode b_M_mint 7 = .ok (.ldc2_w 112, 3) := by decide +kernel
theorem d_M_mint_10 : decode b_M_mint 10 = .ok (.lreturn, 1) := by decide +kernel
theorem d_M_mint_11 : decode b_M_mint 11 = .ok (.iload_n 1, 1) := by decide +kernel
theorem d_M_mint_12 : decode b_M_mint 12 = .ok (.invokestatic 99, 3) := by decide +kernel
theorem d_M_mint_15 : decode b_M_mint 15 = .ok (.ifCond .eq 25, 3) := by decide +kernel
theorem d_M_mint_18 : decode b_M_mint 18 = .ok (.aload_n 0, 1) := by decide +kernel
theorem d_M_mint_19 : decode b_M_mint 19 = .ok (.iload_n 2, 1) := by decide +kernel
theorem d_M_mint_20 : decode b_M_mint 20 = .ok (.iload_n 3, 1) := by decide +kernel
theorem d_M_mint_21 : decode b_M_mint 21 = .ok (.invokevirtual 114, 3) := by decide +kernel
theorem d_M_mint_24 : decode b_M_mint 24 = .ok (.ifCond .eq 16, 3) := by decide +kernel
theorem d_M_mint_27 : decode b_M_mint 27 = .ok (.iload 4, 2) := by decide +kernel
theorem d_M_mint_29 : decode b_M_mint 29 = .ok (.iconst 1, 1) := by decide +kernel
theorem d_M_mint_30 : decode b_M_mint 30 = .ok (.if_icmp .lt 10, 3) := by decide +kernel
theorem d_M_mint_33 : decode b_M_mint 33 = .ok (.iload 4, 2) := by decide +kernel
theorem d_M_mint_35 : decode b_M_mint 35 = .ok (.ldc 118, 2) := by decide +kernel
theorem d_M_mint_37 : decode b_M_mint 37 = .ok (.if_icmp .le 7, 3) := by decide +kernel
theorem d_M_mint_40 : decode b_M_mint 40 = .ok (.ldc2_w 119, 3) := by decide +kernel
theorem d_M_mint_43 : decode b_M_mint 43 = .ok (.lreturn, 1) := by decide +kernel
theorem d_M_mint_44 : decode b_M_mint 44 = .ok (.aload_n 0, 1) := by decide +kernel
theorem d_M_mint_45 : decode b_M_mint 45 = .ok (.iload_n 1, 1) := by decide +kernel
theorem d_M_mint_46 : decode b_M_mint 46 = .ok (.iload_n 2, 1) := by decide +kernel
theorem d_M_mint_47 : decode b_M_mint 47 = .ok (.iload_n 3, 1) := by decide +kernel
theorem d_M_mint_48 : decode b_M_mint 48 = .ok (.invokevirtual 121, 3) := by decide +kernel
theorem d_M_mint_51 : decode b_M_mint 51 = .ok (.istore 5, 2) := by decide +kernel
theorem d_M_mint_53 : decode b_M_mint 53 = .ok (.iconst (-1), 1) := by decide +kernel
theorem d_M_mint_54 : decode b_M_mint 54 = .ok (.istore 6, 2) := by decide +kernel
theorem d_M_mint_56 : decode b_M_mint 56 = .ok (.iload 4, 2) := by decide +kernel
theorem d_M_mint_58 : decode b_M_mint 58 = .ok (.i2l, 1) := by decide +kernel
theorem d_M_mint_59 : decode b_M_mint 59 = .ok (.lstore 7, 2) := by decide +kernel
theorem d_M_mint_61 : decode b_M_mint 61 = .ok (.bipush 9, 2) := by decide +kernel
theorem d_M_mint_63 : decode b_M_mint 63 = .ok (.istore 9, 2) := by decide +kernel
theorem d_M_mint_65 : decode b_M_mint 65 = .ok (.iload 9, 2) := by decide +kernel
theorem d_M_mint_67 : decode b_M_mint 67 = .ok (.ifCond .lt 54, 3) := by decide +kernel
theorem d_M_mint_70 : decode b_M_mint 70 = .ok (.aload_n 0, 1) := by decide +kernel
theorem d_M_mint_71 : decode b_M_mint 71 = .ok (.getfield 19, 3) := by decide +kernel
theorem d_M_mint_74 : decode b_M_mint 74 = .ok (.iload 9, 2) := by decide +kernel
theorem d_M_mint_76 : decode b_M_mint 76 = .ok (.baload, 1) := by decide +kernel
theorem d_M_mint_77 : decode b_M_mint 77 = .ok (.ifCond .eq 8, 3) := by decide +kernel
theorem d_M_mint_80 : decode b_M_mint 80 = .ok (.iload 6, 2) := by decide +kernel
theorem d_M_mint_82 : decode b_M_mint 82 = .ok (.goto 5, 3) := by decide +kernel
theorem d_M_mint_85 : decode b_M_mint 85 = .ok (.iload 9, 2) := by decide +kernel
theorem d_M_mint_87 : decode b_M_mint 87 = .ok (.istore 6, 2) := by decide +kernel
theorem d_M_mint_89 : decode b_M_mint 89 = .ok (.lload 7, 2) := by decide +kernel
theorem d_M_mint_91 : decode b_M_mint 91 = .ok (.aload_n 0, 1) := by decide +kernel
theorem d_M_mint_92 : decode b_M_mint 92 = .ok (.getfield 19, 3) := by decide +kernel
theorem d_M_mint_95 : decode b_M_mint 95 = .ok (.iload 9, 2) := by decide +kernel
theorem d_M_mint_97 : decode b_M_mint 97 = .ok (.baload, 1) := by decide +kernel
theorem d_M_mint_98 : decode b_M_mint 98 = .ok (.ifCond .eq 13, 3) := by decide +kernel
theorem d_M_mint_101 : decode b_M_mint 101 = .ok (.aload_n 0, 1) := by decide +kernel
theorem d_M_mint_102 : decode b_M_mint 102 = .ok (.getfield 33, 3) := by decide +kernel
theorem d_M_mint_105 : decode b_M_mint 105 = .ok (.iload 9, 2) := by decide +kernel
theorem d_M_mint_107 : decode b_M_mint 107 = .ok (.laload, 1) := by decide +kernel
theorem d_M_mint_108 : decode b_M_mint 108 = .ok (.goto 4, 3) := by decide +kernel
theorem d_M_mint_111 : decode b_M_mint 111 = .ok (.lconst 0, 1) := by decide +kernel
theorem d_M_mint_112 : decode b_M_mint 112 = .ok (.ladd, 1) := by decide +kernel
theorem d_M_mint_113 : decode b_M_mint 113 = .ok (.lstore 7, 2) := by decide +kernel
theorem d_M_mint_115 : decode b_M_mint 115 = .ok (.iinc 9 (-1), 3) := by decide +kernel
theorem d_M_mint_118 : decode b_M_mint 118 = .ok (.goto (-53), 3) := by decide +kernel
theorem d_M_mint_121 : decode b_M_mint 121 = .ok (.iload 5, 2) := by decide +kernel
theorem d_M_mint_123 : decode b_M_mint 123 = .ok (.ifCond .ge 8, 3) := by decide +kernel
theorem d_M_mint_126 : decode b_M_mint 126 = .ok (.iload 6, 2) := by decide +kernel
theorem d_M_mint_128 : decode b_M_mint 128 = .ok (.ifCond .lt 12, 3) := by decide +kernel
theorem d_M_mint_131 : decode b_M_mint 131 = .ok (.lload 7, 2) := by decide +kernel
theorem d_M_mint_133 : decode b_M_mint 133 = .ok (.ldc2_w 125, 3) := by decide +kernel
theorem d_M_mint_136 : decode b_M_mint 136 = .ok (.lcmp, 1) := by decide +kernel
theorem d_M_mint_137 : decode b_M_mint 137 = .ok (.ifCond .le 7, 3) := by decide +kernel
theorem d_M_mint_140 : decode b_M_mint 140 = .ok (.ldc2_w 127, 3) := by decide +kernel
theorem d_M_mint_143 : decode b_M_mint 143 = .ok (.lreturn, 1) := by decide +kernel
theorem d_M_mint_144 : decode b_M_mint 144 = .ok (.aload_n 0, 1) := by decide +kernel
theorem d_M_mint_145 : decode b_M_mint 145 = .ok (.iload_n 2, 1) := by decide +kernel
theorem d_M_mint_146 : decode b_M_mint 146 = .ok (.iload_n 3, 1) := by decide +kernel
theorem d_M_mint_147 : decode b_M_mint 147 = .ok (.iload 4, 2) := by decide +kernel
theorem d_M_mint_149 : decode b_M_mint 149 = .ok (.i2l, 1) := by decide +kernel
theorem d_M_mint_150 : decode b_M_mint 150 = .ok (.iconst 1, 1) := by decide +kernel
theorem d_M_mint_151 : decode b_M_mint 151 = .ok (.invokevirtual 129, 3) := by decide +kernel
theorem d_M_mint_154 : decode b_M_mint 154 = .ok (.lstore 9, 2) := by decide +kernel
theorem d_M_mint_156 : decode b_M_mint 156 = .ok (.aload_n 0, 1) := by decide +kernel
theorem d_M_mint_157 : decode b_M_mint 157 = .ok (.iload_n 2, 1) := by decide +kernel
theorem d_M_mint_158 : decode b_M_mint 158 = .ok (.iload_n 3, 1) := by decide +kernel
theorem d_M_mint_159 : decode b_M_mint 159 = .ok (.iload 4, 2) := by decide +kernel
theorem d_M_mint_161 : decode b_M_mint 161 = .ok (.i2l, 1) := by decide +kernel
theorem d_M_mint_162 : decode b_M_mint 162 = .ok (.iconst 1, 1) := by decide +kernel
theorem d_M_mint_163 : decode b_M_mint 163 = .ok (.invokevirtual 133, 3) := by decide +kernel
theorem d_M_mint_166 : decode b_M_mint 166 = .ok (.lstore 11, 2) := by decide +kernel
theorem d_M_mint_168 : decode b_M_mint 168 = .ok (.aload_n 0, 1) := by decide +kernel
theorem d_M_mint_169 : decode b_M_mint 169 = .ok (.getfield 13, 3) := by decide +kernel
theorem d_M_mint_172 : decode b_M_mint 172 = .ok (.iconst 2, 1) := by decide +kernel
theorem d_M_mint_173 : decode b_M_mint 173 = .ok (.iload_n 1, 1) := by decide +kernel
theorem d_M_mint_174 : decode b_M_mint 174 = .ok (.imul, 1) := by decide +kernel
theorem d_M_mint_175 : decode b_M_mint 175 = .ok (.laload, 1) := by decide +kernel
theorem d_M_mint_176 : decode b_M_mint 176 = .ok (.lload 9, 2) := by decide +kernel
theorem d_M_mint_178 : decode b_M_mint 178 = .ok (.lcmp, 1) := by decide +kernel
theorem d_M_mint_179 : decode b_M_mint 179 = .ok (.ifCond .lt 19, 3) := by decide +kernel
theorem d_M_mint_182 : decode b_M_mint 182 = .ok (.aload_n 0, 1) := by decide +kernel
theorem d_M_mint_183 : decode b_M_mint 183 = .ok (.getfield 13, 3) := by decide +kernel
theorem d_M_mint_186 : decode b_M_mint 186 = .ok (.iconst 2, 1) := by decide +kernel
theorem d_M_mint_187 : decode b_M_mint 187 = .ok (.iload_n 1, 1) := by decide +kernel
theorem d_M_mint_188 : decode b_M_mint 188 = .ok (.imul, 1) := by decide +kernel
theorem d_M_mint_189 : decode b_M_mint 189 = .ok (.iconst 1, 1) := by decide +kernel
theorem d_M_mint_190 : decode b_M_mint 190 = .ok (.iadd, 1) := by decide +kernel
theorem d_M_mint_191 : decode b_M_mint 191 = .ok (.laload, 1) := by decide +kernel
theorem d_M_mint_192 : decode b_M_mint 192 = .ok (.lload 11, 2) := by decide +kernel
theorem d_M_mint_194 : decode b_M_mint 194 = .ok (.lcmp, 1) := by decide +kernel
theorem d_M_mint_195 : decode b_M_mint 195 = .ok (.ifCond .ge 7, 3) := by decide +kernel
theorem d_M_mint_198 : decode b_M_mint 198 = .ok (.ldc2_w 136, 3) := by decide +kernel
theorem d_M_mint_201 : decode b_M_mint 201 = .ok (.lreturn, 1) := by decide +kernel
theorem d_M_mint_202 : decode b_M_mint 202 = .ok (.aload_n 0, 1) := by decide +kernel
theorem d_M_mint_203 : decode b_M_mint 203 = .ok (.invokevirtual 96, 3) := by decide +kernel
theorem d_M_mint_206 : decode b_M_mint 206 = .ok (.iload 5, 2) := by decide +kernel
theorem d_M_mint_208 : decode b_M_mint 208 = .ok (.ifCond .ge 91, 3) := by decide +kernel
theorem d_M_mint_211 : decode b_M_mint 211 = .ok (.iload 6, 2) := by decide +kernel
theorem d_M_mint_213 : decode b_M_mint 213 = .ok (.istore 5, 2) := by decide +kernel
theorem d_M_mint_215 : decode b_M_mint 215 = .ok (.aload_n 0, 1) := by decide +kernel
theorem d_M_mint_216 : decode b_M_mint 216 = .ok (.getfield 19, 3) := by decide +kernel
theorem d_M_mint_219 : decode b_M_mint 219 = .ok (.iload 5, 2) := by decide +kernel
theorem d_M_mint_221 : decode b_M_mint 221 = .ok (.iconst 1, 1) := by decide +kernel
theorem d_M_mint_222 : decode b_M_mint 222 = .ok (.bastore, 1) := by decide +kernel
theorem d_M_mint_223 : decode b_M_mint 223 = .ok (.aload_n 0, 1) := by decide +kernel
theorem d_M_mint_224 : decode b_M_mint 224 = .ok (.getfield 23, 3) := by decide +kernel
theorem d_M_mint_227 : decode b_M_mint 227 = .ok (.iload 5, 2) := by decide +kernel
theorem d_M_mint_229 : decode b_M_mint 229 = .ok (.iload_n 1, 1) := by decide +kernel
theorem d_M_mint_230 : decode b_M_mint 230 = .ok (.iastore, 1) := by decide +kernel
theorem d_M_mint_231 : decode b_M_mint 231 = .ok (.aload_n 0, 1) := by decide +kernel
theorem d_M_mint_232 : decode b_M_mint 232 = .ok (.getfield 27, 3) := by decide +kernel
theorem d_M_mint_235 : decode b_M_mint 235 = .ok (.iload 5, 2) := by decide +kernel
theorem d_M_mint_237 : decode b_M_mint 237 = .ok (.iload_n 2, 1) := by decide +kernel
theorem d_M_mint_238 : decode b_M_mint 238 = .ok (.iastore, 1) := by decide +kernel
theorem d_M_mint_239 : decode b_M_mint 239 = .ok (.aload_n 0, 1) := by decide +kernel
theorem d_M_mint_240 : decode b_M_mint 240 = .ok (.getfield 30, 3) := by decide +kernel
theorem d_M_mint_243 : decode b_M_mint 243 = .ok (.iload 5, 2) := by decide +kernel
theorem d_M_mint_245 : decode b_M_mint 245 = .ok (.iload_n 3, 1) := by decide +kernel
theorem d_M_mint_246 : decode b_M_mint 246 = .ok (.iastore, 1) := by decide +kernel
theorem d_M_mint_247 : decode b_M_mint 247 = .ok (.aload_n 0, 1) := by decide +kernel
theorem d_M_mint_248 : decode b_M_mint 248 = .ok (.getfield 33, 3) := by decide +kernel
theorem d_M_mint_251 : decode b_M_mint 251 = .ok (.iload 5, 2) := by decide +kernel
theorem d_M_mint_253 : decode b_M_mint 253 = .ok (.lconst 0, 1) := by decide +kernel
theorem d_M_mint_254 : decode b_M_mint 254 = .ok (.lastore, 1) := by decide +kernel
theorem d_M_mint_255 : decode b_M_mint 255 = .ok (.aload_n 0, 1) := by decide +kernel
theorem d_M_mint_256 : decode b_M_mint 256 = .ok (.getfield 36, 3) := by decide +kernel
theorem d_M_mint_259 : decode b_M_mint 259 = .ok (.iconst 2, 1) := by decide +kernel
theorem d_M_mint_260 : decode b_M_mint 260 = .ok (.iload 5, 2) := by decide +kernel
theorem d_M_mint_262 : decode b_M_mint 262 = .ok (.imul, 1) := by decide +kernel
theorem d_M_mint_263 : decode b_M_mint 263 = .ok (.lconst 0, 1) := by decide +kernel
theorem d_M_mint_264 : decode b_M_mint 264 = .ok (.lastore, 1) := by decide +kernel
theorem d_M_mint_265 : decode b_M_mint 265 = .ok (.aload_n 0, 1) := by decide +kernel
theorem d_M_mint_266 : decode b_M_mint 266 = .ok (.getfield 36, 3) := by decide +kernel
theorem d_M_mint_269 : decode b_M_mint 269 = .ok (.iconst 2, 1) := by decide +kernel
theorem d_M_mint_270 : decode b_M_mint 270 = .ok (.iload 5, 2) := by decide +kernel
theorem d_M_mint_272 : decode b_M_mint 272 = .ok (.imul, 1) := by decide +kernel
theorem d_M_mint_273 : decode b_M_mint 273 = .ok (.iconst 1, 1) := by decide +kernel
theorem d_M_mint_274 : decode b_M_mint 274 = .ok (.iadd, 1) := by decide +kernel
theorem d_M_mint_275 : decode b_M_mint 275 = .ok (.lconst 0, 1) := by decide +kernel
theorem d_M_mint_276 : decode b_M_mint 276 = .ok (.lastore, 1) := by decide +kernel
theorem d_M_mint_277 : decode b_M_mint 277 = .ok (.aload_n 0, 1) := by decide +kernel
theorem d_M_mint_278 : decode b_M_mint 278 = .ok (.getfield 39, 3) := by decide +kernel
theorem d_M_mint_281 : decode b_M_mint 281 = .ok (.iconst 2, 1) := by decide +kernel
theorem d_M_mint_282 : decode b_M_mint 282 = .ok (.iload 5, 2) := by decide +kernel
theorem d_M_mint_284 : decode b_M_mint 284 = .ok (.imul, 1) := by decide +kernel
theorem d_M_mint_285 : decode b_M_mint 285 = .ok (.lconst 0, 1) := by decide +kernel
theorem d_M_mint_286 : decode b_M_mint 286 = .ok (.lastore, 1) := by decide +kernel
theorem d_M_mint_287 : decode b_M_mint 287 = .ok (.aload_n 0, 1) := by decide +kernel
theorem d_M_mint_288 : decode b_M_mint 288 = .ok (.getfield 39, 3) := by decide +kernel
theorem d_M_mint_291 : decode b_M_mint 291 = .ok (.iconst 2, 1) := by decide +kernel
theorem d_M_mint_292 : decode b_M_mint 292 = .ok (.iload 5, 2) := by decide +kernel
theorem d_M_mint_294 : decode b_M_mint 294 = .ok (.imul, 1) := by decide +kernel
theorem d_M_mint_295 : decode b_M_mint 295 = .ok (.iconst 1, 1) := by decide +kernel
theorem d_M_mint_296 : decode b_M_mint 296 = .ok (.iadd, 1) := by decide +kernel
theorem d_M_mint_297 : decode b_M_mint 297 = .ok (.lconst 0, 1) := by decide +kernel
theorem d_M_mint_298 : decode b_M_mint 298 = .ok (.lastore, 1) := by decide +kernel
theorem d_M_mint_299 : decode b_M_mint 299 = .ok (.aload_n 0, 1) := by decide +kernel
theorem d_M_mint_300 : decode b_M_mint 300 = .ok (.iload 5, 2) := by decide +kernel
theorem d_M_mint_302 : decode b_M_mint 302 = .ok (.invokevirtual 138, 3) := by decide +kernel
theorem d_M_mint_305 : decode b_M_mint 305 = .ok (.aload_n 0, 1) := by decide +kernel
theorem d_M_mint_306 : decode b_M_mint 306 = .ok (.getfield 33, 3) := by decide +kernel
theorem d_M_mint_309 : decode b_M_mint 309 = .ok (.iload 5, 2) := by decide +kernel
theorem d_M_mint_311 : decode b_M_mint 311 = .ok (.dup2, 1) := by decide +kernel
theorem d_M_mint_312 : decode b_M_mint 312 = .ok (.laload, 1) := by decide +kernel
theorem d_M_mint_313 : decode b_M_mint 313 = .ok (.iload 4, 2) := by decide +kernel
theorem d_M_mint_315 : decode b_M_mint 315 = .ok (.i2l, 1) := by decide +kernel
theorem d_M_mint_316 : decode b_M_mint 316 = .ok (.ladd, 1) := by decide +kernel
theorem d_M_mint_317 : decode b_M_mint 317 = .ok (.lastore, 1) := by decide +kernel
theorem d_M_mint_318 : decode b_M_mint 318 = .ok (.aload_n 0, 1) := by decide +kernel
theorem d_M_mint_319 : decode b_M_mint 319 = .ok (.iload_n 1, 1) := by decide +kernel
theorem d_M_mint_320 : decode b_M_mint 320 = .ok (.lload 9, 2) := by decide +kernel
theorem d_M_mint_322 : decode b_M_mint 322 = .ok (.lload 11, 2) := by decide +kernel
theorem d_M_mint_324 : decode b_M_mint 324 = .ok (.invokevirtual 142, 3) := by decide +kernel
theorem d_M_mint_327 : decode b_M_mint 327 = .ok (.lload 9, 2) := by decide +kernel
theorem d_M_mint_329 : decode b_M_mint 329 = .ok (.ldc2_w 103, 3) := by decide +kernel
theorem d_M_mint_332 : decode b_M_mint 332 = .ok (.lmul, 1) := by decide +kernel
theorem d_M_mint_333 : decode b_M_mint 333 = .ok (.lload 11, 2) := by decide +kernel
theorem d_M_mint_335 : decode b_M_mint 335 = .ok (.ladd, 1) := by decide +kernel
theorem d_M_mint_336 : decode b_M_mint 336 = .ok (.lreturn, 1) := by decide +kernel
theorem d_M_pay_0 : decode b_M_pay 0 = .ok (.aload_n 0, 1) := by decide +kernel
theorem d_M_pay_1 : decode b_M_pay 1 = .ok (.getfield 13, 3) := by decide +kernel
theorem d_M_pay_4 : decode b_M_pay 4 = .ok (.iconst 2, 1) := by decide +kernel
theorem d_M_pay_5 : decode b_M_pay 5 = .ok (.iload_n 1, 1) := by decide +kernel
theorem d_M_pay_6 : decode b_M_pay 6 = .ok (.imul, 1) := by decide +kernel
theorem d_M_pay_7 : decode b_M_pay 7 = .ok (.dup2, 1) := by decide +kernel
theorem d_M_pay_8 : decode b_M_pay 8 = .ok (.laload, 1) := by decide +kernel
theorem d_M_pay_9 : decode b_M_pay 9 = .ok (.lload_n 2, 1) := by decide +kernel
theorem d_M_pay_10 : decode b_M_pay 10 = .ok (.lsub, 1) := by decide +kernel
theorem d_M_pay_11 : decode b_M_pay 11 = .ok (.lastore, 1) := by decide +kernel
theorem d_M_pay_12 : decode b_M_pay 12 = .ok (.aload_n 0, 1) := by decide +kernel
theorem d_M_pay_13 : decode b_M_pay 13 = .ok (.getfield 13, 3) := by decide +kernel
theorem d_M_pay_16 : decode b_M_pay 16 = .ok (.iconst 2, 1) := by decide +kernel
theorem d_M_pay_17 : decode b_M_pay 17 = .ok (.iload_n 1, 1) := by decide +kernel
theorem d_M_pay_18 : decode b_M_pay 18 = .ok (.imul, 1) := by decide +kernel
theorem d_M_pay_19 : decode b_M_pay 19 = .ok (.iconst 1, 1) := by decide +kernel
theorem d_M_pay_20 : decode b_M_pay 20 = .ok (.iadd, 1) := by decide +kernel
theorem d_M_pay_21 : decode b_M_pay 21 = .ok (.dup2, 1) := by decide +kernel
theorem d_M_pay_22 : decode b_M_pay 22 = .ok (.laload, 1) := by decide +kernel
theorem d_M_pay_23 : decode b_M_pay 23 = .ok (.lload 4, 2) := by decide +kernel
theorem d_M_pay_25 : decode b_M_pay 25 = .ok (.lsub, 1) := by decide +kernel
theorem d_M_pay_26 : decode b_M_pay 26 = .ok (.lastore, 1) := by decide +kernel
theorem d_M_pay_27 : decode b_M_pay 27 = .ok (.aload_n 0, 1) := by decide +kernel
theorem d_M_pay_28 : decode b_M_pay 28 = .ok (.getfield 16, 3) := by decide +kernel
theorem d_M_pay_31 : decode b_M_pay 31 = .ok (.iconst 0, 1) := by decide +kernel
theorem d_M_pay_32 : decode b_M_pay 32 = .ok (.dup2, 1) := by decide +kernel
theorem d_M_pay_33 : decode b_M_pay 33 = .ok (.laload, 1) := by decide +kernel
theorem d_M_pay_34 : decode b_M_pay 34 = .ok (.lload_n 2, 1) := by decide +kernel
theorem d_M_pay_35 : decode b_M_pay 35 = .ok (.ladd, 1) := by decide +kernel
theorem d_M_pay_36 : decode b_M_pay 36 = .ok (.lastore, 1) := by decide +kernel
theorem d_M_pay_37 : decode b_M_pay 37 = .ok (.aload_n 0, 1) := by decide +kernel
theorem d_M_pay_38 : decode b_M_pay 38 = .ok (.getfield 16, 3) := by decide +kernel
theorem d_M_pay_41 : decode b_M_pay 41 = .ok (.iconst 1, 1) := by decide +kernel
theorem d_M_pay_42 : decode b_M_pay 42 = .ok (.dup2, 1) := by decide +kernel
theorem d_M_pay_43 : decode b_M_pay 43 = .ok (.laload, 1) := by decide +kernel
theorem d_M_pay_44 : decode b_M_pay 44 = .ok (.lload 4, 2) := by decide +kernel
theorem d_M_pay_46 : decode b_M_pay 46 = .ok (.ladd, 1) := by decide +kernel
theorem d_M_pay_47 : decode b_M_pay 47 = .ok (.lastore, 1) := by decide +kernel
theorem d_M_pay_48 : decode b_M_pay 48 = .ok (.return_, 1) := by decide +kernel
theorem d_M_burn_0 : decode b_M_burn 0 = .ok (.aload_n 0, 1) := by decide +kernel
theorem d_M_burn_1 : decode b_M_burn 1 = .ok (.getfield 78, 3) := by decide +kernel
theorem d_M_burn_4 : decode b_M_burn 4 = .ok (.ifCond .ne 7, 3) := by decide +kernel
theorem d_M_burn_7 : decode b_M_burn 7 = .ok (.ldc2_w 112, 3) := by decide +kernel
theorem d_M_burn_10 : decode b_M_burn 10 = .ok (.lreturn, 1) := by decide +kernel
theorem d_M_burn_11 : decode b_M_burn 11 = .ok (.aload_n 0, 1) := by decide +kernel
theorem d_M_burn_12 : decode b_M_burn 12 = .ok (.iload_n 1, 1) := by decide +kernel
theorem d_M_burn_13 : decode b_M_burn 13 = .ok (.iload_n 2, 1) := by decide +kernel
theorem d_M_burn_14 : decode b_M_burn 14 = .ok (.iload_n 3, 1) := by decide +kernel
theorem d_M_burn_15 : decode b_M_burn 15 = .ok (.invokevirtual 121, 3) := by decide +kernel
theorem d_M_burn_18 : decode b_M_burn 18 = .ok (.istore 5, 2) := by decide +kernel
theorem d_M_burn_20 : decode b_M_burn 20 = .ok (.iload 5, 2) := by decide +kernel
theorem d_M_burn_22 : decode b_M_burn 22 = .ok (.ifCond .ge 7, 3) := by decide +kernel
theorem d_M_burn_25 : decode b_M_burn 25 = .ok (.ldc2_w 146, 3) := by decide +kernel
theorem d_M_burn_28 : decode b_M_burn 28 = .ok (.lreturn, 1) := by decide +kernel
theorem d_M_burn_29 : decode b_M_burn 29 = .ok (.iload 4, 2) := by decide +kernel
theorem d_M_burn_31 : decode b_M_burn 31 = .ok (.ifCond .lt 17, 3) := by decide +kernel
theorem d_M_burn_34 : decode b_M_burn 34 = .ok (.iload 4, 2) := by decide +kernel
theorem d_M_burn_36 : decode b_M_burn 36 = .ok (.i2l, 1) := by decide +kernel
theorem d_M_burn_37 : decode b_M_burn 37 = .ok (.aload_n 0, 1) := by decide +kernel
theorem d_M_burn_38 : decode b_M_burn 38 = .ok (.getfield 33, 3) := by decide +kernel
theorem d_M_burn_41 : decode b_M_burn 41 = .ok (.iload 5, 2) := by decide +kernel
theorem d_M_burn_43 : decode b_M_burn 43 = .ok (.laload, 1) := by decide +kernel
theorem d_M_burn_44 : decode b_M_burn 44 = .ok (.lcmp, 1) := by decide +kernel
theorem d_M_burn_45 : decode b_M_burn 45 = .ok (.ifCond .le 7, 3) := by decide +kernel
theorem d_M_burn_48 : decode b_M_burn 48 = .ok (.ldc2_w 119, 3) := by decide +kernel
theorem d_M_burn_51 : decode b_M_burn 51 = .ok (.lreturn, 1) := by decide +kernel
theorem d_M_burn_52 : decode b_M_burn 52 = .ok (.aload_n 0, 1) := by decide +kernel
theorem d_M_burn_53 : decode b_M_burn 53 = .ok (.invokevirtual 96, 3) := by decide +kernel
theorem d_M_burn_56 : decode b_M_burn 56 = .ok (.aload_n 0, 1) := by decide +kernel
theorem d_M_burn_57 : decode b_M_burn 57 = .ok (.iload 5, 2) := by decide +kernel
theorem d_M_burn_59 : decode b_M_burn 59 = .ok (.invokevirtual 138, 3) := by decide +kernel
theorem d_M_burn_62 : decode b_M_burn 62 = .ok (.aload_n 0, 1) := by decide +kernel
theorem d_M_burn_63 : decode b_M_burn 63 = .ok (.getfield 33, 3) := by decide +kernel
theorem d_M_burn_66 : decode b_M_burn 66 = .ok (.iload 5, 2) := by decide +kernel
theorem d_M_burn_68 : decode b_M_burn 68 = .ok (.dup2, 1) := by decide +kernel
theorem d_M_burn_69 : decode b_M_burn 69 = .ok (.laload, 1) := by decide +kernel
theorem d_M_burn_70 : decode b_M_burn 70 = .ok (.iload 4, 2) := by decide +kernel
theorem d_M_burn_72 : decode b_M_burn 72 = .ok (.i2l, 1) := by decide +kernel
theorem d_M_burn_73 : decode b_M_burn 73 = .ok (.lsub, 1) := by decide +kernel
theorem d_M_burn_74 : decode b_M_burn 74 = .ok (.lastore, 1) := by decide +kernel
theorem d_M_burn_75 : decode b_M_burn 75 = .ok (.aload_n 0, 1) := by decide +kernel
theorem d_M_burn_76 : decode b_M_burn 76 = .ok (.iload_n 2, 1) := by decide +kernel
theorem d_M_burn_77 : decode b_M_burn 77 = .ok (.iload_n 3, 1) := by decide +kernel
theorem d_M_burn_78 : decode b_M_burn 78 = .ok (.iload 4, 2) := by decide +kernel
theorem d_M_burn_80 : decode b_M_burn 80 = .ok (.i2l, 1) := by decide +kernel
theorem d_M_burn_81 : decode b_M_burn 81 = .ok (.iconst 0, 1) := by decide +kernel
theorem d_M_burn_82 : decode b_M_burn 82 = .ok (.invokevirtual 129, 3) := by decide +kernel
theorem d_M_burn_85 : decode b_M_burn 85 = .ok (.lstore 6, 2) := by decide +kernel
theorem d_M_burn_87 : decode b_M_burn 87 = .ok (.aload_n 0, 1) := by decide +kernel
theorem d_M_burn_88 : decode b_M_burn 88 = .ok (.iload_n 2, 1) := by decide +kernel
theorem d_M_burn_89 : decode b_M_burn 89 = .ok (.iload_n 3, 1) := by decide +kernel
theorem d_M_burn_90 : decode b_M_burn 90 = .ok (.iload 4, 2) := by decide +kernel
theorem d_M_burn_92 : decode b_M_burn 92 = .ok (.i2l, 1) := by decide +kernel
theorem d_M_burn_93 : decode b_M_burn 93 = .ok (.iconst 0, 1) := by decide +kernel
theorem d_M_burn_94 : decode b_M_burn 94 = .ok (.invokevirtual 133, 3) := by decide +kernel
theorem d_M_burn_97 : decode b_M_burn 97 = .ok (.lstore 8, 2) := by decide +kernel
theorem d_M_burn_99 : decode b_M_burn 99 = .ok (.aload_n 0, 1) := by decide +kernel
theorem d_M_burn_100 : decode b_M_burn 100 = .ok (.getfield 36, 3) := by decide +kernel
theorem d_M_burn_103 : decode b_M_burn 103 = .ok (.iconst 2, 1) := by decide +kernel
theorem d_M_burn_104 : decode b_M_burn 104 = .ok (.iload 5, 2) := by decide +kernel
theorem d_M_burn_106 : decode b_M_burn 106 = .ok (.imul, 1) := by decide +kernel
theorem d_M_burn_107 : decode b_M_burn 107 = .ok (.dup2, 1) := by decide +kernel
theorem d_M_burn_108 : decode b_M_burn 108 = .ok (.laload, 1) := by decide +kernel
theorem d_M_burn_109 : decode b_M_burn 109 = .ok (.lload 6, 2) := by decide +kernel
theorem d_M_burn_111 : decode b_M_burn 111 = .ok (.ladd, 1) := by decide +kernel
theorem d_M_burn_112 : decode b_M_burn 112 = .ok (.lastore, 1) := by decide +kernel
theorem d_M_burn_113 : decode b_M_burn 113 = .ok (.aload_n 0, 1) := by decide +kernel
theorem d_M_burn_114 : decode b_M_burn 114 = .ok (.getfield 36, 3) := by decide +kernel
theorem d_M_burn_117 : decode b_M_burn 117 = .ok (.iconst 2, 1) := by decide +kernel
theorem d_M_burn_118 : decode b_M_burn 118 = .ok (.iload 5, 2) := by decide +kernel
theorem d_M_burn_120 : decode b_M_burn 120 = .ok (.imul, 1) := by decide +kernel
theorem d_M_burn_121 : decode b_M_burn 121 = .ok (.iconst 1, 1) := by decide +kernel
theorem d_M_burn_122 : decode b_M_burn 122 = .ok (.iadd, 1) := by decide +kernel
theorem d_M_burn_123 : decode b_M_burn 123 = .ok (.dup2, 1) := by decide +kernel
theorem d_M_burn_124 : decode b_M_burn 124 = .ok (.laload, 1) := by decide +kernel
theorem d_M_burn_125 : decode b_M_burn 125 = .ok (.lload 8, 2) := by decide +kernel
theorem d_M_burn_127 : decode b_M_burn 127 = .ok (.ladd, 1) := by decide +kernel
theorem d_M_burn_128 : decode b_M_burn 128 = .ok (.lastore, 1) := by decide +kernel
theorem d_M_burn_129 : decode b_M_burn 129 = .ok (.aload_n 0, 1) := by decide +kernel
theorem d_M_burn_130 : decode b_M_burn 130 = .ok (.iload 5, 2) := by decide +kernel
theorem d_M_burn_132 : decode b_M_burn 132 = .ok (.invokevirtual 148, 3) := by decide +kernel
theorem d_M_burn_135 : decode b_M_burn 135 = .ok (.lload 6, 2) := by decide +kernel
theorem d_M_burn_137 : decode b_M_burn 137 = .ok (.ldc2_w 103, 3) := by decide +kernel
theorem d_M_burn_140 : decode b_M_burn 140 = .ok (.lmul, 1) := by decide +kernel
theorem d_M_burn_141 : decode b_M_burn 141 = .ok (.lload 8, 2) := by decide +kernel
theorem d_M_burn_143 : decode b_M_burn 143 = .ok (.ladd, 1) := by decide +kernel
theorem d_M_burn_144 : decode b_M_burn 144 = .ok (.lreturn, 1) := by decide +kernel
theorem d_M_collect_0 : decode b_M_collect 0 = .ok (.aload_n 0, 1) := by decide +kernel
theorem d_M_collect_1 : decode b_M_collect 1 = .ok (.getfield 78, 3) := by decide +kernel
theorem d_M_collect_4 : decode b_M_collect 4 = .ok (.ifCond .ne 7, 3) := by decide +kernel
theorem d_M_collect_7 : decode b_M_collect 7 = .ok (.ldc2_w 112, 3) := by decide +kernel
theorem d_M_collect_10 : decode b_M_collect 10 = .ok (.lreturn, 1) := by decide +kernel
theorem d_M_collect_11 : decode b_M_collect 11 = .ok (.aload_n 0, 1) := by decide +kernel
theorem d_M_collect_12 : decode b_M_collect 12 = .ok (.iload_n 1, 1) := by decide +kernel
theorem d_M_collect_13 : decode b_M_collect 13 = .ok (.iload_n 2, 1) := by decide +kernel
theorem d_M_collect_14 : decode b_M_collect 14 = .ok (.iload_n 3, 1) := by decide +kernel
theorem d_M_collect_15 : decode b_M_collect 15 = .ok (.invokevirtual 121, 3) := by decide +kernel
theorem d_M_collect_18 : decode b_M_collect 18 = .ok (.istore 4, 2) := by decide +kernel
theorem d_M_collect_20 : decode b_M_collect 20 = .ok (.iload 4, 2) := by decide +kernel
theorem d_M_collect_22 : decode b_M_collect 22 = .ok (.ifCond .ge 7, 3) := by decide +kernel
theorem d_M_collect_25 : decode b_M_collect 25 = .ok (.ldc2_w 146, 3) := by decide +kernel
theorem d_M_collect_28 : decode b_M_collect 28 = .ok (.lreturn, 1) := by decide +kernel
theorem d_M_collect_29 : decode b_M_collect 29 = .ok (.aload_n 0, 1) := by decide +kernel
theorem d_M_collect_30 : decode b_M_collect 30 = .ok (.getfield 36, 3) := by decide +kernel
theorem d_M_collect_33 : decode b_M_collect 33 = .ok (.iconst 2, 1) := by decide +kernel
theorem d_M_collect_34 : decode b_M_collect 34 = .ok (.iload 4, 2) := by decide +kernel
theorem d_M_collect_36 : decode b_M_collect 36 = .ok (.imul, 1) := by decide +kernel
theorem d_M_collect_37 : decode b_M_collect 37 = .ok (.laload, 1) := by decide +kernel
theorem d_M_collect_38 : decode b_M_collect 38 = .ok (.lstore 5, 2) := by decide +kernel
theorem d_M_collect_40 : decode b_M_collect 40 = .ok (.aload_n 0, 1) := by decide +kernel
theorem d_M_collect_41 : decode b_M_collect 41 = .ok (.getfield 36, 3) := by decide +kernel
theorem d_M_collect_44 : decode b_M_collect 44 = .ok (.iconst 2, 1) := by decide +kernel
theorem d_M_collect_45 : decode b_M_collect 45 = .ok (.iload 4, 2) := by decide +kernel
theorem d_M_collect_47 : decode b_M_collect 47 = .ok (.imul, 1) := by decide +kernel
theorem d_M_collect_48 : decode b_M_collect 48 = .ok (.iconst 1, 1) := by decide +kernel
theorem d_M_collect_49 : decode b_M_collect 49 = .ok (.iadd, 1) := by decide +kernel
theorem d_M_collect_50 : decode b_M_collect 50 = .ok (.laload, 1) := by decide +kernel
theorem d_M_collect_51 : decode b_M_collect 51 = .ok (.lstore 7, 2) := by decide +kernel
theorem d_M_collect_53 : decode b_M_collect 53 = .ok (.aload_n 0, 1) := by decide +kernel
theorem d_M_collect_54 : decode b_M_collect 54 = .ok (.iload_n 1, 1) := by decide +kernel
theorem d_M_collect_55 : decode b_M_collect 55 = .ok (.lload 5, 2) := by decide +kernel
theorem d_M_collect_57 : decode b_M_collect 57 = .ok (.lneg, 1) := by decide +kernel
theorem d_M_collect_58 : decode b_M_collect 58 = .ok (.lload 7, 2) := by decide +kernel
theorem d_M_collect_60 : decode b_M_collect 60 = .ok (.lneg, 1) := by decide +kernel
theorem d_M_collect_61 : decode b_M_collect 61 = .ok (.invokevirtual 142, 3) := by decide +kernel
theorem d_M_collect_64 : decode b_M_collect 64 = .ok (.aload_n 0, 1) := by decide +kernel
theorem d_M_collect_65 : decode b_M_collect 65 = .ok (.getfield 36, 3) := by decide +kernel
theorem d_M_collect_68 : decode b_M_collect 68 = .ok (.iconst 2, 1) := by decide +kernel
theorem d_M_collect_69 : decode b_M_collect 69 = .ok (.iload 4, 2) := by decide +kernel
theorem d_M_collect_71 : decode b_M_collect 71 = .ok (.imul, 1) := by decide +kernel
theorem d_M_collect_72 : decode b_M_collect 72 = .ok (.lconst 0, 1) := by decide +kernel
theorem d_M_collect_73 : decode b_M_collect 73 = .ok (.lastore, 1) := by decide +kernel
theorem d_M_collect_74 : decode b_M_collect 74 = .ok (.aload_n 0, 1) := by decide +kernel
theorem d_M_collect_75 : decode b_M_collect 75 = .ok (.getfield 36, 3) := by decide +kernel
theorem d_M_collect_78 : decode b_M_collect 78 = .ok (.iconst 2, 1) := by decide +kernel
theorem d_M_collect_79 : decode b_M_collect 79 = .ok (.iload 4, 2) := by decide +kernel
theorem d_M_collect_81 : decode b_M_collect 81 = .ok (.imul, 1) := by decide +kernel
theorem d_M_collect_82 : decode b_M_collect 82 = .ok (.iconst 1, 1) := by decide +kernel
theorem d_M_collect_83 : decode b_M_collect 83 = .ok (.iadd, 1) := by decide +kernel
theorem d_M_collect_84 : decode b_M_collect 84 = .ok (.lconst 0, 1) := by decide +kernel
theorem d_M_collect_85 : decode b_M_collect 85 = .ok (.lastore, 1) := by decide +kernel
theorem d_M_collect_86 : decode b_M_collect 86 = .ok (.aload_n 0, 1) := by decide +kernel
theorem d_M_collect_87 : decode b_M_collect 87 = .ok (.iload 4, 2) := by decide +kernel
theorem d_M_collect_89 : decode b_M_collect 89 = .ok (.invokevirtual 148, 3) := by decide +kernel
theorem d_M_collect_92 : decode b_M_collect 92 = .ok (.lload 5, 2) := by decide +kernel
theorem d_M_collect_94 : decode b_M_collect 94 = .ok (.ldc2_w 103, 3) := by decide +kernel
theorem d_M_collect_97 : decode b_M_collect 97 = .ok (.lmul, 1) := by decide +kernel
theorem d_M_collect_98 : decode b_M_collect 98 = .ok (.lload 7, 2) := by decide +kernel
theorem d_M_collect_100 : decode b_M_collect 100 = .ok (.ladd, 1) := by decide +kernel
theorem d_M_collect_101 : decode b_M_collect 101 = .ok (.lreturn, 1) := by decide +kernel
theorem d_M_marked_0 : decode b_M_marked 0 = .ok (.iconst 0, 1) := by decide +kernel
theorem d_M_marked_1 : decode b_M_marked 1 = .ok (.istore_n 2, 1) := by decide +kernel
theorem d_M_marked_2 : decode b_M_marked 2 = .ok (.iconst 0, 1) := by decide +kernel
theorem d_M_marked_3 : decode b_M_marked 3 = .ok (.istore_n 3, 1) := by decide +kernel
theorem d_M_marked_4 : decode b_M_marked 4 = .ok (.iload_n 3, 1) := by decide +kernel
theorem d_M_marked_5 : decode b_M_marked 5 = .ok (.bipush 10, 2) := by decide +kernel
theorem d_M_marked_7 : decode b_M_marked 7 = .ok (.if_icmp .ge 59, 3) := by decide +kernel
theorem d_M_marked_10 : decode b_M_marked 10 = .ok (.iload_n 2, 1) := by decide +kernel
theorem d_M_marked_11 : decode b_M_marked 11 = .ok (.ifCond .ne 43, 3) := by decide +kernel
theorem d_M_marked_14 : decode b_M_marked 14 = .ok (.aload_n 0, 1) := by decide +kernel
theorem d_M_marked_15 : decode b_M_marked 15 = .ok (.getfield 19, 3) := by decide +kernel
theorem d_M_marked_18 : decode b_M_marked 18 = .ok (.iload_n 3, 1) := by decide +kernel
theorem d_M_marked_19 : decode b_M_marked 19 = .ok (.baload, 1) := by decide +kernel
theorem d_M_marked_20 : decode b_M_marked 20 = .ok (.ifCond .eq 38, 3) := by decide +kernel
theorem d_M_marked_23 : decode b_M_marked 23 = .ok (.aload_n 0, 1) := by decide +kernel
theorem d_M_marked_24 : decode b_M_marked 24 = .ok (.getfield 33, 3) := by decide +kernel
theorem d_M_marked_27 : decode b_M_marked 27 = .ok (.iload_n 3, 1) := by decide +kernel
theorem d_M_marked_28 : decode b_M_marked 28 = .ok (.laload, 1) := by decide +kernel
theorem d_M_marked_29 : decode b_M_marked 29 = .ok (.lconst 0, 1) := by decide +kernel
theorem d_M_marked_30 : decode b_M_marked 30 = .ok (.lcmp, 1) := by decide +kernel
theorem d_M_marked_31 : decode b_M_marked 31 = .ok (.ifCond .le 27, 3) := by decide +kernel
theorem d_M_marked_34 : decode b_M_marked 34 = .ok (.aload_n 0, 1) := by decide +kernel
theorem d_M_marked_35 : decode b_M_marked 35 = .ok (.getfield 27, 3) := by decide +kernel
theorem d_M_marked_38 : decode b_M_marked 38 = .ok (.iload_n 3, 1) := by decide +kernel
theorem d_M_marked_39 : decode b_M_marked 39 = .ok (.iaload, 1) := by decide +kernel
theorem d_M_marked_40 : decode b_M_marked 40 = .ok (.iload_n 1, 1) := by decide +kernel
theorem d_M_marked_41 : decode b_M_marked 41 = .ok (.if_icmp .eq 13, 3) := by decide +kernel
theorem d_M_marked_44 : decode b_M_marked 44 = .ok (.aload_n 0, 1) := by decide +kernel
theorem d_M_marked_45 : decode b_M_marked 45 = .ok (.getfield 30, 3) := by decide +kernel
theorem d_M_marked_48 : decode b_M_marked 48 = .ok (.iload_n 3, 1) := by decide +kernel
theorem d_M_marked_49 : decode b_M_marked 49 = .ok (.iaload, 1) := by decide +kernel
theorem d_M_marked_50 : decode b_M_marked 50 = .ok (.iload_n 1, 1) := by decide +kernel
theorem d_M_marked_51 : decode b_M_marked 51 = .ok (.if_icmp .ne 7, 3) := by decide +kernel
theorem d_M_marked_54 : decode b_M_marked 54 = .ok (.iconst 1, 1) := by decide +kernel
theorem d_M_marked_55 : decode b_M_marked 55 = .ok (.goto 4, 3) := by decide +kernel
theorem d_M_marked_58 : decode b_M_marked 58 = .ok (.iconst 0, 1) := by decide +kernel
theorem d_M_marked_59 : decode b_M_marked 59 = .ok (.istore_n 2, 1) := by decide +kernel
theorem d_M_marked_60 : decode b_M_marked 60 = .ok (.iinc 3 1, 3) := by decide +kernel
theorem d_M_marked_63 : decode b_M_marked 63 = .ok (.goto (-59), 3) := by decide +kernel
theorem d_M_marked_66 : decode b_M_marked 66 = .ok (.iload_n 2, 1) := by decide +kernel
theorem d_M_marked_67 : decode b_M_marked 67 = .ok (.ireturn, 1) := by decide +kernel
theorem d_M_nextStep_0 : decode b_M_nextStep 0 = .ok (.bipush 99, 2) := by decide +kernel
theorem d_M_nextStep_2 : decode b_M_nextStep 2 = .ok (.istore_n 2, 1) := by decide +kernel
theorem d_M_nextStep_3 : decode b_M_nextStep 3 = .ok (.bipush (-24), 2) := by decide +kernel
theorem d_M_nextStep_5 : decode b_M_nextStep 5 = .ok (.istore_n 3, 1) := by decide +kernel
theorem d_M_nextStep_6 : decode b_M_nextStep 6 = .ok (.iload_n 3, 1) := by decide +kernel
theorem d_M_nextStep_7 : decode b_M_nextStep 7 = .ok (.bipush 24, 2) := by decide +kernel
theorem d_M_nextStep_9 : decode b_M_nextStep 9 = .ok (.if_icmp .gt 64, 3) := by decide +kernel
theorem d_M_nextStep_12 : decode b_M_nextStep 12 = .ok (.aload_n 0, 1) := by decide +kernel
theorem d_M_nextStep_13 : decode b_M_nextStep 13 = .ok (.iload_n 3, 1) := by decide +kernel
theorem d_M_nextStep_14 : decode b_M_nextStep 14 = .ok (.invokevirtual 151, 3) := by decide +kernel
theorem d_M_nextStep_17 : decode b_M_nextStep 17 = .ok (.ifCond .eq 36, 3) := by decide +kernel
theorem d_M_nextStep_20 : decode b_M_nextStep 20 = .ok (.iload_n 1, 1) := by decide +kernel
theorem d_M_nextStep_21 : decode b_M_nextStep 21 = .ok (.ifCond .eq 14, 3) := by decide +kernel
theorem d_M_nextStep_24 : decode b_M_nextStep 24 = .ok (.iload_n 3, 1) := by decide +kernel
theorem d_M_nextStep_25 : decode b_M_nextStep 25 = .ok (.aload_n 0, 1) := by decide +kernel
theorem d_M_nextStep_26 : decode b_M_nextStep 26 = .ok (.getfield 154, 3) := by decide +kernel
theorem d_M_nextStep_29 : decode b_M_nextStep 29 = .ok (.if_icmp .gt 24, 3) := by decide +kernel
theorem d_M_nextStep_32 : decode b_M_nextStep 32 = .ok (.goto 17, 3) := by decide +kernel
theorem d_M_nextStep_35 : decode b_M_nextStep 35 = .ok (.iload_n 3, 1) := by decide +kernel
theorem d_M_nextStep_36 : decode b_M_nextStep 36 = .ok (.aload_n 0, 1) := by decide +kernel
theorem d_M_nextStep_37 : decode b_M_nextStep 37 = .ok (.getfield 154, 3) := by decide +kernel
theorem d_M_nextStep_40 : decode b_M_nextStep 40 = .ok (.if_icmp .le 13, 3) := by decide +kernel
theorem d_M_nextStep_43 : decode b_M_nextStep 43 = .ok (.iload_n 2, 1) := by decide +kernel
theorem d_M_nextStep_44 : decode b_M_nextStep 44 = .ok (.bipush 99, 2) := by decide +kernel
theorem d_M_nextStep_46 : decode b_M_nextStep 46 = .ok (.if_icmp .ne 7, 3) := by decide +kernel
theorem d_M_nextStep_49 : decode b_M_nextStep 49 = .ok (.iconst 1, 1) := by decide +kernel
theorem d_M_nextStep_50 : decode b_M_nextStep 50 = .ok (.goto 4, 3) := by decide +kernel
theorem d_M_nextStep_53 : decode b_M_nextStep 53 = .ok (.iconst 0, 1) := by decide +kernel
theorem d_M_nextStep_54 : decode b_M_nextStep 54 = .ok (.istore 4, 2) := by decide +kernel
theorem d_M_nextStep_56 : decode b_M_nextStep 56 = .ok (.iload 4, 2) := by decide +kernel
theorem d_M_nextStep_58 : decode b_M_nextStep 58 = .ok (.ifCond .eq 7, 3) := by decide +kernel
theorem d_M_nextStep_61 : decode b_M_nextStep 61 = .ok (.iload_n 3, 1) := by decide +kernel
theorem d_M_nextStep_62 : decode b_M_nextStep 62 = .ok (.goto 4, 3) := by decide +kernel
theorem d_M_nextStep_65 : decode b_M_nextStep 65 = .ok (.iload_n 2, 1) := by decide +kernel
theorem d_M_nextStep_66 : decode b_M_nextStep 66 = .ok (.istore_n 2, 1) := by decide +kernel
theorem d_M_nextStep_67 : decode b_M_nextStep 67 = .ok (.iinc 3 1, 3) := by decide +kernel
theorem d_M_nextStep_70 : decode b_M_nextStep 70 = .ok (.goto (-64), 3) := by decide +kernel
theorem d_M_nextStep_73 : decode b_M_nextStep 73 = .ok (.iload_n 2, 1) := by decide +kernel
theorem d_M_nextStep_74 : decode b_M_nextStep 74 = .ok (.ireturn, 1) := by decide +kernel
theorem d_M_in_0 : decode b_M_in 0 = .ok (.iload_n 0, 1) := by decide +kernel
theorem d_M_in_1 : decode b_M_in 1 = .ok (.ifCond .eq 14, 3) := by decide +kernel
theorem d_M_in_4 : decode b_M_in 4 = .ok (.lload_n 3, 1) := by decide +kernel
theorem d_M_in_5 : decode b_M_in 5 = .ok (.lload_n 1, 1) := by decide +kernel
theorem d_M_in_6 : decode b_M_in 6 = .ok (.lload 5, 2) := by decide +kernel
theorem d_M_in_8 : decode b_M_in 8 = .ok (.iconst 1, 1) := by decide +kernel
theorem d_M_in_9 : decode b_M_in 9 = .ok (.invokestatic 105, 3) := by decide +kernel
theorem d_M_in_12 : decode b_M_in 12 = .ok (.goto 11, 3) := by decide +kernel
theorem d_M_in_15 : decode b_M_in 15 = .ok (.lload_n 1, 1) := by decide +kernel
theorem d_M_in_16 : decode b_M_in 16 = .ok (.lload_n 3, 1) := by decide +kernel
theorem d_M_in_17 : decode b_M_in 17 = .ok (.lload 5, 2) := by decide +kernel
theorem d_M_in_19 : decode b_M_in 19 = .ok (.iconst 1, 1) := by decide +kernel
theorem d_M_in_20 : decode b_M_in 20 = .ok (.invokestatic 109, 3) := by decide +kernel
theorem d_M_in_23 : decode b_M_in 23 = .ok (.lreturn, 1) := by decide +kernel
theorem d_M_goesOut_0 : decode b_M_goesOut 0 = .ok (.iload_n 0, 1) := by decide +kernel
theorem d_M_goesOut_1 : decode b_M_goesOut 1 = .ok (.ifCond .eq 14, 3) := by decide +kernel
theorem d_M_goesOut_4 : decode b_M_goesOut 4 = .ok (.lload_n 3, 1) := by decide +kernel
theorem d_M_goesOut_5 : decode b_M_goesOut 5 = .ok (.lload_n 1, 1) := by decide +kernel
theorem d_M_goesOut_6 : decode b_M_goesOut 6 = .ok (.lload 5, 2) := by decide +kernel
theorem d_M_goesOut_8 : decode b_M_goesOut 8 = .ok (.iconst 0, 1) := by decide +kernel
theorem d_M_goesOut_9 : decode b_M_goesOut 9 = .ok (.invokestatic 109, 3) := by decide +kernel
theorem d_M_goesOut_12 : decode b_M_goesOut 12 = .ok (.goto 11, 3) := by decide +kernel
theorem d_M_goesOut_15 : decode b_M_goesOut 15 = .ok (.lload_n 1, 1) := by decide +kernel
theorem d_M_goesOut_16 : decode b_M_goesOut 16 = .ok (.lload_n 3, 1) := by decide +kernel
theorem d_M_goesOut_17 : decode b_M_goesOut 17 = .ok (.lload 5, 2) := by decide +kernel
theorem d_M_goesOut_19 : decode b_M_goesOut 19 = .ok (.iconst 0, 1) := by decide +kernel
theorem d_M_goesOut_20 : decode b_M_goesOut 20 = .ok (.invokestatic 105, 3) := by decide +kernel
theorem d_M_goesOut_23 : decode b_M_goesOut 23 = .ok (.lreturn, 1) := by decide +kernel
theorem d_M_onTheWay_0 : decode b_M_onTheWay 0 = .ok (.lload_n 2, 1) := by decide +kernel
theorem d_M_onTheWay_1 : decode b_M_onTheWay 1 = .ok (.ldc2_w 58, 3) := by decide +kernel
theorem d_M_onTheWay_4 : decode b_M_onTheWay 4 = .ok (.lmul, 1) := by decide +kernel
theorem d_M_onTheWay_5 : decode b_M_onTheWay 5 = .ok (.lstore 8, 2) := by decide +kernel
theorem d_M_onTheWay_7 : decode b_M_onTheWay 7 = .ok (.aload_n 0, 1) := by decide +kernel
theorem d_M_onTheWay_8 : decode b_M_onTheWay 8 = .ok (.getfield 157, 3) := by decide +kernel
theorem d_M_onTheWay_11 : decode b_M_onTheWay 11 = .ok (.lconst 0, 1) := by decide +kernel
theorem d_M_onTheWay_12 : decode b_M_onTheWay 12 = .ok (.lcmp, 1) := by decide +kernel
theorem d_M_onTheWay_13 : decode b_M_onTheWay 13 = .ok (.ifCond .le 45, 3) := by decide +kernel
theorem d_M_onTheWay_16 : decode b_M_onTheWay 16 = .ok (.iload_n 1, 1) := by decide +kernel
theorem d_M_onTheWay_17 : decode b_M_onTheWay 17 = .ok (.ifCond .eq 27, 3) := by decide +kernel
theorem d_M_onTheWay_20 : decode b_M_onTheWay 20 = .ok (.lload 8, 2) := by decide +kernel
theorem d_M_onTheWay_22 : decode b_M_onTheWay 22 = .ok (.aload_n 0, 1) := by decide +kernel
theorem d_M_onTheWay_23 : decode b_M_onTheWay 23 = .ok (.getfield 160, 3) := by decide +kernel
theorem d_M_onTheWay_26 : decode b_M_onTheWay 26 = .ok (.lmul, 1) := by decide +kernel
theorem d_M_onTheWay_27 : decode b_M_onTheWay 27 = .ok (.lload 8, 2) := by decide +kernel
theorem d_M_onTheWay_29 : decode b_M_onTheWay 29 = .ok (.lload 4, 2) := by decide +kernel
theorem d_M_onTheWay_31 : decode b_M_onTheWay 31 = .ok (.aload_n 0, 1) := by decide +kernel
theorem d_M_onTheWay_32 : decode b_M_onTheWay 32 = .ok (.getfield 160, 3) := by decide +kernel
theorem d_M_onTheWay_35 : decode b_M_onTheWay 35 = .ok (.lmul, 1) := by decide +kernel
theorem d_M_onTheWay_36 : decode b_M_onTheWay 36 = .ok (.ladd, 1) := by decide +kernel
theorem d_M_onTheWay_37 : decode b_M_onTheWay 37 = .ok (.iconst 1, 1) := by decide +kernel
theorem d_M_onTheWay_38 : decode b_M_onTheWay 38 = .ok (.invokestatic 64, 3) := by decide +kernel
theorem d_M_onTheWay_41 : decode b_M_onTheWay 41 = .ok (.goto 16, 3) := by decide +kernel
theorem d_M_onTheWay_44 : decode b_M_onTheWay 44 = .ok (.aload_n 0, 1) := by decide +kernel
theorem d_M_onTheWay_45 : decode b_M_onTheWay 45 = .ok (.getfield 160, 3) := by decide +kernel
theorem d_M_onTheWay_48 : decode b_M_onTheWay 48 = .ok (.lload 4, 2) := by decide +kernel
theorem d_M_onTheWay_50 : decode b_M_onTheWay 50 = .ok (.ldc2_w 58, 3) := by decide +kernel
theorem d_M_onTheWay_53 : decode b_M_onTheWay 53 = .ok (.lmul, 1) := by decide +kernel
theorem d_M_onTheWay_54 : decode b_M_onTheWay 54 = .ok (.lload_n 2, 1) := by decide +kernel
theorem d_M_onTheWay_55 : decode b_M_onTheWay 55 = .ok (.ldiv, 1) := by decide +kernel
theorem d_M_onTheWay_56 : decode b_M_onTheWay 56 = .ok (.ladd, 1) := by decide +kernel
theorem d_M_onTheWay_57 : decode b_M_onTheWay 57 = .ok (.lreturn, 1) := by decide +kernel
theorem d_M_onTheWay_58 : decode b_M_onTheWay 58 = .ok (.iload_n 1, 1) := by decide +kernel
theorem d_M_onTheWay_59 : decode b_M_onTheWay 59 = .ok (.ifCond .eq 22, 3) := by decide +kernel
theorem d_M_onTheWay_62 : decode b_M_onTheWay 62 = .ok (.aload_n 0, 1) := by decide +kernel
theorem d_M_onTheWay_63 : decode b_M_onTheWay 63 = .ok (.getfield 160, 3) := by decide +kernel
theorem d_M_onTheWay_66 : decode b_M_onTheWay 66 = .ok (.lload 6, 2) := by decide +kernel
theorem d_M_onTheWay_68 : decode b_M_onTheWay 68 = .ok (.ldc2_w 58, 3) := by decide +kernel
theorem d_M_onTheWay_71 : decode b_M_onTheWay 71 = .ok (.lmul, 1) := by decide +kernel
theorem d_M_onTheWay_72 : decode b_M_onTheWay 72 = .ok (.lload_n 2, 1) := by decide +kernel
theorem d_M_onTheWay_73 : decode b_M_onTheWay 73 = .ok (.iconst 1, 1) := by decide +kernel
theorem d_M_onTheWay_74 : decode b_M_onTheWay 74 = .ok (.invokestatic 64, 3) := by decide +kernel
theorem d_M_onTheWay_77 : decode b_M_onTheWay 77 = .ok (.lsub, 1) := by decide +kernel
theorem d_M_onTheWay_78 : decode b_M_onTheWay 78 = .ok (.goto 24, 3) := by decide +kernel
theorem d_M_onTheWay_81 : decode b_M_onTheWay 81 = .ok (.lload 8, 2) := by decide +kernel
theorem d_M_onTheWay_83 : decode b_M_onTheWay 83 = .ok (.aload_n 0, 1) := by decide +kernel
theorem d_M_onTheWay_84 : decode b_M_onTheWay 84 = .ok (.getfield 160, 3) := by decide +kernel
theorem d_M_onTheWay_87 : decode b_M_onTheWay 87 = .ok (.lmul, 1) := by decide +kernel
theorem d_M_onTheWay_88 : decode b_M_onTheWay 88 = .ok (.lload 8, 2) := by decide +kernel
theorem d_M_onTheWay_90 : decode b_M_onTheWay 90 = .ok (.lload 6, 2) := by decide +kernel
theorem d_M_onTheWay_92 : decode b_M_onTheWay 92 = .ok (.aload_n 0, 1) := by decide +kernel
theorem d_M_onTheWay_93 : decode b_M_onTheWay 93 = .ok (.getfield 160, 3) := by decide +kernel
theorem d_M_onTheWay_96 : decode b_M_onTheWay 96 = .ok (.lmul, 1) := by decide +kernel
theorem d_M_onTheWay_97 : decode b_M_onTheWay 97 = .ok (.lsub, 1) := by decide +kernel
theorem d_M_onTheWay_98 : decode b_M_onTheWay 98 = .ok (.iconst 1, 1) := by decide +kernel
theorem d_M_onTheWay_99 : decode b_M_onTheWay 99 = .ok (.invokestatic 64, 3) := by decide +kernel
theorem d_M_onTheWay_102 : decode b_M_onTheWay 102 = .ok (.lreturn, 1) := by decide +kernel
theorem d_M_leg_0 : decode b_M_leg 0 = .ok (.aload_n 0, 1) := by decide +kernel
theorem d_M_leg_1 : decode b_M_leg 1 = .ok (.iload_n 1, 1) := by decide +kernel
theorem d_M_leg_2 : decode b_M_leg 2 = .ok (.invokevirtual 163, 3) := by decide +kernel
theorem d_M_leg_5 : decode b_M_leg 5 = .ok (.istore 4, 2) := by decide +kernel
theorem d_M_leg_7 : decode b_M_leg 7 = .ok (.iload 4, 2) := by decide +kernel
theorem d_M_leg_9 : decode b_M_leg 9 = .ok (.bipush 99, 2) := by decide +kernel
theorem d_M_leg_11 : decode b_M_leg 11 = .ok (.if_icmp .ne 7, 3) := by decide +kernel
theorem d_M_leg_14 : decode b_M_leg 14 = .ok (.lload_n 2, 1) := by decide +kernel
theorem d_M_leg_15 : decode b_M_leg 15 = .ok (.goto 52, 3) := by decide +kernel
theorem d_M_leg_18 : decode b_M_leg 18 = .ok (.iload_n 1, 1) := by decide +kernel
theorem d_M_leg_19 : decode b_M_leg 19 = .ok (.ifCond .eq 27, 3) := by decide +kernel
theorem d_M_leg_22 : decode b_M_leg 22 = .ok (.aload_n 0, 1) := by decide +kernel
theorem d_M_leg_23 : decode b_M_leg 23 = .ok (.iload 4, 2) := by decide +kernel
theorem d_M_leg_25 : decode b_M_leg 25 = .ok (.invokevirtual 89, 3) := by decide +kernel
theorem d_M_leg_28 : decode b_M_leg 28 = .ok (.lload_n 2, 1) := by decide +kernel
theorem d_M_leg_29 : decode b_M_leg 29 = .ok (.lcmp, 1) := by decide +kernel
theorem d_M_leg_30 : decode b_M_leg 30 = .ok (.ifCond .le 12, 3) := by decide +kernel
theorem d_M_leg_33 : decode b_M_leg 33 = .ok (.aload_n 0, 1) := by decide +kernel
theorem d_M_leg_34 : decode b_M_leg 34 = .ok (.iload 4, 2) := by decide +kernel
theorem d_M_leg_36 : decode b_M_leg 36 = .ok (.invokevirtual 89, 3) := by decide +kernel
theorem d_M_leg_39 : decode b_M_leg 39 = .ok (.goto 28, 3) := by decide +kernel
theorem d_M_leg_42 : decode b_M_leg 42 = .ok (.lload_n 2, 1) := by decide +kernel
theorem d_M_leg_43 : decode b_M_leg 43 = .ok (.goto 24, 3) := by decide +kernel
theorem d_M_leg_46 : decode b_M_leg 46 = .ok (.aload_n 0, 1) := by decide +kernel
theorem d_M_leg_47 : decode b_M_leg 47 = .ok (.iload 4, 2) := by decide +kernel
theorem d_M_leg_49 : decode b_M_leg 49 = .ok (.invokevirtual 89, 3) := by decide +kernel
theorem d_M_leg_52 : decode b_M_leg 52 = .ok (.lload_n 2, 1) := by decide +kernel
theorem d_M_leg_53 : decode b_M_leg 53 = .ok (.lcmp, 1) := by decide +kernel
theorem d_M_leg_54 : decode b_M_leg 54 = .ok (.ifCond .ge 12, 3) := by decide +kernel
theorem d_M_leg_57 : decode b_M_leg 57 = .ok (.aload_n 0, 1) := by decide +kernel
theorem d_M_leg_58 : decode b_M_leg 58 = .ok (.iload 4, 2) := by decide +kernel
theorem d_M_leg_60 : decode b_M_leg 60 = .ok (.invokevirtual 89, 3) := by decide +kernel
theorem d_M_leg_63 : decode b_M_leg 63 = .ok (.goto 4, 3) := by decide +kernel
theorem d_M_leg_66 : decode b_M_leg 66 = .ok (.lload_n 2, 1) := by decide +kernel
theorem d_M_leg_67 : decode b_M_leg 67 = .ok (.lstore 5, 2) := by decide +kernel
theorem d_M_leg_69 : decode b_M_leg 69 = .ok (.aload_n 0, 1) := by decide +kernel
theorem d_M_leg_70 : decode b_M_leg 70 = .ok (.aload_n 0, 1) := by decide +kernel
theorem d_M_leg_71 : decode b_M_leg 71 = .ok (.getfield 154, 3) := by decide +kernel
theorem d_M_leg_74 : decode b_M_leg 74 = .ok (.invokevirtual 167, 3) := by decide +kernel
theorem d_M_leg_77 : decode b_M_leg 77 = .ok (.lstore 7, 2) := by decide +kernel
theorem d_M_leg_79 : decode b_M_leg 79 = .ok (.aload_n 0, 1) := by decide +kernel
theorem d_M_leg_80 : decode b_M_leg 80 = .ok (.getfield 157, 3) := by decide +kernel
theorem d_M_leg_83 : decode b_M_leg 83 = .ok (.lconst 0, 1) := by decide +kernel
theorem d_M_leg_84 : decode b_M_leg 84 = .ok (.lcmp, 1) := by decide +kernel
theorem d_M_leg_85 : decode b_M_leg 85 = .ok (.ifCond .le 24, 3) := by decide +kernel
theorem d_M_leg_88 : decode b_M_leg 88 = .ok (.aload_n 0, 1) := by decide +kernel
theorem d_M_leg_89 : decode b_M_leg 89 = .ok (.getfield 157, 3) := by decide +kernel
theorem d_M_leg_92 : decode b_M_leg 92 = .ok (.ldc2_w 62, 3) := by decide +kernel
theorem d_M_leg_95 : decode b_M_leg 95 = .ok (.aload_n 0, 1) := by decide +kernel
theorem d_M_leg_96 : decode b_M_leg 96 = .ok (.getfield 55, 3) := by decide +kernel
theorem d_M_leg_99 : decode b_M_leg 99 = .ok (.i2l, 1) := by decide +kernel
theorem d_M_leg_100 : decode b_M_leg 100 = .ok (.lsub, 1) := by decide +kernel
theorem d_M_leg_101 : decode b_M_leg 101 = .ok (.lmul, 1) := by decide +kernel
theorem d_M_leg_102 : decode b_M_leg 102 = .ok (.ldc2_w 62, 3) := by decide +kernel
theorem d_M_leg_105 : decode b_M_leg 105 = .ok (.ldiv, 1) := by decide +kernel
theorem d_M_leg_106 : decode b_M_leg 106 = .ok (.goto 4, 3) := by decide +kernel
theorem d_M_leg_109 : decode b_M_leg 109 = .ok (.lconst 0, 1) := by decide +kernel
theorem d_M_leg_110 : decode b_M_leg 110 = .ok (.lstore 9, 2) := by decide +kernel
theorem d_M_leg_112 : decode b_M_leg 112 = .ok (.aload_n 0, 1) := by decide +kernel
theorem d_M_leg_113 : decode b_M_leg 113 = .ok (.getfield 157, 3) := by decide +kernel
theorem d_M_leg_116 : decode b_M_leg 116 = .ok (.lconst 0, 1) := by decide +kernel
theorem d_M_leg_117 : decode b_M_leg 117 = .ok (.lcmp, 1) := by decide +kernel
theorem d_M_leg_118 : decode b_M_leg 118 = .ok (.ifCond .ge 11, 3) := by decide +kernel
theorem d_M_leg_121 : decode b_M_leg 121 = .ok (.aload_n 0, 1) := by decide +kernel
theorem d_M_leg_122 : decode b_M_leg 122 = .ok (.getfield 157, 3) := by decide +kernel
theorem d_M_leg_125 : decode b_M_leg 125 = .ok (.lneg, 1) := by decide +kernel
theorem d_M_leg_126 : decode b_M_leg 126 = .ok (.goto 4, 3) := by decide +kernel
theorem d_M_leg_129 : decode b_M_leg 129 = .ok (.lconst 0, 1) := by decide +kernel
theorem d_M_leg_130 : decode b_M_leg 130 = .ok (.lstore 11, 2) := by decide +kernel
theorem d_M_leg_132 : decode b_M_leg 132 = .ok (.aload_n 0, 1) := by decide +kernel
theorem d_M_leg_133 : decode b_M_leg 133 = .ok (.getfield 157, 3) := by decide +kernel
theorem d_M_leg_136 : decode b_M_leg 136 = .ok (.lconst 0, 1) := by decide +kernel
theorem d_M_leg_137 : decode b_M_leg 137 = .ok (.lcmp, 1) := by decide +kernel
theorem d_M_leg_138 : decode b_M_leg 138 = .ok (.ifCond .le 29, 3) := by decide +kernel
theorem d_M_leg_141 : decode b_M_leg 141 = .ok (.lload 9, 2) := by decide +kernel
theorem d_M_leg_143 : decode b_M_leg 143 = .ok (.iload_n 1, 1) := by decide +kernel
theorem d_M_leg_144 : decode b_M_leg 144 = .ok (.aload_n 0, 1) := by decide +kernel
theorem d_M_leg_145 : decode b_M_leg 145 = .ok (.getfield 160, 3) := by decide +kernel
theorem d_M_leg_148 : decode b_M_leg 148 = .ok (.lload 5, 2) := by decide +kernel
theorem d_M_leg_150 : decode b_M_leg 150 = .ok (.lload 7, 2) := by decide +kernel
theorem d_M_leg_152 : decode b_M_leg 152 = .ok (.invokestatic 170, 3) := by decide +kernel
theorem d_M_leg_155 : decode b_M_leg 155 = .ok (.lcmp, 1) := by decide +kernel
theorem d_M_leg_156 : decode b_M_leg 156 = .ok (.ifCond .lt 7, 3) := by decide +kernel
theorem d_M_leg_159 : decode b_M_leg 159 = .ok (.iconst 1, 1) := by decide +kernel
theorem d_M_leg_160 : decode b_M_leg 160 = .ok (.goto 30, 3) := by decide +kernel
theorem d_M_leg_163 : decode b_M_leg 163 = .ok (.iconst 0, 1) := by decide +kernel
theorem d_M_leg_164 : decode b_M_leg 164 = .ok (.goto 26, 3) := by decide +kernel
theorem d_M_leg_167 : decode b_M_leg 167 = .ok (.lload 11, 2) := by decide +kernel
theorem d_M_leg_169 : decode b_M_leg 169 = .ok (.iload_n 1, 1) := by decide +kernel
theorem d_M_leg_170 : decode b_M_leg 170 = .ok (.aload_n 0, 1) := by decide +kernel
theorem d_M_leg_171 : decode b_M_leg 171 = .ok (.getfield 160, 3) := by decide +kernel
theorem d_M_leg_174 : decode b_M_leg 174 = .ok (.lload 5, 2) := by decide +kernel
theorem d_M_leg_176 : decode b_M_leg 176 = .ok (.lload 7, 2) := by decide +kernel
theorem d_M_leg_178 : decode b_M_leg 178 = .ok (.invokestatic 174, 3) := by decide +kernel
theorem d_M_leg_181 : decode b_M_leg 181 = .ok (.lcmp, 1) := by decide +kernel
theorem d_M_leg_182 : decode b_M_leg 182 = .ok (.ifCond .lt 7, 3) := by decide +kernel
theorem d_M_leg_185 : decode b_M_leg 185 = .ok (.iconst 1, 1) := by decide +kernel
theorem d_M_leg_186 : decode b_M_leg 186 = .ok (.goto 4, 3) := by decide +kernel
theorem d_M_leg_189 : decode b_M_leg 189 = .ok (.iconst 0, 1) := by decide +kernel
theorem d_M_leg_190 : decode b_M_leg 190 = .ok (.istore 13, 2) := by decide +kernel
theorem d_M_leg_192 : decode b_M_leg 192 = .ok (.iload 13, 2) := by decide +kernel
theorem d_M_leg_194 : decode b_M_leg 194 = .ok (.ifCond .eq 8, 3) := by decide +kernel
theorem d_M_leg_197 : decode b_M_leg 197 = .ok (.lload 5, 2) := by decide +kernel
theorem d_M_leg_199 : decode b_M_leg 199 = .ok (.goto 14, 3) := by decide +kernel
theorem d_M_leg_202 : decode b_M_leg 202 = .ok (.aload_n 0, 1) := by decide +kernel
theorem d_M_leg_203 : decode b_M_leg 203 = .ok (.iload_n 1, 1) := by decide +kernel
theorem d_M_leg_204 : decode b_M_leg 204 = .ok (.lload 7, 2) := by decide +kernel
theorem d_M_leg_206 : decode b_M_leg 206 = .ok (.lload 9, 2) := by decide +kernel
theorem d_M_leg_208 : decode b_M_leg 208 = .ok (.lload 11, 2) := by decide +kernel
theorem d_M_leg_210 : decode b_M_leg 210 = .ok (.invokevirtual 177, 3) := by decide +kernel
theorem d_M_leg_213 : decode b_M_leg 213 = .ok (.lstore 14, 2) := by decide +kernel
theorem d_M_leg_215 : decode b_M_leg 215 = .ok (.iload_n 1, 1) := by decide +kernel
theorem d_M_leg_216 : decode b_M_leg 216 = .ok (.aload_n 0, 1) := by decide +kernel
theorem d_M_leg_217 : decode b_M_leg 217 = .ok (.getfield 160, 3) := by decide +kernel
theorem d_M_leg_220 : decode b_M_leg 220 = .ok (.lload 14, 2) := by decide +kernel
theorem d_M_leg_222 : decode b_M_leg 222 = .ok (.lload 7, 2) := by decide +kernel
theorem d_M_leg_224 : decode b_M_leg 224 = .ok (.invokestatic 170, 3) := by decide +kernel
theorem d_M_leg_227 : decode b_M_leg 227 = .ok (.lstore 16, 2) := by decide +kernel
theorem d_M_leg_229 : decode b_M_leg 229 = .ok (.iload_n 1, 1) := by decide +kernel
theorem d_M_leg_230 : decode b_M_leg 230 = .ok (.aload_n 0, 1) := by decide +kernel
theorem d_M_leg_231 : decode b_M_leg 231 = .ok (.getfield 160, 3) := by decide +kernel
theorem d_M_leg_234 : decode b_M_leg 234 = .ok (.lload 14, 2) := by decide +kernel
theorem d_M_leg_236 : decode b_M_leg 236 = .ok (.lload 7, 2) := by decide +kernel
theorem d_M_leg_238 : decode b_M_leg 238 = .ok (.invokestatic 174, 3) := by decide +kernel
theorem d_M_leg_241 : decode b_M_leg 241 = .ok (.lstore 18, 2) := by decide +kernel
theorem d_M_leg_243 : decode b_M_leg 243 = .ok (.aload_n 0, 1) := by decide +kernel
theorem d_M_leg_244 : decode b_M_leg 244 = .ok (.getfield 157, 3) := by decide +kernel
theorem d_M_leg_247 : decode b_M_leg 247 = .ok (.lconst 0, 1) := by decide +kernel
theorem d_M_leg_248 : decode b_M_leg 248 = .ok (.lcmp, 1) := by decide +kernel
theorem d_M_leg_249 : decode b_M_leg 249 = .ok (.ifCond .ge 16, 3) := by decide +kernel
theorem d_M_leg_252 : decode b_M_leg 252 = .ok (.lload 18, 2) := by decide +kernel
theorem d_M_leg_254 : decode b_M_leg 254 = .ok (.lload 11, 2) := by decide +kernel
theorem d_M_leg_256 : decode b_M_leg 256 = .ok (.lcmp, 1) := by decide +kernel
theorem d_M_leg_257 : decode b_M_leg 257 = .ok (.ifCond .le 8, 3) := by decide +kernel
theorem d_M_leg_260 : decode b_M_leg 260 = .ok (.lload 11, 2) := by decide +kernel
theorem d_M_leg_262 : decode b_M_leg 262 = .ok (.goto 5, 3) := by decide +kernel
theorem d_M_leg_265 : decode b_M_leg 265 = .ok (.lload 18, 2) := by decide +kernel
theorem d_M_leg_267 : decode b_M_leg 267 = .ok (.lstore 18, 2) := by decide +kernel
theorem d_M_leg_269 : decode b_M_leg 269 = .ok (.aload_n 0, 1) := by decide +kernel
theorem d_M_leg_270 : decode b_M_leg 270 = .ok (.getfield 157, 3) := by decide +kernel
theorem d_M_leg_273 : decode b_M_leg 273 = .ok (.lconst 0, 1) := by decide +kernel
theorem d_M_leg_274 : decode b_M_leg 274 = .ok (.lcmp, 1) := by decide +kernel
theorem d_M_leg_275 : decode b_M_leg 275 = .ok (.ifCond .le 21, 3) := by decide +kernel
theorem d_M_leg_278 : decode b_M_leg 278 = .ok (.lload 14, 2) := by decide +kernel
theorem d_M_leg_280 : decode b_M_leg 280 = .ok (.lload 5, 2) := by decide +kernel
theorem d_M_leg_282 : decode b_M_leg 282 = .ok (.lcmp, 1) := by decide +kernel
theorem d_M_leg_283 : decode b_M_leg 283 = .ok (.ifCond .eq 13, 3) := by decide +kernel
theorem d_M_leg_286 : decode b_M_leg 286 = .ok (.aload_n 0, 1) := by decide +kernel
theorem d_M_leg_287 : decode b_M_leg 287 = .ok (.getfield 157, 3) := by decide +kernel
theorem d_M_leg_290 : decode b_M_leg 290 = .ok (.lload 16, 2) := by decide +kernel
theorem d_M_leg_292 : decode b_M_leg 292 = .ok (.lsub, 1) := by decide +kernel
theorem d_M_leg_293 : decode b_M_leg 293 = .ok (.goto 24, 3) := by decide +kernel
theorem d_M_leg_296 : decode b_M_leg 296 = .ok (.lload 16, 2) := by decide +kernel
theorem d_M_leg_298 : decode b_M_leg 298 = .ok (.aload_n 0, 1) := by decide +kernel
theorem d_M_leg_299 : decode b_M_leg 299 = .ok (.getfield 55, 3) := by decide +kernel
theorem d_M_leg_302 : decode b_M_leg 302 = .ok (.i2l, 1) := by decide +kernel
theorem d_M_leg_303 : decode b_M_leg 303 = .ok (.lmul, 1) := by decide +kernel
theorem d_M_leg_304 : decode b_M_leg 304 = .ok (.ldc2_w 62, 3) := by decide +kernel
theorem d_M_leg_307 : decode b_M_leg 307 = .ok (.aload_n 0, 1) := by decide +kernel
theorem d_M_leg_308 : decode b_M_leg 308 = .ok (.getfield 55, 3) := by decide +kernel
theorem d_M_leg_311 : decode b_M_leg 311 = .ok (.i2l, 1) := by decide +kernel
theorem d_M_leg_312 : decode b_M_leg 312 = .ok (.lsub, 1) := by decide +kernel
theorem d_M_leg_313 : decode b_M_leg 313 = .ok (.iconst 1, 1) := by decide +kernel
theorem d_M_leg_314 : decode b_M_leg 314 = .ok (.invokestatic 64, 3) := by decide +kernel
theorem d_M_leg_317 : decode b_M_leg 317 = .ok (.lstore 20, 2) := by decide +kernel
theorem d_M_leg_319 : decode b_M_leg 319 = .ok (.aload_n 0, 1) := by decide +kernel
theorem d_M_leg_320 : decode b_M_leg 320 = .ok (.dup, 1) := by decide +kernel
theorem d_M_leg_321 : decode b_M_leg 321 = .ok (.getfield 180, 3) := by decide +kernel
theorem d_M_leg_324 : decode b_M_leg 324 = .ok (.lload 16, 2) := by decide +kernel
theorem d_M_leg_326 : decode b_M_leg 326 = .ok (.lload 20, 2) := by decide +kernel
theorem d_M_leg_328 : decode b_M_leg 328 = .ok (.ladd, 1) := by decide +kernel
theorem d_M_leg_329 : decode b_M_leg 329 = .ok (.ladd, 1) := by decide +kernel
theorem d_M_leg_330 : decode b_M_leg 330 = .ok (.putfield 180, 3) := by decide +kernel
theorem d_M_leg_333 : decode b_M_leg 333 = .ok (.aload_n 0, 1) := by decide +kernel
theorem d_M_leg_334 : decode b_M_leg 334 = .ok (.dup, 1) := by decide +kernel
theorem d_M_leg_335 : decode b_M_leg 335 = .ok (.getfield 183, 3) := by decide +kernel
theorem d_M_leg_338 : decode b_M_leg 338 = .ok (.lload 18, 2) := by decide +kernel
theorem d_M_leg_340 : decode b_M_leg 340 = .ok (.ladd, 1) := by decide +kernel
theorem d_M_leg_341 : decode b_M_leg 341 = .ok (.putfield 183, 3) := by decide +kernel
theorem d_M_leg_344 : decode b_M_leg 344 = .ok (.aload_n 0, 1) := by decide +kernel
theorem d_M_leg_345 : decode b_M_leg 345 = .ok (.aload_n 0, 1) := by decide +kernel
theorem d_M_leg_346 : decode b_M_leg 346 = .ok (.getfield 157, 3) := by decide +kernel
theorem d_M_leg_349 : decode b_M_leg 349 = .ok (.lconst 0, 1) := by decide +kernel
theorem d_M_leg_350 : decode b_M_leg 350 = .ok (.lcmp, 1) := by decide +kernel
theorem d_M_leg_351 : decode b_M_leg 351 = .ok (.ifCond .le 16, 3) := by decide +kernel
theorem d_M_leg_354 : decode b_M_leg 354 = .ok (.aload_n 0, 1) := by decide +kernel
theorem d_M_leg_355 : decode b_M_leg 355 = .ok (.getfield 157, 3) := by decide +kernel
theorem d_M_leg_358 : decode b_M_leg 358 = .ok (.lload 16, 2) := by decide +kernel
theorem d_M_leg_360 : decode b_M_leg 360 = .ok (.lsub, 1) := by decide +kernel
theorem d_M_leg_361 : decode b_M_leg 361 = .ok (.lload 20, 2) := by decide +kernel
theorem d_M_leg_363 : decode b_M_leg 363 = .ok (.lsub, 1) := by decide +kernel
theorem d_M_leg_364 : decode b_M_leg 364 = .ok (.goto 10, 3) := by decide +kernel
theorem d_M_leg_367 : decode b_M_leg 367 = .ok (.aload_n 0, 1) := by decide +kernel
theorem d_M_leg_368 : decode b_M_leg 368 = .ok (.getfield 157, 3) := by decide +kernel
theorem d_M_leg_371 : decode b_M_leg 371 = .ok (.lload 18, 2) := by decide +kernel
theorem d_M_leg_373 : decode b_M_leg 373 = .ok (.ladd, 1) := by decide +kernel
theorem d_M_leg_374 : decode b_M_leg 374 = .ok (.putfield 157, 3) := by decide +kernel
theorem d_M_leg_377 : decode b_M_leg 377 = .ok (.iconst 0, 1) := by decide +kernel
theorem d_M_leg_378 : decode b_M_leg 378 = .ok (.istore 22, 2) := by decide +kernel
theorem d_M_leg_380 : decode b_M_leg 380 = .ok (.iload 22, 2) := by decide +kernel
theorem d_M_leg_382 : decode b_M_leg 382 = .ok (.bipush 10, 2) := by decide +kernel
theorem d_M_leg_384 : decode b_M_leg 384 = .ok (.if_icmp .ge 77, 3) := by decide +kernel
theorem d_M_leg_387 : decode b_M_leg 387 = .ok (.lload 7, 2) := by decide +kernel
theorem d_M_leg_389 : decode b_M_leg 389 = .ok (.lconst 0, 1) := by decide +kernel
theorem d_M_leg_390 : decode b_M_leg 390 = .ok (.lcmp, 1) := by decide +kernel
theorem d_M_leg_391 : decode b_M_leg 391 = .ok (.ifCond .le 70, 3) := by decide +kernel
theorem d_M_leg_394 : decode b_M_leg 394 = .ok (.aload_n 0, 1) := by decide +kernel
theorem d_M_leg_395 : decode b_M_leg 395 = .ok (.getfield 48, 3) := by decide +kernel
theorem d_M_leg_398 : decode b_M_leg 398 = .ok (.iload 22, 2) := by decide +kernel
theorem d_M_leg_400 : decode b_M_leg 400 = .ok (.dup2, 1) := by decide +kernel
theorem d_M_leg_401 : decode b_M_leg 401 = .ok (.laload, 1) := by decide +kernel
theorem d_M_leg_402 : decode b_M_leg 402 = .ok (.aload_n 0, 1) := by decide +kernel
theorem d_M_leg_403 : decode b_M_leg 403 = .ok (.getfield 19, 3) := by decide +kernel
theorem d_M_leg_406 : decode b_M_leg 406 = .ok (.iload 22, 2) := by decide +kernel
theorem d_M_leg_408 : decode b_M_leg 408 = .ok (.baload, 1) := by decide +kernel
theorem d_M_leg_409 : decode b_M_leg 409 = .ok (.ifCond .eq 43, 3) := by decide +kernel
theorem d_M_leg_412 : decode b_M_leg 412 = .ok (.aload_n 0, 1) := by decide +kernel
theorem d_M_leg_413 : decode b_M_leg 413 = .ok (.getfield 27, 3) := by decide +kernel
theorem d_M_leg_416 : decode b_M_leg 416 = .ok (.iload 22, 2) := by decide +kernel
theorem d_M_leg_418 : decode b_M_leg 418 = .ok (.iaload, 1) := by decide +kernel
theorem d_M_leg_419 : decode b_M_leg 419 = .ok (.aload_n 0, 1) := by decide +kernel
theorem d_M_leg_420 : decode b_M_leg 420 = .ok (.getfield 154, 3) := by decide +kernel
theorem d_M_leg_423 : decode b_M_leg 423 = .ok (.if_icmp .gt 29, 3) := by decide +kernel
theorem d_M_leg_426 : decode b_M_leg 426 = .ok (.aload_n 0, 1) := by decide +kernel
theorem d_M_leg_427 : decode b_M_leg 427 = .ok (.getfield 154, 3) := by decide +kernel
theorem d_M_leg_430 : decode b_M_leg 430 = .ok (.aload_n 0, 1) := by decide +kernel
theorem d_M_leg_431 : decode b_M_leg 431 = .ok (.getfield 30, 3) := by decide +kernel
theorem d_M_leg_434 : decode b_M_leg 434 = .ok (.iload 22, 2) := by decide +kernel
theorem d_M_leg_436 : decode b_M_leg 436 = .ok (.iaload, 1) := by decide +kernel
theorem d_M_leg_437 : decode b_M_leg 437 = .ok (.if_icmp .ge 15, 3) := by decide +kernel
theorem d_M_leg_440 : decode b_M_leg 440 = .ok (.lload 20, 2) := by decide +kernel
theorem d_M_leg_442 : decode b_M_leg 442 = .ok (.ldc2_w 103, 3) := by decide +kernel
theorem d_M_leg_445 : decode b_M_leg 445 = .ok (.lmul, 1) := by decide +kernel
theorem d_M_leg_446 : decode b_M_leg 446 = .ok (.lload 7, 2) := by decide +kernel
theorem d_M_leg_448 : decode b_M_leg 448 = .ok (.ldiv, 1) := by decide +kernel
theorem d_M_leg_449 : decode b_M_leg 449 = .ok (.goto 4, 3) := by decide +kernel
theorem d_M_leg_452 : decode b_M_leg 452 = .ok (.lconst 0, 1) := by decide +kernel
theorem d_M_leg_453 : decode b_M_leg 453 = .ok (.ladd, 1) := by decide +kernel
theorem d_M_leg_454 : decode b_M_leg 454 = .ok (.lastore, 1) := by decide +kernel
theorem d_M_leg_455 : decode b_M_leg 455 = .ok (.iinc 22 1, 3) := by decide +kernel
theorem d_M_leg_458 : decode b_M_leg 458 = .ok (.goto (-78), 3) := by decide +kernel
theorem d_M_leg_461 : decode b_M_leg 461 = .ok (.lload 14, 2) := by decide +kernel
theorem d_M_leg_463 : decode b_M_leg 463 = .ok (.aload_n 0, 1) := by decide +kernel
theorem d_M_leg_464 : decode b_M_leg 464 = .ok (.getfield 160, 3) := by decide +kernel
theorem d_M_leg_467 : decode b_M_leg 467 = .ok (.lcmp, 1) := by decide +kernel
theorem d_M_leg_468 : decode b_M_leg 468 = .ok (.ifCond .eq 7, 3) := by decide +kernel
theorem d_M_leg_471 : decode b_M_leg 471 = .ok (.iconst 1, 1) := by decide +kernel
theorem d_M_leg_472 : decode b_M_leg 472 = .ok (.goto 4, 3) := by decide +kernel
theorem d_M_leg_475 : decode b_M_leg 475 = .ok (.iconst 0, 1) := by decide +kernel
theorem d_M_leg_476 : decode b_M_leg 476 = .ok (.istore 22, 2) := by decide +kernel
theorem d_M_leg_478 : decode b_M_leg 478 = .ok (.aload_n 0, 1) := by decide +kernel
theorem d_M_leg_479 : decode b_M_leg 479 = .ok (.lload 14, 2) := by decide +kernel
theorem d_M_leg_481 : decode b_M_leg 481 = .ok (.putfield 160, 3) := by decide +kernel
theorem d_M_leg_484 : decode b_M_leg 484 = .ok (.iload 4, 2) := by decide +kernel
theorem d_M_leg_486 : decode b_M_leg 486 = .ok (.bipush 99, 2) := by decide +kernel
theorem d_M_leg_488 : decode b_M_leg 488 = .ok (.if_icmp .eq 35, 3) := by decide +kernel
theorem d_M_leg_491 : decode b_M_leg 491 = .ok (.lload 14, 2) := by decide +kernel
theorem d_M_leg_493 : decode b_M_leg 493 = .ok (.aload_n 0, 1) := by decide +kernel
theorem d_M_leg_494 : decode b_M_leg 494 = .ok (.iload 4, 2) := by decide +kernel
theorem d_M_leg_496 : decode b_M_leg 496 = .ok (.invokevirtual 89, 3) := by decide +kernel
theorem d_M_leg_499 : decode b_M_leg 499 = .ok (.lcmp, 1) := by decide +kernel
theorem d_M_leg_500 : decode b_M_leg 500 = .ok (.ifCond .ne 23, 3) := by decide +kernel
theorem d_M_leg_503 : decode b_M_leg 503 = .ok (.aload_n 0, 1) := by decide +kernel
theorem d_M_leg_504 : decode b_M_leg 504 = .ok (.iload_n 1, 1) := by decide +kernel
theorem d_M_leg_505 : decode b_M_leg 505 = .ok (.ifCond .eq 10, 3) := by decide +kernel
theorem d_M_leg_508 : decode b_M_leg 508 = .ok (.iload 4, 2) := by decide +kernel
theorem d_M_leg_510 : decode b_M_leg 510 = .ok (.iconst 1, 1) := by decide +kernel
theorem d_M_leg_511 : decode b_M_leg 511 = .ok (.isub, 1) := by decide +kernel
theorem d_M_leg_512 : decode b_M_leg 512 = .ok (.goto 5, 3) := by decide +kernel
theorem d_M_leg_515 : decode b_M_leg 515 = .ok (.iload 4, 2) := by decide +kernel
theorem d_M_leg_517 : decode b_M_leg 517 = .ok (.putfield 154, 3) := by decide +kernel
theorem d_M_leg_520 : decode b_M_leg 520 = .ok (.goto 56, 3) := by decide +kernel
theorem d_M_leg_523 : decode b_M_leg 523 = .ok (.iload 22, 2) := by decide +kernel
theorem d_M_leg_525 : decode b_M_leg 525 = .ok (.ifCond .eq 51, 3) := by decide +kernel
theorem d_M_leg_528 : decode b_M_leg 528 = .ok (.aload_n 0, 1) := by decide +kernel
theorem d_M_leg_529 : decode b_M_leg 529 = .ok (.bipush (-24), 2) := by decide +kernel
theorem d_M_leg_531 : decode b_M_leg 531 = .ok (.putfield 154, 3) := by decide +kernel
theorem d_M_leg_534 : decode b_M_leg 534 = .ok (.bipush (-24), 2) := by decide +kernel
theorem d_M_leg_536 : decode b_M_leg 536 = .ok (.istore 23, 2) := by decide +kernel
theorem d_M_leg_538 : decode b_M_leg 538 = .ok (.iload 23, 2) := by decide +kernel
theorem d_M_leg_540 : decode b_M_leg 540 = .ok (.bipush 24, 2) := by decide +kernel
theorem d_M_leg_542 : decode b_M_leg 542 = .ok (.if_icmp .gt 34, 3) := by decide +kernel
theorem d_M_leg_545 : decode b_M_leg 545 = .ok (.aload_n 0, 1) := by decide +kernel
theorem d_M_leg_546 : decode b_M_leg 546 = .ok (.aload_n 0, 1) := by decide +kernel
theorem d_M_leg_547 : decode b_M_leg 547 = .ok (.iload 23, 2) := by decide +kernel
theorem d_M_leg_549 : decode b_M_leg 549 = .ok (.invokevirtual 89, 3) := by decide +kernel
theorem d_M_leg_552 : decode b_M_leg 552 = .ok (.lload 14, 2) := by decide +kernel
theorem d_M_leg_554 : decode b_M_leg 554 = .ok (.lcmp, 1) := by decide +kernel
theorem d_M_leg_555 : decode b_M_leg 555 = .ok (.ifCond .gt 8, 3) := by decide +kernel
theorem d_M_leg_558 : decode b_M_leg 558 = .ok (.iload 23, 2) := by decide +kernel
theorem d_M_leg_560 : decode b_M_leg 560 = .ok (.goto 7, 3) := by decide +kernel
theorem d_M_leg_563 : decode b_M_leg 563 = .ok (.aload_n 0, 1) := by decide +kernel
theorem d_M_leg_564 : decode b_M_leg 564 = .ok (.getfield 154, 3) := by decide +kernel
theorem d_M_leg_567 : decode b_M_leg 567 = .ok (.putfield 154, 3) := by decide +kernel
theorem d_M_leg_570 : decode b_M_leg 570 = .ok (.iinc 23 1, 3) := by decide +kernel
theorem d_M_leg_573 : decode b_M_leg 573 = .ok (.goto (-35), 3) := by decide +kernel
theorem d_M_leg_576 : decode b_M_leg 576 = .ok (.return_, 1) := by decide +kernel
theorem d_M_work_0 : decode b_M_work 0 = .ok (.iload_n 2, 1) := by decide +kernel
theorem d_M_work_1 : decode b_M_work 1 = .ok (.ifCond .eq 55, 3) := by decide +kernel
theorem d_M_work_4 : decode b_M_work 4 = .ok (.iload_n 2, 1) := by decide +kernel
theorem d_M_work_5 : decode b_M_work 5 = .ok (.ldc 186, 2) := by decide +kernel
theorem d_M_work_7 : decode b_M_work 7 = .ok (.if_icmp .lt 49, 3) := by decide +kernel
theorem d_M_work_10 : decode b_M_work 10 = .ok (.iload_n 2, 1) := by decide +kernel
theorem d_M_work_11 : decode b_M_work 11 = .ok (.ldc 118, 2) := by decide +kernel
theorem d_M_work_13 : decode b_M_work 13 = .ok (.if_icmp .gt 43, 3) := by decide +kernel
theorem d_M_work_16 : decode b_M_work 16 = .ok (.iload_n 3, 1) := by decide +kernel
theorem d_M_work_17 : decode b_M_work 17 = .ok (.invokestatic 82, 3) := by decide +kernel
theorem d_M_work_20 : decode b_M_work 20 = .ok (.ifCond .eq 36, 3) := by decide +kernel
theorem d_M_work_23 : decode b_M_work 23 = .ok (.iload_n 1, 1) := by decide +kernel
theorem d_M_work_24 : decode b_M_work 24 = .ok (.ifCond .eq 19, 3) := by decide +kernel
theorem d_M_work_27 : decode b_M_work 27 = .ok (.aload_n 0, 1) := by decide +kernel
theorem d_M_work_28 : decode b_M_work 28 = .ok (.iload_n 3, 1) := by decide +kernel
theorem d_M_work_29 : decode b_M_work 29 = .ok (.invokevirtual 89, 3) := by decide +kernel
theorem d_M_work_32 : decode b_M_work 32 = .ok (.aload_n 0, 1) := by decide +kernel
theorem d_M_work_33 : decode b_M_work 33 = .ok (.getfield 93, 3) := by decide +kernel
theorem d_M_work_36 : decode b_M_work 36 = .ok (.lcmp, 1) := by decide +kernel
theorem d_M_work_37 : decode b_M_work 37 = .ok (.ifCond .lt 21, 3) := by decide +kernel
theorem d_M_work_40 : decode b_M_work 40 = .ok (.goto 16, 3) := by decide +kernel
theorem d_M_work_43 : decode b_M_work 43 = .ok (.aload_n 0, 1) := by decide +kernel
theorem d_M_work_44 : decode b_M_work 44 = .ok (.iload_n 3, 1) := by decide +kernel
theorem d_M_work_45 : decode b_M_work 45 = .ok (.invokevirtual 89, 3) := by decide +kernel
theorem d_M_work_48 : decode b_M_work 48 = .ok (.aload_n 0, 1) := by decide +kernel
theorem d_M_work_49 : decode b_M_work 49 = .ok (.getfield 93, 3) := by decide +kernel
theorem d_M_work_52 : decode b_M_work 52 = .ok (.lcmp, 1) := by decide +kernel
theorem d_M_work_53 : decode b_M_work 53 = .ok (.ifCond .gt 5, 3) := by decide +kernel
theorem d_M_work_56 : decode b_M_work 56 = .ok (.iconst 0, 1) := by decide +kernel
theorem d_M_work_57 : decode b_M_work 57 = .ok (.ireturn, 1) := by decide +kernel
theorem d_M_work_58 : decode b_M_work 58 = .ok (.aload_n 0, 1) := by decide +kernel
theorem d_M_work_59 : decode b_M_work 59 = .ok (.aload_n 0, 1) := by decide +kernel
theorem d_M_work_60 : decode b_M_work 60 = .ok (.getfield 93, 3) := by decide +kernel
theorem d_M_work_63 : decode b_M_work 63 = .ok (.putfield 160, 3) := by decide +kernel
theorem d_M_work_66 : decode b_M_work 66 = .ok (.aload_n 0, 1) := by decide +kernel
theorem d_M_work_67 : decode b_M_work 67 = .ok (.aload_n 0, 1) := by decide +kernel
theorem d_M_work_68 : decode b_M_work 68 = .ok (.getfield 86, 3) := by decide +kernel
theorem d_M_work_71 : decode b_M_work 71 = .ok (.putfield 154, 3) := by decide +kernel
theorem d_M_work_74 : decode b_M_work 74 = .ok (.aload_n 0, 1) := by decide +kernel
theorem d_M_work_75 : decode b_M_work 75 = .ok (.iload_n 2, 1) := by decide +kernel
theorem d_M_work_76 : decode b_M_work 76 = .ok (.i2l, 1) := by decide +kernel
theorem d_M_work_77 : decode b_M_work 77 = .ok (.putfield 157, 3) := by decide +kernel
theorem d_M_work_80 : decode b_M_work 80 = .ok (.aload_n 0, 1) := by decide +kernel
theorem d_M_work_81 : decode b_M_work 81 = .ok (.lconst 0, 1) := by decide +kernel
theorem d_M_work_82 : decode b_M_work 82 = .ok (.putfield 180, 3) := by decide +kernel
theorem d_M_work_85 : decode b_M_work 85 = .ok (.aload_n 0, 1) := by decide +kernel
theorem d_M_work_86 : decode b_M_work 86 = .ok (.lconst 0, 1) := by decide +kernel
theorem d_M_work_87 : decode b_M_work 87 = .ok (.putfield 183, 3) := by decide +kernel
theorem d_M_work_90 : decode b_M_work 90 = .ok (.iconst 0, 1) := by decide +kernel
theorem d_M_work_91 : decode b_M_work 91 = .ok (.istore 4, 2) := by decide +kernel
theorem d_M_work_93 : decode b_M_work 93 = .ok (.iload 4, 2) := by decide +kernel
theorem d_M_work_95 : decode b_M_work 95 = .ok (.bipush 10, 2) := by decide +kernel
theorem d_M_work_97 : decode b_M_work 97 = .ok (.if_icmp .ge 17, 3) := by decide +kernel
theorem d_M_work_100 : decode b_M_work 100 = .ok (.aload_n 0, 1) := by decide +kernel
theorem d_M_work_101 : decode b_M_work 101 = .ok (.getfield 48, 3) := by decide +kernel
theorem d_M_work_104 : decode b_M_work 104 = .ok (.iload 4, 2) := by decide +kernel
theorem d_M_work_106 : decode b_M_work 106 = .ok (.lconst 0, 1) := by decide +kernel
theorem d_M_work_107 : decode b_M_work 107 = .ok (.lastore, 1) := by decide +kernel
theorem d_M_work_108 : decode b_M_work 108 = .ok (.iinc 4 1, 3) := by decide +kernel
theorem d_M_work_111 : decode b_M_work 111 = .ok (.goto (-18), 3) := by decide +kernel
theorem d_M_work_114 : decode b_M_work 114 = .ok (.iconst 0, 1) := by decide +kernel
theorem d_M_work_115 : decode b_M_work 115 = .ok (.istore 4, 2) := by decide +kernel
theorem d_M_work_117 : decode b_M_work 117 = .ok (.iload 4, 2) := by decide +kernel
theorem d_M_work_119 : decode b_M_work 119 = .ok (.sipush 1000, 3) := by decide +kernel
theorem d_M_work_122 : decode b_M_work 122 = .ok (.if_icmp .ge 41, 3) := by decide +kernel
theorem d_M_work_125 : decode b_M_work 125 = .ok (.aload_n 0, 1) := by decide +kernel
theorem d_M_work_126 : decode b_M_work 126 = .ok (.getfield 157, 3) := by decide +kernel
theorem d_M_work_129 : decode b_M_work 129 = .ok (.lconst 0, 1) := by decide +kernel
theorem d_M_work_130 : decode b_M_work 130 = .ok (.lcmp, 1) := by decide +kernel
theorem d_M_work_131 : decode b_M_work 131 = .ok (.ifCond .eq 32, 3) := by decide +kernel
theorem d_M_work_134 : decode b_M_work 134 = .ok (.aload_n 0, 1) := by decide +kernel
theorem d_M_work_135 : decode b_M_work 135 = .ok (.getfield 160, 3) := by decide +kernel
theorem d_M_work_138 : decode b_M_work 138 = .ok (.aload_n 0, 1) := by decide +kernel
theorem d_M_work_139 : decode b_M_work 139 = .ok (.iload_n 3, 1) := by decide +kernel
theorem d_M_work_140 : decode b_M_work 140 = .ok (.invokevirtual 89, 3) := by decide +kernel
theorem d_M_work_143 : decode b_M_work 143 = .ok (.lcmp, 1) := by decide +kernel
theorem d_M_work_144 : decode b_M_work 144 = .ok (.ifCond .eq 19, 3) := by decide +kernel
theorem d_M_work_147 : decode b_M_work 147 = .ok (.aload_n 0, 1) := by decide +kernel
theorem d_M_work_148 : decode b_M_work 148 = .ok (.iload_n 1, 1) := by decide +kernel
theorem d_M_work_149 : decode b_M_work 149 = .ok (.aload_n 0, 1) := by decide +kernel
theorem d_M_work_150 : decode b_M_work 150 = .ok (.iload_n 3, 1) := by decide +kernel
theorem d_M_work_151 : decode b_M_work 151 = .ok (.invokevirtual 89, 3) := by decide +kernel
theorem d_M_work_154 : decode b_M_work 154 = .ok (.invokevirtual 187, 3) := by decide +kernel
theorem d_M_work_157 : decode b_M_work 157 = .ok (.iinc 4 1, 3) := by decide +kernel
theorem d_M_work_160 : decode b_M_work 160 = .ok (.goto (-43), 3) := by decide +kernel
theorem d_M_work_163 : decode b_M_work 163 = .ok (.iconst 1, 1) := by decide +kernel
theorem d_M_work_164 : decode b_M_work 164 = .ok (.ireturn, 1) := by decide +kernel
theorem d_M_swap_0 : decode b_M_swap 0 = .ok (.aload_n 0, 1) := by decide +kernel
theorem d_M_swap_1 : decode b_M_swap 1 = .ok (.getfield 78, 3) := by decide +kernel
theorem d_M_swap_4 : decode b_M_swap 4 = .ok (.ifCond .ne 7, 3) := by decide +kernel
theorem d_M_swap_7 : decode b_M_swap 7 = .ok (.ldc2_w 112, 3) := by decide +kernel
theorem d_M_swap_10 : decode b_M_swap 10 = .ok (.lreturn, 1) := by decide +kernel
theorem d_M_swap_11 : decode b_M_swap 11 = .ok (.iload_n 1, 1) := by decide +kernel
theorem d_M_swap_12 : decode b_M_swap 12 = .ok (.invokestatic 99, 3) := by decide +kernel
theorem d_M_swap_15 : decode b_M_swap 15 = .ok (.ifCond .eq 14, 3) := by decide +kernel
theorem d_M_swap_18 : decode b_M_swap 18 = .ok (.aload_n 0, 1) := by decide +kernel
theorem d_M_swap_19 : decode b_M_swap 19 = .ok (.iload_n 2, 1) := by decide +kernel
theorem d_M_swap_20 : decode b_M_swap 20 = .ok (.iload_n 3, 1) := by decide +kernel
theorem d_M_swap_21 : decode b_M_swap 21 = .ok (.iload 4, 2) := by decide +kernel
theorem d_M_swap_23 : decode b_M_swap 23 = .ok (.invokevirtual 191, 3) := by decide +kernel
theorem d_M_swap_26 : decode b_M_swap 26 = .ok (.ifCond .ne 7, 3) := by decide +kernel
theorem d_M_swap_29 : decode b_M_swap 29 = .ok (.ldc2_w 119, 3) := by decide +kernel
theorem d_M_swap_32 : decode b_M_swap 32 = .ok (.lreturn, 1) := by decide +kernel
theorem d_M_swap_33 : decode b_M_swap 33 = .ok (.iload_n 2, 1) := by decide +kernel
theorem d_M_swap_34 : decode b_M_swap 34 = .ok (.ifCond .eq 7, 3) := by decide +kernel
theorem d_M_swap_37 : decode b_M_swap 37 = .ok (.iconst 0, 1) := by decide +kernel
theorem d_M_swap_38 : decode b_M_swap 38 = .ok (.goto 4, 3) := by decide +kernel
theorem d_M_swap_41 : decode b_M_swap 41 = .ok (.iconst 1, 1) := by decide +kernel
theorem d_M_swap_42 : decode b_M_swap 42 = .ok (.istore 5, 2) := by decide +kernel
theorem d_M_swap_44 : decode b_M_swap 44 = .ok (.aload_n 0, 1) := by decide +kernel
theorem d_M_swap_45 : decode b_M_swap 45 = .ok (.getfield 13, 3) := by decide +kernel
theorem d_M_swap_48 : decode b_M_swap 48 = .ok (.iconst 2, 1) := by decide +kernel
theorem d_M_swap_49 : decode b_M_swap 49 = .ok (.iload_n 1, 1) := by decide +kernel
theorem d_M_swap_50 : decode b_M_swap 50 = .ok (.imul, 1) := by decide +kernel
theorem d_M_swap_51 : decode b_M_swap 51 = .ok (.iload 5, 2) := by decide +kernel
theorem d_M_swap_53 : decode b_M_swap 53 = .ok (.iadd, 1) := by decide +kernel
theorem d_M_swap_54 : decode b_M_swap 54 = .ok (.laload, 1) := by decide +kernel
theorem d_M_swap_55 : decode b_M_swap 55 = .ok (.aload_n 0, 1) := by decide +kernel
theorem d_M_swap_56 : decode b_M_swap 56 = .ok (.getfield 180, 3) := by decide +kernel
theorem d_M_swap_59 : decode b_M_swap 59 = .ok (.lcmp, 1) := by decide +kernel
theorem d_M_swap_60 : decode b_M_swap 60 = .ok (.ifCond .ge 7, 3) := by decide +kernel
theorem d_M_swap_63 : decode b_M_swap 63 = .ok (.ldc2_w 136, 3) := by decide +kernel
theorem d_M_swap_66 : decode b_M_swap 66 = .ok (.lreturn, 1) := by decide +kernel
theorem d_M_swap_67 : decode b_M_swap 67 = .ok (.aload_n 0, 1) := by decide +kernel
theorem d_M_swap_68 : decode b_M_swap 68 = .ok (.invokevirtual 96, 3) := by decide +kernel
theorem d_M_swap_71 : decode b_M_swap 71 = .ok (.aload_n 0, 1) := by decide +kernel
theorem d_M_swap_72 : decode b_M_swap 72 = .ok (.iload_n 1, 1) := by decide +kernel
theorem d_M_swap_73 : decode b_M_swap 73 = .ok (.iload_n 2, 1) := by decide +kernel
theorem d_M_swap_74 : decode b_M_swap 74 = .ok (.ifCond .eq 10, 3) := by decide +kernel
theorem d_M_swap_77 : decode b_M_swap 77 = .ok (.aload_n 0, 1) := by decide +kernel
theorem d_M_swap_78 : decode b_M_swap 78 = .ok (.getfield 180, 3) := by decide +kernel
theorem d_M_swap_81 : decode b_M_swap 81 = .ok (.goto 8, 3) := by decide +kernel
theorem d_M_swap_84 : decode b_M_swap 84 = .ok (.aload_n 0, 1) := by decide +kernel
theorem d_M_swap_85 : decode b_M_swap 85 = .ok (.getfield 183, 3) := by decide +kernel
theorem d_M_swap_88 : decode b_M_swap 88 = .ok (.lneg, 1) := by decide +kernel
theorem d_M_swap_89 : decode b_M_swap 89 = .ok (.iload_n 2, 1) := by decide +kernel
theorem d_M_swap_90 : decode b_M_swap 90 = .ok (.ifCond .eq 11, 3) := by decide +kernel
theorem d_M_swap_93 : decode b_M_swap 93 = .ok (.aload_n 0, 1) := by decide +kernel
theorem d_M_swap_94 : decode b_M_swap 94 = .ok (.getfield 183, 3) := by decide +kernel
theorem d_M_swap_97 : decode b_M_swap 97 = .ok (.lneg, 1) := by decide +kernel
theorem d_M_swap_98 : decode b_M_swap 98 = .ok (.goto 7, 3) := by decide +kernel
theorem d_M_swap_101 : decode b_M_swap 101 = .ok (.aload_n 0, 1) := by decide +kernel
theorem d_M_swap_102 : decode b_M_swap 102 = .ok (.getfield 180, 3) := by decide +kernel
theorem d_M_swap_105 : decode b_M_swap 105 = .ok (.invokevirtual 142, 3) := by decide +kernel
theorem d_M_swap_108 : decode b_M_swap 108 = .ok (.iconst 0, 1) := by decide +kernel
theorem d_M_swap_109 : decode b_M_swap 109 = .ok (.istore 6, 2) := by decide +kernel
theorem d_M_swap_111 : decode b_M_swap 111 = .ok (.iload 6, 2) := by decide +kernel
theorem d_M_swap_113 : decode b_M_swap 113 = .ok (.bipush 10, 2) := by decide +kernel
theorem d_M_swap_115 : decode b_M_swap 115 = .ok (.if_icmp .ge 45, 3) := by decide +kernel
theorem d_M_swap_118 : decode b_M_swap 118 = .ok (.aload_n 0, 1) := by decide +kernel
theorem d_M_swap_119 : decode b_M_swap 119 = .ok (.getfield 39, 3) := by decide +kernel
theorem d_M_swap_122 : decode b_M_swap 122 = .ok (.iconst 2, 1) := by decide +kernel
theorem d_M_swap_123 : decode b_M_swap 123 = .ok (.iload 6, 2) := by decide +kernel
theorem d_M_swap_125 : decode b_M_swap 125 = .ok (.imul, 1) := by decide +kernel
theorem d_M_swap_126 : decode b_M_swap 126 = .ok (.iload 5, 2) := by decide +kernel
theorem d_M_swap_128 : decode b_M_swap 128 = .ok (.iadd, 1) := by decide +kernel
theorem d_M_swap_129 : decode b_M_swap 129 = .ok (.dup2, 1) := by decide +kernel
theorem d_M_swap_130 : decode b_M_swap 130 = .ok (.laload, 1) := by decide +kernel
theorem d_M_swap_131 : decode b_M_swap 131 = .ok (.aload_n 0, 1) := by decide +kernel
theorem d_M_swap_132 : decode b_M_swap 132 = .ok (.getfield 19, 3) := by decide +kernel
theorem d_M_swap_135 : decode b_M_swap 135 = .ok (.iload 6, 2) := by decide +kernel
theorem d_M_swap_137 : decode b_M_swap 137 = .ok (.baload, 1) := by decide +kernel
theorem d_M_swap_138 : decode b_M_swap 138 = .ok (.ifCond .eq 13, 3) := by decide +kernel
theorem d_M_swap_141 : decode b_M_swap 141 = .ok (.aload_n 0, 1) := by decide +kernel
theorem d_M_swap_142 : decode b_M_swap 142 = .ok (.getfield 48, 3) := by decide +kernel
theorem d_M_swap_145 : decode b_M_swap 145 = .ok (.iload 6, 2) := by decide +kernel
theorem d_M_swap_147 : decode b_M_swap 147 = .ok (.laload, 1) := by decide +kernel
theorem d_M_swap_148 : decode b_M_swap 148 = .ok (.goto 4, 3) := by decide +kernel
theorem d_M_swap_151 : decode b_M_swap 151 = .ok (.lconst 0, 1) := by decide +kernel
theorem d_M_swap_152 : decode b_M_swap 152 = .ok (.ladd, 1) := by decide +kernel
theorem d_M_swap_153 : decode b_M_swap 153 = .ok (.lastore, 1) := by decide +kernel
theorem d_M_swap_154 : decode b_M_swap 154 = .ok (.iinc 6 1, 3) := by decide +kernel
theorem d_M_swap_157 : decode b_M_swap 157 = .ok (.goto (-46), 3) := by decide +kernel
theorem d_M_swap_160 : decode b_M_swap 160 = .ok (.aload_n 0, 1) := by decide +kernel
theorem d_M_swap_161 : decode b_M_swap 161 = .ok (.aload_n 0, 1) := by decide +kernel
theorem d_M_swap_162 : decode b_M_swap 162 = .ok (.getfield 160, 3) := by decide +kernel
theorem d_M_swap_165 : decode b_M_swap 165 = .ok (.putfield 93, 3) := by decide +kernel
theorem d_M_swap_168 : decode b_M_swap 168 = .ok (.aload_n 0, 1) := by decide +kernel
theorem d_M_swap_169 : decode b_M_swap 169 = .ok (.aload_n 0, 1) := by decide +kernel
theorem d_M_swap_170 : decode b_M_swap 170 = .ok (.getfield 154, 3) := by decide +kernel
theorem d_M_swap_173 : decode b_M_swap 173 = .ok (.putfield 86, 3) := by decide +kernel
theorem d_M_swap_176 : decode b_M_swap 176 = .ok (.aload_n 0, 1) := by decide +kernel
theorem d_M_swap_177 : decode b_M_swap 177 = .ok (.getfield 180, 3) := by decide +kernel
theorem d_M_swap_180 : decode b_M_swap 180 = .ok (.ldc2_w 103, 3) := by decide +kernel
theorem d_M_swap_183 : decode b_M_swap 183 = .ok (.lmul, 1) := by decide +kernel
theorem d_M_swap_184 : decode b_M_swap 184 = .ok (.aload_n 0, 1) := by decide +kernel
theorem d_M_swap_185 : decode b_M_swap 185 = .ok (.getfield 183, 3) := by decide +kernel
theorem d_M_swap_188 : decode b_M_swap 188 = .ok (.ladd, 1) := by decide +kernel
theorem d_M_swap_189 : decode b_M_swap 189 = .ok (.lreturn, 1) := by decide +kernel
theorem d_M_quote_0 : decode b_M_quote 0 = .ok (.aload_n 0, 1) := by decide +kernel
theorem d_M_quote_1 : decode b_M_quote 1 = .ok (.getfield 78, 3) := by decide +kernel
theorem d_M_quote_4 : decode b_M_quote 4 = .ok (.ifCond .ne 7, 3) := by decide +kernel
theorem d_M_quote_7 : decode b_M_quote 7 = .ok (.ldc2_w 112, 3) := by decide +kernel
theorem d_M_quote_10 : decode b_M_quote 10 = .ok (.lreturn, 1) := by decide +kernel
theorem d_M_quote_11 : decode b_M_quote 11 = .ok (.aload_n 0, 1) := by decide +kernel
theorem d_M_quote_12 : decode b_M_quote 12 = .ok (.iload_n 1, 1) := by decide +kernel
theorem d_M_quote_13 : decode b_M_quote 13 = .ok (.iload_n 2, 1) := by decide +kernel
theorem d_M_quote_14 : decode b_M_quote 14 = .ok (.iload_n 3, 1) := by decide +kernel
theorem d_M_quote_15 : decode b_M_quote 15 = .ok (.invokevirtual 191, 3) := by decide +kernel
theorem d_M_quote_18 : decode b_M_quote 18 = .ok (.ifCond .eq 19, 3) := by decide +kernel
theorem d_M_quote_21 : decode b_M_quote 21 = .ok (.aload_n 0, 1) := by decide +kernel
theorem d_M_quote_22 : decode b_M_quote 22 = .ok (.getfield 180, 3) := by decide +kernel
theorem d_M_quote_25 : decode b_M_quote 25 = .ok (.ldc2_w 103, 3) := by decide +kernel
theorem d_M_quote_28 : decode b_M_quote 28 = .ok (.lmul, 1) := by decide +kernel
theorem d_M_quote_29 : decode b_M_quote 29 = .ok (.aload_n 0, 1) := by decide +kernel
theorem d_M_quote_30 : decode b_M_quote 30 = .ok (.getfield 183, 3) := by decide +kernel
theorem d_M_quote_33 : decode b_M_quote 33 = .ok (.ladd, 1) := by decide +kernel
theorem d_M_quote_34 : decode b_M_quote 34 = .ok (.goto 6, 3) := by decide +kernel
theorem d_M_quote_37 : decode b_M_quote 37 = .ok (.ldc2_w 119, 3) := by decide +kernel
theorem d_M_quote_40 : decode b_M_quote 40 = .ok (.lreturn, 1) := by decide +kernel
theorem d_M_flash_0 : decode b_M_flash 0 = .ok (.aload_n 0, 1) := by decide +kernel
theorem d_M_flash_1 : decode b_M_flash 1 = .ok (.getfield 78, 3) := by decide +kernel
theorem d_M_flash_4 : decode b_M_flash 4 = .ok (.ifCond .ne 7, 3) := by decide +kernel
theorem d_M_flash_7 : decode b_M_flash 7 = .ok (.ldc2_w 112, 3) := by decide +kernel
theorem d_M_flash_10 : decode b_M_flash 10 = .ok (.lreturn, 1) := by decide +kernel
theorem d_M_flash_11 : decode b_M_flash 11 = .ok (.iload_n 2, 1) := by decide +kernel
theorem d_M_flash_12 : decode b_M_flash 12 = .ok (.ifCond .lt 23, 3) := by decide +kernel
theorem d_M_flash_15 : decode b_M_flash 15 = .ok (.iload_n 2, 1) := by decide +kernel
theorem d_M_flash_16 : decode b_M_flash 16 = .ok (.ldc 118, 2) := by decide +kernel
theorem d_M_flash_18 : decode b_M_flash 18 = .ok (.if_icmp .gt 17, 3) := by decide +kernel
theorem d_M_flash_21 : decode b_M_flash 21 = .ok (.iload_n 3, 1) := by decide +kernel
theorem d_M_flash_22 : decode b_M_flash 22 = .ok (.ifCond .lt 13, 3) := by decide +kernel
theorem d_M_flash_25 : decode b_M_flash 25 = .ok (.iload_n 3, 1) := by decide +kernel
theorem d_M_flash_26 : decode b_M_flash 26 = .ok (.ldc 118, 2) := by decide +kernel
theorem d_M_flash_28 : decode b_M_flash 28 = .ok (.if_icmp .gt 7, 3) := by decide +kernel
theorem d_M_flash_31 : decode b_M_flash 31 = .ok (.iconst 1, 1) := by decide +kernel
theorem d_M_flash_32 : decode b_M_flash 32 = .ok (.goto 4, 3) := by decide +kernel
theorem d_M_flash_35 : decode b_M_flash 35 = .ok (.iconst 0, 1) := by decide +kernel
theorem d_M_flash_36 : decode b_M_flash 36 = .ok (.istore 4, 2) := by decide +kernel
theorem d_M_flash_38 : decode b_M_flash 38 = .ok (.aload_n 0, 1) := by decide +kernel
theorem d_M_flash_39 : decode b_M_flash 39 = .ok (.aload_n 0, 1) := by decide +kernel
theorem d_M_flash_40 : decode b_M_flash 40 = .ok (.getfield 86, 3) := by decide +kernel
theorem d_M_flash_43 : decode b_M_flash 43 = .ok (.invokevirtual 167, 3) := by decide +kernel
theorem d_M_flash_46 : decode b_M_flash 46 = .ok (.lstore 5, 2) := by decide +kernel
theorem d_M_flash_48 : decode b_M_flash 48 = .ok (.iload_n 1, 1) := by decide +kernel
theorem d_M_flash_49 : decode b_M_flash 49 = .ok (.invokestatic 99, 3) := by decide +kernel
theorem d_M_flash_52 : decode b_M_flash 52 = .ok (.ifCond .eq 39, 3) := by decide +kernel
theorem d_M_flash_55 : decode b_M_flash 55 = .ok (.iload 4, 2) := by decide +kernel
theorem d_M_flash_57 : decode b_M_flash 57 = .ok (.ifCond .eq 34, 3) := by decide +kernel
theorem d_M_flash_60 : decode b_M_flash 60 = .ok (.iload_n 2, 1) := by decide +kernel
theorem d_M_flash_61 : decode b_M_flash 61 = .ok (.i2l, 1) := by decide +kernel
theorem d_M_flash_62 : decode b_M_flash 62 = .ok (.aload_n 0, 1) := by decide +kernel
theorem d_M_flash_63 : decode b_M_flash 63 = .ok (.getfield 16, 3) := by decide +kernel
theorem d_M_flash_66 : decode b_M_flash 66 = .ok (.iconst 0, 1) := by decide +kernel
theorem d_M_flash_67 : decode b_M_flash 67 = .ok (.laload, 1) := by decide +kernel
theorem d_M_flash_68 : decode b_M_flash 68 = .ok (.lcmp, 1) := by decide +kernel
theorem d_M_flash_69 : decode b_M_flash 69 = .ok (.ifCond .gt 22, 3) := by decide +kernel
theorem d_M_flash_72 : decode b_M_flash 72 = .ok (.iload_n 3, 1) := by decide +kernel
theorem d_M_flash_73 : decode b_M_flash 73 = .ok (.i2l, 1) := by decide +kernel
theorem d_M_flash_74 : decode b_M_flash 74 = .ok (.aload_n 0, 1) := by decide +kernel
theorem d_M_flash_75 : decode b_M_flash 75 = .ok (.getfield 16, 3) := by decide +kernel
theorem d_M_flash_78 : decode b_M_flash 78 = .ok (.iconst 1, 1) := by decide +kernel
theorem d_M_flash_79 : decode b_M_flash 79 = .ok (.laload, 1) := by decide +kernel
theorem d_M_flash_80 : decode b_M_flash 80 = .ok (.lcmp, 1) := by decide +kernel
theorem d_M_flash_81 : decode b_M_flash 81 = .ok (.ifCond .gt 10, 3) := by decide +kernel
theorem d_M_flash_84 : decode b_M_flash 84 = .ok (.lload 5, 2) := by decide +kernel
theorem d_M_flash_86 : decode b_M_flash 86 = .ok (.lconst 0, 1) := by decide +kernel
theorem d_M_flash_87 : decode b_M_flash 87 = .ok (.lcmp, 1) := by decide +kernel
theorem d_M_flash_88 : decode b_M_flash 88 = .ok (.ifCond .ne 7, 3) := by decide +kernel
theorem d_M_flash_91 : decode b_M_flash 91 = .ok (.ldc2_w 119, 3) := by decide +kernel
theorem d_M_flash_94 : decode b_M_flash 94 = .ok (.lreturn, 1) := by decide +kernel
theorem d_M_flash_95 : decode b_M_flash 95 = .ok (.iload_n 2, 1) := by decide +kernel
theorem d_M_flash_96 : decode b_M_flash 96 = .ok (.i2l, 1) := by decide +kernel
theorem d_M_flash_97 : decode b_M_flash 97 = .ok (.aload_n 0, 1) := by decide +kernel
theorem d_M_flash_98 : decode b_M_flash 98 = .ok (.getfield 55, 3) := by decide +kernel
theorem d_M_flash_101 : decode b_M_flash 101 = .ok (.i2l, 1) := by decide +kernel
theorem d_M_flash_102 : decode b_M_flash 102 = .ok (.lmul, 1) := by decide +kernel
theorem d_M_flash_103 : decode b_M_flash 103 = .ok (.ldc2_w 62, 3) := by decide +kernel
theorem d_M_flash_106 : decode b_M_flash 106 = .ok (.iconst 1, 1) := by decide +kernel
theorem d_M_flash_107 : decode b_M_flash 107 = .ok (.invokestatic 64, 3) := by decide +kernel
theorem d_M_flash_110 : decode b_M_flash 110 = .ok (.lstore 7, 2) := by decide +kernel
theorem d_M_flash_112 : decode b_M_flash 112 = .ok (.iload_n 3, 1) := by decide +kernel
theorem d_M_flash_113 : decode b_M_flash 113 = .ok (.i2l, 1) := by decide +kernel
theorem d_M_flash_114 : decode b_M_flash 114 = .ok (.aload_n 0, 1) := by decide +kernel
theorem d_M_flash_115 : decode b_M_flash 115 = .ok (.getfield 55, 3) := by decide +kernel
theorem d_M_flash_118 : decode b_M_flash 118 = .ok (.i2l, 1) := by decide +kernel
theorem d_M_flash_119 : decode b_M_flash 119 = .ok (.lmul, 1) := by decide +kernel
theorem d_M_flash_120 : decode b_M_flash 120 = .ok (.ldc2_w 62, 3) := by decide +kernel
theorem d_M_flash_123 : decode b_M_flash 123 = .ok (.iconst 1, 1) := by decide +kernel
theorem d_M_flash_124 : decode b_M_flash 124 = .ok (.invokestatic 64, 3) := by decide +kernel
theorem d_M_flash_127 : decode b_M_flash 127 = .ok (.lstore 9, 2) := by decide +kernel
theorem d_M_flash_129 : decode b_M_flash 129 = .ok (.aload_n 0, 1) := by decide +kernel
theorem d_M_flash_130 : decode b_M_flash 130 = .ok (.getfield 13, 3) := by decide +kernel
theorem d_M_flash_133 : decode b_M_flash 133 = .ok (.iconst 2, 1) := by decide +kernel
theorem d_M_flash_134 : decode b_M_flash 134 = .ok (.iload_n 1, 1) := by decide +kernel
theorem d_M_flash_135 : decode b_M_flash 135 = .ok (.imul, 1) := by decide +kernel
theorem d_M_flash_136 : decode b_M_flash 136 = .ok (.laload, 1) := by decide +kernel
theorem d_M_flash_137 : decode b_M_flash 137 = .ok (.lload 7, 2) := by decide +kernel
theorem d_M_flash_139 : decode b_M_flash 139 = .ok (.lcmp, 1) := by decide +kernel
theorem d_M_flash_140 : decode b_M_flash 140 = .ok (.ifCond .lt 19, 3) := by decide +kernel
theorem d_M_flash_143 : decode b_M_flash 143 = .ok (.aload_n 0, 1) := by decide +kernel
theorem d_M_flash_144 : decode b_M_flash 144 = .ok (.getfield 13, 3) := by decide +kernel
theorem d_M_flash_147 : decode b_M_flash 147 = .ok (.iconst 2, 1) := by decide +kernel
theorem d_M_flash_148 : decode b_M_flash 148 = .ok (.iload_n 1, 1) := by decide +kernel
theorem d_M_flash_149 : decode b_M_flash 149 = .ok (.imul, 1) := by decide +kernel
theorem d_M_flash_150 : decode b_M_flash 150 = .ok (.iconst 1, 1) := by decide +kernel
theorem d_M_flash_151 : decode b_M_flash 151 = .ok (.iadd, 1) := by decide +kernel
theorem d_M_flash_152 : decode b_M_flash 152 = .ok (.laload, 1) := by decide +kernel
theorem d_M_flash_153 : decode b_M_flash 153 = .ok (.lload 9, 2) := by decide +kernel
theorem d_M_flash_155 : decode b_M_flash 155 = .ok (.lcmp, 1) := by decide +kernel
theorem d_M_flash_156 : decode b_M_flash 156 = .ok (.ifCond .ge 7, 3) := by decide +kernel
theorem d_M_flash_159 : decode b_M_flash 159 = .ok (.ldc2_w 136, 3) := by decide +kernel
theorem d_M_flash_162 : decode b_M_flash 162 = .ok (.lreturn, 1) := by decide +kernel
theorem d_M_flash_163 : decode b_M_flash 163 = .ok (.aload_n 0, 1) := by decide +kernel
theorem d_M_flash_164 : decode b_M_flash 164 = .ok (.iload_n 1, 1) := by decide +kernel
theorem d_M_flash_165 : decode b_M_flash 165 = .ok (.lload 7, 2) := by decide +kernel
theorem d_M_flash_167 : decode b_M_flash 167 = .ok (.lload 9, 2) := by decide +kernel
theorem d_M_flash_169 : decode b_M_flash 169 = .ok (.invokevirtual 142, 3) := by decide +kernel
theorem d_M_flash_172 : decode b_M_flash 172 = .ok (.iconst 0, 1) := by decide +kernel
theorem d_M_flash_173 : decode b_M_flash 173 = .ok (.istore 11, 2) := by decide +kernel
theorem d_M_flash_175 : decode b_M_flash 175 = .ok (.iload 11, 2) := by decide +kernel
theorem d_M_flash_177 : decode b_M_flash 177 = .ok (.bipush 10, 2) := by decide +kernel
theorem d_M_flash_179 : decode b_M_flash 179 = .ok (.if_icmp .ge 116, 3) := by decide +kernel
theorem d_M_flash_182 : decode b_M_flash 182 = .ok (.aload_n 0, 1) := by decide +kernel
theorem d_M_flash_183 : decode b_M_flash 183 = .ok (.getfield 19, 3) := by decide +kernel
theorem d_M_flash_186 : decode b_M_flash 186 = .ok (.iload 11, 2) := by decide +kernel
theorem d_M_flash_188 : decode b_M_flash 188 = .ok (.baload, 1) := by decide +kernel
theorem d_M_flash_189 : decode b_M_flash 189 = .ok (.ifCond .eq 35, 3) := by decide +kernel
theorem d_M_flash_192 : decode b_M_flash 192 = .ok (.aload_n 0, 1) := by decide +kernel
theorem d_M_flash_193 : decode b_M_flash 193 = .ok (.getfield 27, 3) := by decide +kernel
theorem d_M_flash_196 : decode b_M_flash 196 = .ok (.iload 11, 2) := by decide +kernel
theorem d_M_flash_198 : decode b_M_flash 198 = .ok (.iaload, 1) := by decide +kernel
theorem d_M_flash_199 : decode b_M_flash 199 = .ok (.aload_n 0, 1) := by decide +kernel
theorem d_M_flash_200 : decode b_M_flash 200 = .ok (.getfield 86, 3) := by decide +kernel
theorem d_M_flash_203 : decode b_M_flash 203 = .ok (.if_icmp .gt 21, 3) := by decide +kernel
theorem d_M_flash_206 : decode b_M_flash 206 = .ok (.aload_n 0, 1) := by decide +kernel
theorem d_M_flash_207 : decode b_M_flash 207 = .ok (.getfield 86, 3) := by decide +kernel
theorem d_M_flash_210 : decode b_M_flash 210 = .ok (.aload_n 0, 1) := by decide +kernel
theorem d_M_flash_211 : decode b_M_flash 211 = .ok (.getfield 30, 3) := by decide +kernel
theorem d_M_flash_214 : decode b_M_flash 214 = .ok (.iload 11, 2) := by decide +kernel
theorem d_M_flash_216 : decode b_M_flash 216 = .ok (.iaload, 1) := by decide +kernel
theorem d_M_flash_217 : decode b_M_flash 217 = .ok (.if_icmp .ge 7, 3) := by decide +kernel
theorem d_M_flash_220 : decode b_M_flash 220 = .ok (.iconst 1, 1) := by decide +kernel
theorem d_M_flash_221 : decode b_M_flash 221 = .ok (.goto 4, 3) := by decide +kernel
theorem d_M_flash_224 : decode b_M_flash 224 = .ok (.iconst 0, 1) := by decide +kernel
theorem d_M_flash_225 : decode b_M_flash 225 = .ok (.istore 12, 2) := by decide +kernel
theorem d_M_flash_227 : decode b_M_flash 227 = .ok (.aload_n 0, 1) := by decide +kernel
theorem d_M_flash_228 : decode b_M_flash 228 = .ok (.getfield 39, 3) := by decide +kernel
theorem d_M_flash_231 : decode b_M_flash 231 = .ok (.iconst 2, 1) := by decide +kernel
theorem d_M_flash_232 : decode b_M_flash 232 = .ok (.iload 11, 2) := by decide +kernel
theorem d_M_flash_234 : decode b_M_flash 234 = .ok (.imul, 1) := by decide +kernel
theorem d_M_flash_235 : decode b_M_flash 235 = .ok (.dup2, 1) := by decide +kernel
theorem d_M_flash_236 : decode b_M_flash 236 = .ok (.laload, 1) := by decide +kernel
theorem d_M_flash_237 : decode b_M_flash 237 = .ok (.iload 12, 2) := by decide +kernel
theorem d_M_flash_239 : decode b_M_flash 239 = .ok (.ifCond .eq 15, 3) := by decide +kernel
theorem d_M_flash_242 : decode b_M_flash 242 = .ok (.lload 7, 2) := by decide +kernel
theorem d_M_flash_244 : decode b_M_flash 244 = .ok (.ldc2_w 103, 3) := by decide +kernel
theorem d_M_flash_247 : decode b_M_flash 247 = .ok (.lmul, 1) := by decide +kernel
theorem d_M_flash_248 : decode b_M_flash 248 = .ok (.lload 5, 2) := by decide +kernel
theorem d_M_flash_250 : decode b_M_flash 250 = .ok (.ldiv, 1) := by decide +kernel
theorem d_M_flash_251 : decode b_M_flash 251 = .ok (.goto 4, 3) := by decide +kernel
theorem d_M_flash_254 : decode b_M_flash 254 = .ok (.lconst 0, 1) := by decide +kernel
theorem d_M_flash_255 : decode b_M_flash 255 = .ok (.ladd, 1) := by decide +kernel
theorem d_M_flash_256 : decode b_M_flash 256 = .ok (.lastore, 1) := by decide +kernel
theorem d_M_flash_257 : decode b_M_flash 257 = .ok (.aload_n 0, 1) := by decide +kernel
theorem d_M_flash_258 : decode b_M_flash 258 = .ok (.getfield 39, 3) := by decide +kernel
theorem d_M_flash_261 : decode b_M_flash 261 = .ok (.iconst 2, 1) := by decide +kernel
theorem d_M_flash_262 : decode b_M_flash 262 = .ok (.iload 11, 2) := by decide +kernel
theorem d_M_flash_264 : decode b_M_flash 264 = .ok (.imul, 1) := by decide +kernel
theorem d_M_flash_265 : decode b_M_flash 265 = .ok (.iconst 1, 1) := by decide +kernel
theorem d_M_flash_266 : decode b_M_flash 266 = .ok (.iadd, 1) := by decide +kernel
theorem d_M_flash_267 : decode b_M_flash 267 = .ok (.dup2, 1) := by decide +kernel
theorem d_M_flash_268 : decode b_M_flash 268 = .ok (.laload, 1) := by decide +kernel
theorem d_M_flash_269 : decode b_M_flash 269 = .ok (.iload 12, 2) := by decide +kernel
theorem d_M_flash_271 : decode b_M_flash 271 = .ok (.ifCond .eq 15, 3) := by decide +kernel
theorem d_M_flash_274 : decode b_M_flash 274 = .ok (.lload 9, 2) := by decide +kernel
theorem d_M_flash_276 : decode b_M_flash 276 = .ok (.ldc2_w 103, 3) := by decide +kernel
theorem d_M_flash_279 : decode b_M_flash 279 = .ok (.lmul, 1) := by decide +kernel
theorem d_M_flash_280 : decode b_M_flash 280 = .ok (.lload 5, 2) := by decide +kernel
theorem d_M_flash_282 : decode b_M_flash 282 = .ok (.ldiv, 1) := by decide +kernel
theorem d_M_flash_283 : decode b_M_flash 283 = .ok (.goto 4, 3) := by decide +kernel
theorem d_M_flash_286 : decode b_M_flash 286 = .ok (.lconst 0, 1) := by decide +kernel
theorem d_M_flash_287 : decode b_M_flash 287 = .ok (.ladd, 1) := by decide +kernel
theorem d_M_flash_288 : decode b_M_flash 288 = .ok (.lastore, 1) := by decide +kernel
theorem d_M_flash_289 : decode b_M_flash 289 = .ok (.iinc 11 1, 3) := by decide +kernel
theorem d_M_flash_292 : decode b_M_flash 292 = .ok (.goto (-117), 3) := by decide +kernel
theorem d_M_flash_295 : decode b_M_flash 295 = .ok (.lload 7, 2) := by decide +kernel
theorem d_M_flash_297 : decode b_M_flash 297 = .ok (.ldc2_w 103, 3) := by decide +kernel
theorem d_M_flash_300 : decode b_M_flash 300 = .ok (.lmul, 1) := by decide +kernel
theorem d_M_flash_301 : decode b_M_flash 301 = .ok (.lload 9, 2) := by decide +kernel
theorem d_M_flash_303 : decode b_M_flash 303 = .ok (.ladd, 1) := by decide +kernel
theorem d_M_flash_304 : decode b_M_flash 304 = .ok (.lreturn, 1) := by decide +kernel
theorem d_M_advance_0 : decode b_M_advance 0 = .ok (.iload_n 1, 1) := by decide +kernel
theorem d_M_advance_1 : decode b_M_advance 1 = .ok (.ifCond .lt 10, 3) := by decide +kernel
theorem d_M_advance_4 : decode b_M_advance 4 = .ok (.iload_n 1, 1) := by decide +kernel
theorem d_M_advance_5 : decode b_M_advance 5 = .ok (.sipush 10000, 3) := by decide +kernel
theorem d_M_advance_8 : decode b_M_advance 8 = .ok (.if_icmp .le 5, 3) := by decide +kernel
theorem d_M_advance_11 : decode b_M_advance 11 = .ok (.iconst 0, 1) := by decide +kernel
theorem d_M_advance_12 : decode b_M_advance 12 = .ok (.ireturn, 1) := by decide +kernel
theorem d_M_advance_13 : decode b_M_advance 13 = .ok (.aload_n 0, 1) := by decide +kernel
theorem d_M_advance_14 : decode b_M_advance 14 = .ok (.dup, 1) := by decide +kernel
theorem d_M_advance_15 : decode b_M_advance 15 = .ok (.getfield 71, 3) := by decide +kernel
theorem d_M_advance_18 : decode b_M_advance 18 = .ok (.iload_n 1, 1) := by decide +kernel
theorem d_M_advance_19 : decode b_M_advance 19 = .ok (.i2l, 1) := by decide +kernel
theorem d_M_advance_20 : decode b_M_advance 20 = .ok (.ladd, 1) := by decide +kernel
theorem d_M_advance_21 : decode b_M_advance 21 = .ok (.putfield 71, 3) := by decide +kernel
theorem d_M_advance_24 : decode b_M_advance 24 = .ok (.aload_n 0, 1) := by decide +kernel
theorem d_M_advance_25 : decode b_M_advance 25 = .ok (.dup, 1) := by decide +kernel
theorem d_M_advance_26 : decode b_M_advance 26 = .ok (.getfield 75, 3) := by decide +kernel
theorem d_M_advance_29 : decode b_M_advance 29 = .ok (.aload_n 0, 1) := by decide +kernel
theorem d_M_advance_30 : decode b_M_advance 30 = .ok (.getfield 78, 3) := by decide +kernel
theorem d_M_advance_33 : decode b_M_advance 33 = .ok (.ifCond .eq 14, 3) := by decide +kernel
theorem d_M_advance_36 : decode b_M_advance 36 = .ok (.aload_n 0, 1) := by decide +kernel
theorem d_M_advance_37 : decode b_M_advance 37 = .ok (.getfield 86, 3) := by decide +kernel
theorem d_M_advance_40 : decode b_M_advance 40 = .ok (.i2l, 1) := by decide +kernel
theorem d_M_advance_41 : decode b_M_advance 41 = .ok (.iload_n 1, 1) := by decide +kernel
theorem d_M_advance_42 : decode b_M_advance 42 = .ok (.i2l, 1) := by decide +kernel
theorem d_M_advance_43 : decode b_M_advance 43 = .ok (.lmul, 1) := by decide +kernel
theorem d_M_advance_44 : decode b_M_advance 44 = .ok (.goto 4, 3) := by decide +kernel
theorem d_M_advance_47 : decode b_M_advance 47 = .ok (.lconst 0, 1) := by decide +kernel
theorem d_M_advance_48 : decode b_M_advance 48 = .ok (.ladd, 1) := by decide +kernel
theorem d_M_advance_49 : decode b_M_advance 49 = .ok (.putfield 75, 3) := by decide +kernel
theorem d_M_advance_52 : decode b_M_advance 52 = .ok (.iconst 1, 1) := by decide +kernel
theorem d_M_advance_53 : decode b_M_advance 53 = .ok (.ireturn, 1) := by decide +kernel
theorem d_M_observe_0 : decode b_M_observe 0 = .ok (.aload_n 0, 1) := by decide +kernel
theorem d_M_observe_1 : decode b_M_observe 1 = .ok (.getfield 78, 3) := by decide +kernel
theorem d_M_observe_4 : decode b_M_observe 4 = .ok (.ifCond .ne 7, 3) := by decide +kernel
theorem d_M_observe_7 : decode b_M_observe 7 = .ok (.ldc2_w 112, 3) := by decide +kernel
theorem d_M_observe_10 : decode b_M_observe 10 = .ok (.lreturn, 1) := by decide +kernel
theorem d_M_observe_11 : decode b_M_observe 11 = .ok (.iload_n 1, 1) := by decide +kernel
theorem d_M_observe_12 : decode b_M_observe 12 = .ok (.ifCond .ge 7, 3) := by decide +kernel
theorem d_M_observe_15 : decode b_M_observe 15 = .ok (.ldc2_w 119, 3) := by decide +kernel
theorem d_M_observe_18 : decode b_M_observe 18 = .ok (.lreturn, 1) := by decide +kernel
theorem d_M_observe_19 : decode b_M_observe 19 = .ok (.aload_n 0, 1) := by decide +kernel
theorem d_M_observe_20 : decode b_M_observe 20 = .ok (.getfield 71, 3) := by decide +kernel
theorem d_M_observe_23 : decode b_M_observe 23 = .ok (.iload_n 1, 1) := by decide +kernel
theorem d_M_observe_24 : decode b_M_observe 24 = .ok (.i2l, 1) := by decide +kernel
theorem d_M_observe_25 : decode b_M_observe 25 = .ok (.lsub, 1) := by decide +kernel
theorem d_M_observe_26 : decode b_M_observe 26 = .ok (.lstore_n 2, 1) := by decide +kernel
theorem d_M_observe_27 : decode b_M_observe 27 = .ok (.lload_n 2, 1) := by decide +kernel
theorem d_M_observe_28 : decode b_M_observe 28 = .ok (.aload_n 0, 1) := by decide +kernel
theorem d_M_observe_29 : decode b_M_observe 29 = .ok (.getfield 42, 3) := by decide +kernel
theorem d_M_observe_32 : decode b_M_observe 32 = .ok (.iconst 0, 1) := by decide +kernel
theorem d_M_observe_33 : decode b_M_observe 33 = .ok (.laload, 1) := by decide +kernel
theorem d_M_observe_34 : decode b_M_observe 34 = .ok (.lcmp, 1) := by decide +kernel
theorem d_M_observe_35 : decode b_M_observe 35 = .ok (.ifCond .ge 7, 3) := by decide +kernel
theorem d_M_observe_38 : decode b_M_observe 38 = .ok (.ldc2_w 195, 3) := by decide +kernel
theorem d_M_observe_41 : decode b_M_observe 41 = .ok (.lreturn, 1) := by decide +kernel
theorem d_M_observe_42 : decode b_M_observe 42 = .ok (.iconst 0, 1) := by decide +kernel
theorem d_M_observe_43 : decode b_M_observe 43 = .ok (.istore 4, 2) := by decide +kernel
theorem d_M_observe_45 : decode b_M_observe 45 = .ok (.iload 4, 2) := by decide +kernel
theorem d_M_observe_47 : decode b_M_observe 47 = .ok (.iconst 1, 1) := by decide +kernel
theorem d_M_observe_48 : decode b_M_observe 48 = .ok (.iadd, 1) := by decide +kernel
theorem d_M_observe_49 : decode b_M_observe 49 = .ok (.aload_n 0, 1) := by decide +kernel
theorem d_M_observe_50 : decode b_M_observe 50 = .ok (.getfield 68, 3) := by decide +kernel
theorem d_M_observe_53 : decode b_M_observe 53 = .ok (.if_icmp .ge 23, 3) := by decide +kernel
theorem d_M_observe_56 : decode b_M_observe 56 = .ok (.aload_n 0, 1) := by decide +kernel
theorem d_M_observe_57 : decode b_M_observe 57 = .ok (.getfield 42, 3) := by decide +kernel
theorem d_M_observe_60 : decode b_M_observe 60 = .ok (.iload 4, 2) := by decide +kernel
theorem d_M_observe_62 : decode b_M_observe 62 = .ok (.iconst 1, 1) := by decide +kernel
theorem d_M_observe_63 : decode b_M_observe 63 = .ok (.iadd, 1) := by decide +kernel
theorem d_M_observe_64 : decode b_M_observe 64 = .ok (.laload, 1) := by decide +kernel
theorem d_M_observe_65 : decode b_M_observe 65 = .ok (.lload_n 2, 1) := by decide +kernel
theorem d_M_observe_66 : decode b_M_observe 66 = .ok (.lcmp, 1) := by decide +kernel
theorem d_M_observe_67 : decode b_M_observe 67 = .ok (.ifCond .gt 9, 3) := by decide +kernel
theorem d_M_observe_70 : decode b_M_observe 70 = .ok (.iinc 4 1, 3) := by decide +kernel
theorem d_M_observe_73 : decode b_M_observe 73 = .ok (.goto (-28), 3) := by decide +kernel
theorem d_M_observe_76 : decode b_M_observe 76 = .ok (.iload 4, 2) := by decide +kernel
theorem d_M_observe_78 : decode b_M_observe 78 = .ok (.iconst 1, 1) := by decide +kernel
theorem d_M_observe_79 : decode b_M_observe 79 = .ok (.iadd, 1) := by decide +kernel
theorem d_M_observe_80 : decode b_M_observe 80 = .ok (.aload_n 0, 1) := by decide +kernel
theorem d_M_observe_81 : decode b_M_observe 81 = .ok (.getfield 68, 3) := by decide +kernel
theorem d_M_observe_84 : decode b_M_observe 84 = .ok (.if_icmp .ge 41, 3) := by decide +kernel
theorem d_M_observe_87 : decode b_M_observe 87 = .ok (.aload_n 0, 1) := by decide +kernel
theorem d_M_observe_88 : decode b_M_observe 88 = .ok (.getfield 45, 3) := by decide +kernel
theorem d_M_observe_91 : decode b_M_observe 91 = .ok (.iload 4, 2) := by decide +kernel
theorem d_M_observe_93 : decode b_M_observe 93 = .ok (.iconst 1, 1) := by decide +kernel
theorem d_M_observe_94 : decode b_M_observe 94 = .ok (.iadd, 1) := by decide +kernel
theorem d_M_observe_95 : decode b_M_observe 95 = .ok (.laload, 1) := by decide +kernel
theorem d_M_observe_96 : decode b_M_observe 96 = .ok (.aload_n 0, 1) := by decide +kernel
theorem d_M_observe_97 : decode b_M_observe 97 = .ok (.getfield 45, 3) := by decide +kernel
theorem d_M_observe_100 : decode b_M_observe 100 = .ok (.iload 4, 2) := by decide +kernel
theorem d_M_observe_102 : decode b_M_observe 102 = .ok (.laload, 1) := by decide +kernel
theorem d_M_observe_103 : decode b_M_observe 103 = .ok (.lsub, 1) := by decide +kernel
theorem d_M_observe_104 : decode b_M_observe 104 = .ok (.aload_n 0, 1) := by decide +kernel
theorem d_M_observe_105 : decode b_M_observe 105 = .ok (.getfield 42, 3) := by decide +kernel
theorem d_M_observe_108 : decode b_M_observe 108 = .ok (.iload 4, 2) := by decide +kernel
theorem d_M_observe_110 : decode b_M_observe 110 = .ok (.iconst 1, 1) := by decide +kernel
theorem d_M_observe_111 : decode b_M_observe 111 = .ok (.iadd, 1) := by decide +kernel
theorem d_M_observe_112 : decode b_M_observe 112 = .ok (.laload, 1) := by decide +kernel
theorem d_M_observe_113 : decode b_M_observe 113 = .ok (.aload_n 0, 1) := by decide +kernel
theorem d_M_observe_114 : decode b_M_observe 114 = .ok (.getfield 42, 3) := by decide +kernel
theorem d_M_observe_117 : decode b_M_observe 117 = .ok (.iload 4, 2) := by decide +kernel
theorem d_M_observe_119 : decode b_M_observe 119 = .ok (.laload, 1) := by decide +kernel
theorem d_M_observe_120 : decode b_M_observe 120 = .ok (.lsub, 1) := by decide +kernel
theorem d_M_observe_121 : decode b_M_observe 121 = .ok (.ldiv, 1) := by decide +kernel
theorem d_M_observe_122 : decode b_M_observe 122 = .ok (.goto 8, 3) := by decide +kernel
theorem d_M_observe_125 : decode b_M_observe 125 = .ok (.aload_n 0, 1) := by decide +kernel
theorem d_M_observe_126 : decode b_M_observe 126 = .ok (.getfield 86, 3) := by decide +kernel
theorem d_M_observe_129 : decode b_M_observe 129 = .ok (.i2l, 1) := by decide +kernel
theorem d_M_observe_130 : decode b_M_observe 130 = .ok (.lstore 5, 2) := by decide +kernel
theorem d_M_observe_132 : decode b_M_observe 132 = .ok (.aload_n 0, 1) := by decide +kernel
theorem d_M_observe_133 : decode b_M_observe 133 = .ok (.getfield 45, 3) := by decide +kernel
theorem d_M_observe_136 : decode b_M_observe 136 = .ok (.iload 4, 2) := by decide +kernel
theorem d_M_observe_138 : decode b_M_observe 138 = .ok (.laload, 1) := by decide +kernel
theorem d_M_observe_139 : decode b_M_observe 139 = .ok (.lload 5, 2) := by decide +kernel
theorem d_M_observe_141 : decode b_M_observe 141 = .ok (.lload_n 2, 1) := by decide +kernel
theorem d_M_observe_142 : decode b_M_observe 142 = .ok (.aload_n 0, 1) := by decide +kernel
theorem d_M_observe_143 : decode b_M_observe 143 = .ok (.getfield 42, 3) := by decide +kernel
theorem d_M_observe_146 : decode b_M_observe 146 = .ok (.iload 4, 2) := by decide +kernel
theorem d_M_observe_148 : decode b_M_observe 148 = .ok (.laload, 1) := by decide +kernel
theorem d_M_observe_149 : decode b_M_observe 149 = .ok (.lsub, 1) := by decide +kernel
theorem d_M_observe_150 : decode b_M_observe 150 = .ok (.lmul, 1) := by decide +kernel
theorem d_M_observe_151 : decode b_M_observe 151 = .ok (.ladd, 1) := by decide +kernel
theorem d_M_observe_152 : decode b_M_observe 152 = .ok (.lreturn, 1) := by decide +kernel
theorem d_M_price0_0 : decode b_M_price0 0 = .ok (.aload_n 0, 1) := by decide +kernel
theorem d_M_price0_1 : decode b_M_price0 1 = .ok (.getfield 93, 3) := by decide +kernel
theorem d_M_price0_4 : decode b_M_price0 4 = .ok (.l2i, 1) := by decide +kernel
theorem d_M_price0_5 : decode b_M_price0 5 = .ok (.ireturn, 1) := by decide +kernel
theorem d_M_step_0 : decode b_M_step 0 = .ok (.aload_n 0, 1) := by decide +kernel
theorem d_M_step_1 : decode b_M_step 1 = .ok (.getfield 86, 3) := by decide +kernel
theorem d_M_step_4 : decode b_M_step 4 = .ok (.ireturn, 1) := by decide +kernel
theorem d_M_depth_0 : decode b_M_depth 0 = .ok (.aload_n 0, 1) := by decide +kernel
theorem d_M_depth_1 : decode b_M_depth 1 = .ok (.aload_n 0, 1) := by decide +kernel
theorem d_M_depth_2 : decode b_M_depth 2 = .ok (.getfield 86, 3) := by decide +kernel
theorem d_M_depth_5 : decode b_M_depth 5 = .ok (.invokevirtual 167, 3) := by decide +kernel
theorem d_M_depth_8 : decode b_M_depth 8 = .ok (.l2i, 1) := by decide +kernel
theorem d_M_depth_9 : decode b_M_depth 9 = .ok (.ireturn, 1) := by decide +kernel
theorem d_M_wallet_0 : decode b_M_wallet 0 = .ok (.iload_n 1, 1) := by decide +kernel
theorem d_M_wallet_1 : decode b_M_wallet 1 = .ok (.invokestatic 99, 3) := by decide +kernel
theorem d_M_wallet_4 : decode b_M_wallet 4 = .ok (.ifCond .eq 25, 3) := by decide +kernel
theorem d_M_wallet_7 : decode b_M_wallet 7 = .ok (.iload_n 2, 1) := by decide +kernel
theorem d_M_wallet_8 : decode b_M_wallet 8 = .ok (.ifCond .lt 21, 3) := by decide +kernel
theorem d_M_wallet_11 : decode b_M_wallet 11 = .ok (.iload_n 2, 1) := by decide +kernel
theorem d_M_wallet_12 : decode b_M_wallet 12 = .ok (.iconst 1, 1) := by decide +kernel
theorem d_M_wallet_13 : decode b_M_wallet 13 = .ok (.if_icmp .gt 16, 3) := by decide +kernel
theorem d_M_wallet_16 : decode b_M_wallet 16 = .ok (.aload_n 0, 1) := by decide +kernel
theorem d_M_wallet_17 : decode b_M_wallet 17 = .ok (.getfield 13, 3) := by decide +kernel
theorem d_M_wallet_20 : decode b_M_wallet 20 = .ok (.iconst 2, 1) := by decide +kernel
theorem d_M_wallet_21 : decode b_M_wallet 21 = .ok (.iload_n 1, 1) := by decide +kernel
theorem d_M_wallet_22 : decode b_M_wallet 22 = .ok (.imul, 1) := by decide +kernel
theorem d_M_wallet_23 : decode b_M_wallet 23 = .ok (.iload_n 2, 1) := by decide +kernel
theorem d_M_wallet_24 : decode b_M_wallet 24 = .ok (.iadd, 1) := by decide +kernel
theorem d_M_wallet_25 : decode b_M_wallet 25 = .ok (.laload, 1) := by decide +kernel
theorem d_M_wallet_26 : decode b_M_wallet 26 = .ok (.goto 6, 3) := by decide +kernel
theorem d_M_wallet_29 : decode b_M_wallet 29 = .ok (.ldc2_w 119, 3) := by decide +kernel
theorem d_M_wallet_32 : decode b_M_wallet 32 = .ok (.lreturn, 1) := by decide +kernel
theorem d_M_reserve_0 : decode b_M_reserve 0 = .ok (.iload_n 1, 1) := by decide +kernel
theorem d_M_reserve_1 : decode b_M_reserve 1 = .ok (.ifCond .lt 17, 3) := by decide +kernel
theorem d_M_reserve_4 : decode b_M_reserve 4 = .ok (.iload_n 1, 1) := by decide +kernel
theorem d_M_reserve_5 : decode b_M_reserve 5 = .ok (.iconst 1, 1) := by decide +kernel
theorem d_M_reserve_6 : decode b_M_reserve 6 = .ok (.if_icmp .gt 12, 3) := by decide +kernel
theorem d_M_reserve_9 : decode b_M_reserve 9 = .ok (.aload_n 0, 1) := by decide +kernel
theorem d_M_reserve_10 : decode b_M_reserve 10 = .ok (.getfield 16, 3) := by decide +kernel
theorem d_M_reserve_13 : decode b_M_reserve 13 = .ok (.iload_n 1, 1) := by decide +kernel
theorem d_M_reserve_14 : decode b_M_reserve 14 = .ok (.laload, 1) := by decide +kernel
theorem d_M_reserve_15 : decode b_M_reserve 15 = .ok (.goto 6, 3) := by decide +kernel
theorem d_M_reserve_18 : decode b_M_reserve 18 = .ok (.ldc2_w 119, 3) := by decide +kernel
theorem d_M_reserve_21 : decode b_M_reserve 21 = .ok (.lreturn, 1) := by decide +kernel
theorem d_M_lot_0 : decode b_M_lot 0 = .ok (.aload_n 0, 1) := by decide +kernel
theorem d_M_lot_1 : decode b_M_lot 1 = .ok (.iload_n 1, 1) := by decide +kernel
theorem d_M_lot_2 : decode b_M_lot 2 = .ok (.iload_n 2, 1) := by decide +kernel
theorem d_M_lot_3 : decode b_M_lot 3 = .ok (.iload_n 3, 1) := by decide +kernel
theorem d_M_lot_4 : decode b_M_lot 4 = .ok (.invokevirtual 121, 3) := by decide +kernel
theorem d_M_lot_7 : decode b_M_lot 7 = .ok (.istore 5, 2) := by decide +kernel
theorem d_M_lot_9 : decode b_M_lot 9 = .ok (.iload 5, 2) := by decide +kernel
theorem d_M_lot_11 : decode b_M_lot 11 = .ok (.ifCond .ge 7, 3) := by decide +kernel
theorem d_M_lot_14 : decode b_M_lot 14 = .ok (.ldc2_w 146, 3) := by decide +kernel
theorem d_M_lot_17 : decode b_M_lot 17 = .ok (.lreturn, 1) := by decide +kernel
theorem d_M_lot_18 : decode b_M_lot 18 = .ok (.iload 4, 2) := by decide +kernel
theorem d_M_lot_20 : decode b_M_lot 20 = .ok (.ifCond .ne 13, 3) := by decide +kernel
theorem d_M_lot_23 : decode b_M_lot 23 = .ok (.aload_n 0, 1) := by decide +kernel
theorem d_M_lot_24 : decode b_M_lot 24 = .ok (.getfield 33, 3) := by decide +kernel
theorem d_M_lot_27 : decode b_M_lot 27 = .ok (.iload 5, 2) := by decide +kernel
theorem d_M_lot_29 : decode b_M_lot 29 = .ok (.laload, 1) := by decide +kernel
theorem d_M_lot_30 : decode b_M_lot 30 = .ok (.goto 44, 3) := by decide +kernel
theorem d_M_lot_33 : decode b_M_lot 33 = .ok (.iload 4, 2) := by decide +kernel
theorem d_M_lot_35 : decode b_M_lot 35 = .ok (.iconst 1, 1) := by decide +kernel
theorem d_M_lot_36 : decode b_M_lot 36 = .ok (.if_icmp .ne 15, 3) := by decide +kernel
theorem d_M_lot_39 : decode b_M_lot 39 = .ok (.aload_n 0, 1) := by decide +kernel
theorem d_M_lot_40 : decode b_M_lot 40 = .ok (.getfield 36, 3) := by decide +kernel
theorem d_M_lot_43 : decode b_M_lot 43 = .ok (.iconst 2, 1) := by decide +kernel
theorem d_M_lot_44 : decode b_M_lot 44 = .ok (.iload 5, 2) := by decide +kernel
theorem d_M_lot_46 : decode b_M_lot 46 = .ok (.imul, 1) := by decide +kernel
theorem d_M_lot_47 : decode b_M_lot 47 = .ok (.laload, 1) := by decide +kernel
theorem d_M_lot_48 : decode b_M_lot 48 = .ok (.goto 26, 3) := by decide +kernel
theorem d_M_lot_51 : decode b_M_lot 51 = .ok (.iload 4, 2) := by decide +kernel
theorem d_M_lot_53 : decode b_M_lot 53 = .ok (.iconst 2, 1) := by decide +kernel
theorem d_M_lot_54 : decode b_M_lot 54 = .ok (.if_icmp .ne 17, 3) := by decide +kernel
theorem d_M_lot_57 : decode b_M_lot 57 = .ok (.aload_n 0, 1) := by decide +kernel
theorem d_M_lot_58 : decode b_M_lot 58 = .ok (.getfield 36, 3) := by decide +kernel
theorem d_M_lot_61 : decode b_M_lot 61 = .ok (.iconst 2, 1) := by decide +kernel
theorem d_M_lot_62 : decode b_M_lot 62 = .ok (.iload 5, 2) := by decide +kernel
theorem d_M_lot_64 : decode b_M_lot 64 = .ok (.imul, 1) := by decide +kernel
theorem d_M_lot_65 : decode b_M_lot 65 = .ok (.iconst 1, 1) := by decide +kernel
theorem d_M_lot_66 : decode b_M_lot 66 = .ok (.iadd, 1) := by decide +kernel
theorem d_M_lot_67 : decode b_M_lot 67 = .ok (.laload, 1) := by decide +kernel
theorem d_M_lot_68 : decode b_M_lot 68 = .ok (.goto 6, 3) := by decide +kernel
theorem d_M_lot_71 : decode b_M_lot 71 = .ok (.ldc2_w 119, 3) := by decide +kernel
theorem d_M_lot_74 : decode b_M_lot 74 = .ok (.lreturn, 1) := by decide +kernel
theorem d_M_net_0 : decode b_M_net 0 = .ok (.lconst 0, 1) := by decide +kernel
theorem d_M_net_1 : decode b_M_net 1 = .ok (.lstore_n 2, 1) := by decide +kernel
theorem d_M_net_2 : decode b_M_net 2 = .ok (.iconst 0, 1) := by decide +kernel
theorem d_M_net_3 : decode b_M_net 3 = .ok (.istore 4, 2) := by decide +kernel
theorem d_M_net_5 : decode b_M_net 5 = .ok (.iload 4, 2) := by decide +kernel
theorem d_M_net_7 : decode b_M_net 7 = .ok (.bipush 10, 2) := by decide +kernel
theorem d_M_net_9 : decode b_M_net 9 = .ok (.if_icmp .ge 79, 3) := by decide +kernel
theorem d_M_net_12 : decode b_M_net 12 = .ok (.lload_n 2, 1) := by decide +kernel
theorem d_M_net_13 : decode b_M_net 13 = .ok (.aload_n 0, 1) := by decide +kernel
theorem d_M_net_14 : decode b_M_net 14 = .ok (.getfield 19, 3) := by decide +kernel
theorem d_M_net_17 : decode b_M_net 17 = .ok (.iload 4, 2) := by decide +kernel
theorem d_M_net_19 : decode b_M_net 19 = .ok (.baload, 1) := by decide +kernel
theorem d_M_net_20 : decode b_M_net 20 = .ok (.ifCond .eq 24, 3) := by decide +kernel
theorem d_M_net_23 : decode b_M_net 23 = .ok (.aload_n 0, 1) := by decide +kernel
theorem d_M_net_24 : decode b_M_net 24 = .ok (.getfield 27, 3) := by decide +kernel
theorem d_M_net_27 : decode b_M_net 27 = .ok (.iload 4, 2) := by decide +kernel
theorem d_M_net_29 : decode b_M_net 29 = .ok (.iaload, 1) := by decide +kernel
theorem d_M_net_30 : decode b_M_net 30 = .ok (.iload_n 1, 1) := by decide +kernel
theorem d_M_net_31 : decode b_M_net 31 = .ok (.if_icmp .ne 13, 3) := by decide +kernel
theorem d_M_net_34 : decode b_M_net 34 = .ok (.aload_n 0, 1) := by decide +kernel
theorem d_M_net_35 : decode b_M_net 35 = .ok (.getfield 33, 3) := by decide +kernel
theorem d_M_net_38 : decode b_M_net 38 = .ok (.iload 4, 2) := by decide +kernel
theorem d_M_net_40 : decode b_M_net 40 = .ok (.laload, 1) := by decide +kernel
theorem d_M_net_41 : decode b_M_net 41 = .ok (.goto 4, 3) := by decide +kernel
theorem d_M_net_44 : decode b_M_net 44 = .ok (.lconst 0, 1) := by decide +kernel
theorem d_M_net_45 : decode b_M_net 45 = .ok (.ladd, 1) := by decide +kernel
theorem d_M_net_46 : decode b_M_net 46 = .ok (.lstore_n 2, 1) := by decide +kernel
theorem d_M_net_47 : decode b_M_net 47 = .ok (.lload_n 2, 1) := by decide +kernel
theorem d_M_net_48 : decode b_M_net 48 = .ok (.aload_n 0, 1) := by decide +kernel
theorem d_M_net_49 : decode b_M_net 49 = .ok (.getfield 19, 3) := by decide +kernel
theorem d_M_net_52 : decode b_M_net 52 = .ok (.iload 4, 2) := by decide +kernel
theorem d_M_net_54 : decode b_M_net 54 = .ok (.baload, 1) := by decide +kernel
theorem d_M_net_55 : decode b_M_net 55 = .ok (.ifCond .eq 24, 3) := by decide +kernel
theorem d_M_net_58 : decode b_M_net 58 = .ok (.aload_n 0, 1) := by decide +kernel
theorem d_M_net_59 : decode b_M_net 59 = .ok (.getfield 30, 3) := by decide +kernel
theorem d_M_net_62 : decode b_M_net 62 = .ok (.iload 4, 2) := by decide +kernel
theorem d_M_net_64 : decode b_M_net 64 = .ok (.iaload, 1) := by decide +kernel
theorem d_M_net_65 : decode b_M_net 65 = .ok (.iload_n 1, 1) := by decide +kernel
theorem d_M_net_66 : decode b_M_net 66 = .ok (.if_icmp .ne 13, 3) := by decide +kernel
theorem d_M_net_69 : decode b_M_net 69 = .ok (.aload_n 0, 1) := by decide +kernel
theorem d_M_net_70 : decode b_M_net 70 = .ok (.getfield 33, 3) := by decide +kernel
theorem d_M_net_73 : decode b_M_net 73 = .ok (.iload 4, 2) := by decide +kernel
theorem d_M_net_75 : decode b_M_net 75 = .ok (.laload, 1) := by decide +kernel
theorem d_M_net_76 : decode b_M_net 76 = .ok (.goto 4, 3) := by decide +kernel
theorem d_M_net_79 : decode b_M_net 79 = .ok (.lconst 0, 1) := by decide +kernel
theorem d_M_net_80 : decode b_M_net 80 = .ok (.lsub, 1) := by decide +kernel
theorem d_M_net_81 : decode b_M_net 81 = .ok (.lstore_n 2, 1) := by decide +kernel
theorem d_M_net_82 : decode b_M_net 82 = .ok (.iinc 4 1, 3) := by decide +kernel
theorem d_M_net_85 : decode b_M_net 85 = .ok (.goto (-80), 3) := by decide +kernel
theorem d_M_net_88 : decode b_M_net 88 = .ok (.lload_n 2, 1) := by decide +kernel
theorem d_M_net_89 : decode b_M_net 89 = .ok (.l2i, 1) := by decide +kernel
theorem d_M_net_90 : decode b_M_net 90 = .ok (.ireturn, 1) := by decide +kernel
